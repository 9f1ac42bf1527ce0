set_option maxHeartbeats 4000000 in
set_option maxRecDepth 100000 in
theorem LC_give (l : Launch) (hl9 : l.stackTraces = false) {p : Program} {e : Env} {s : State} {m : MethodId} {below : List Frame} {meth : Method} {c : Code} {b L : Nat} {xs : Nat → Int32} {G : GE} {o a0 : Nat} {adm : Nat → Nat} (C : CallFix p m c cL_law 7 s #[Value.ref b] gTb RL) (hE : EN (fun q => s.heap.size ≤ q) G s s.heap) (hN : NCX s) (hX : va_X b L xs s s.heap) (hbl : b < s.heap.size) (hF : LFX s.heap.size o adm) (hL : L ≤ 2048) {i N cc9 ss9 : Nat} {Qw : State → Prop} {H : Heap} {locs : List Loc} {ls : Array Slot} (hi : 4 * i + 4 ≤ L) (hcc : cc9 ≤ 100 + 10 * i) (hss : ss9 ≤ 2000 + 300 * i) (hN2 : N < 1000) (hS : va_S (fun q => s.heap.size ≤ q) s.heap H locs) (hV : LINV G s.heap.size o a0 adm N H) (hl : lv_has ls 7 [(4, .int (nI (4 * i))), (0, .ref b), (1, .ref a0), (2, .ref (adm 30)), (3, .ref o)])
    (kk : ∀ (H1 : Heap) (locs1 : List Loc) (ls1 : Array Slot) (cc1 ss1 : Nat), cc1 ≤ cc9 + 10 → ss1 ≤ ss9 + 300 → va_S (fun q => s.heap.size ≤ q) s.heap H1 locs1 → LINV G s.heap.size o a0 adm (N + 1) H1 → lv_has ls1 7 [(4, .int (nI (4 * i))), (0, .ref b), (1, .ref a0), (2, .ref (adm 30)), (3, .ref o)] → W p l e room_1 s m #[Value.ref b] below meth c H1 locs1 cc1 ss1 Qw (F0 m 1851 ls1 [])) : W p l e room_1 s m #[Value.ref b] below meth c H locs cc9 ss9 Qw (F0 m 1191 ls []) := by
  have hx := C.1
  have hb := C.2.1
  have hown := C.2.2.2.1
  have hts := C.2.2.2.2
  obtain ⟨ad, σ, τ, qs, nT, nW, f, D, y0, rfl, hP, hM, ho9, hR, hI⟩ := hV
  have h80 := hR.n80
  refine lv_aload_n hx hb dL_law_1191 rfl (lv_at hl 2 rfl) ?_
  refine lv_aload_n hx hb dL_law_1192 rfl (lv_at hl 1 rfl) ?_
  refine lv_iload hx hb dL_law_1193 (lv_at hl 0 rfl) ?_
  refine lv_iconst (v := 1) hx hb dL_law_1195 (by decide) ?_
  refine lv_iadd hx hb dL_law_1196 ?_
  rw [i4_1]
  refine va_sld hx hb hX hbl (Nat.not_le.mpr hbl) hS (vp_in_nI (show 4 * i + 1 < L by omega) (by omega)) dL_law_1197 ?_
  rw [nI_clamp (show 4 * i + 1 < 2 ^ 31 by omega)]
  refine lv_aload_n hx hb dL_law_1198 rfl (lv_at hl 1 rfl) ?_
  refine lv_iload hx hb dL_law_1199 (lv_at hl 0 rfl) ?_
  refine lv_iconst (v := 2) hx hb dL_law_1201 (by decide) ?_
  refine lv_iadd hx hb dL_law_1202 ?_
  rw [i4_2]
  refine va_sld hx hb hX hbl (Nat.not_le.mpr hbl) hS (vp_in_nI (show 4 * i + 2 < L by omega) (by omega)) dL_law_1203 ?_
  rw [nI_clamp (show 4 * i + 2 < 2 ^ 31 by omega)]
  refine lv_aload_n hx hb dL_law_1204 rfl (lv_at hl 1 rfl) ?_
  refine lv_iload hx hb dL_law_1205 (lv_at hl 0 rfl) ?_
  refine lv_iconst (v := 3) hx hb dL_law_1207 (by decide) ?_
  refine lv_iadd hx hb dL_law_1208 ?_
  rw [i4_3]
  refine va_sld hx hb hX hbl (Nat.not_le.mpr hbl) hS (vp_in_nI (show 4 * i + 3 < L by omega) (by omega)) dL_law_1209 ?_
  rw [nI_clamp (show 4 * i + 3 < 2 ^ 31 by omega)]
  refine lv_aload_n hx hb dL_law_1210 rfl (lv_at hl 4 rfl) ?_
  refine hcallH (n := 5) C hE hN (hL_give l G (AxL s.heap.size o adm) (fun q => AxL s.heap.size o adm q ∨ q = o) o (fun q h => Or.inl h) (Or.inr rfl) (fun h => h.2.1 rfl) ad σ qs nT nW hl9 (xs (4 * i + 1)) (xs (4 * i + 2)) (xs (4 * i + 3))) wML_L_154 wST_L_give wIN_L wCW_L_give (by decide) rfl ⟨Nat.le_of_ble_eq_true rfl, Nat.le_of_ble_eq_true rfl⟩ hS (fun q h => h.elim (fun h => h.1) (fun h => h ▸ hF.1)) (fun q h => Or.inl (AxL.new hM ho9 hS.1 q h)) ⟨hP, ⟨_, ho9⟩, fun q h => AxL.new hM ho9 hS.1 q h⟩ rfl hl.1 (Nat.le_of_ble_eq_true rfl) dL_law_1211 ⟨by show cc9 + 4 ≤ 601024; omega, by show ss9 + 24 ≤ 7293034; omega⟩ (fun v H1 locs1 hv hk hS => ?_)
  have hM1 : PM G (McL adm) adm τ H1 := hM.keptL hk (fun q hq h => h.elim (fun h => h.2.2 hq) (fun h => hF.2.1 (h ▸ hq)))
  rcases hv with ⟨x, H0, rfl, hq, ho2, z2, oq2⟩ | ⟨E, hx9, hcode, y2, ho2⟩
  · skip
    refine lv_istore (lv' := [(5, .int 0), (4, .int (nI (4 * i))), (0, .ref b), (1, .ref (ad 0 0)), (2, .ref (adm 30)), (3, .ref o)]) hx hb dL_law_1214 hl (by decide) rfl (fun ls hl => ?_)
    refine lv_aload_n hx hb dL_law_1216 rfl (lv_at hl 4 rfl) ?_
    refine lv_aload_n hx hb dL_law_1217 rfl (lv_at hl 2 rfl) ?_
    refine lv_iload hx hb dL_law_1218 (lv_at hl 1 rfl) ?_
    refine lv_iconst (v := 1) hx hb dL_law_1220 (by decide) ?_
    refine lv_iadd hx hb dL_law_1221 ?_
    rw [i4_1]
    refine va_sld hx hb hX hbl (Nat.not_le.mpr hbl) hS (vp_in_nI (show 4 * i + 1 < L by omega) (by omega)) dL_law_1222 ?_
    rw [nI_clamp (show 4 * i + 1 < 2 ^ 31 by omega)]
    refine lv_aload_n hx hb dL_law_1223 rfl (lv_at hl 2 rfl) ?_
    refine lv_iload hx hb dL_law_1224 (lv_at hl 1 rfl) ?_
    refine lv_iconst (v := 2) hx hb dL_law_1226 (by decide) ?_
    refine lv_iadd hx hb dL_law_1227 ?_
    rw [i4_2]
    refine va_sld hx hb hX hbl (Nat.not_le.mpr hbl) hS (vp_in_nI (show 4 * i + 2 < L by omega) (by omega)) dL_law_1228 ?_
    rw [nI_clamp (show 4 * i + 2 < 2 ^ 31 by omega)]
    refine lv_aload_n hx hb dL_law_1229 rfl (lv_at hl 2 rfl) ?_
    refine lv_iload hx hb dL_law_1230 (lv_at hl 1 rfl) ?_
    refine lv_iconst (v := 3) hx hb dL_law_1232 (by decide) ?_
    refine lv_iadd hx hb dL_law_1233 ?_
    rw [i4_3]
    refine va_sld hx hb hX hbl (Nat.not_le.mpr hbl) hS (vp_in_nI (show 4 * i + 3 < L by omega) (by omega)) dL_law_1234 ?_
    rw [nI_clamp (show 4 * i + 3 < 2 ^ 31 by omega)]
    refine hcallV (n := 3) C hE (kR_give l G (fun q => McL adm q ∨ H1.size ≤ q) adm τ (xs (4 * i + 1)) (xs (4 * i + 2)) (xs (4 * i + 3))) wML_L_156 wIM_X6_give wSE_X6_X6_give wIN_X6 wCO_X6_give (by decide) rfl ⟨Nat.le_of_ble_eq_true rfl, Nat.le_of_ble_eq_true rfl⟩ (orec hE hM1.main (show mcl[8]? = some (RX6, TX6, 30) from rfl)) hS (fun q h => h.elim (fun h => hF.2.2 q h) (fun h => Nat.le_trans hS.1 h)) (fun q h => Or.inr h) (hM1.any (fun q h => Or.inl h)) rfl hl.1 (Nat.le_of_ble_eq_true rfl) dL_law_1235 ⟨by show cc9 + 4 + 0 ≤ 601024; omega, by show ss9 + 24 + 0 ≤ 7293034; omega⟩ (fun E ce q9 H1 locs1 hx9 _ _ _ _ _ => hx9.elim) (fun v H2 locs2 hv2 hk2 hS => ?_)
    obtain ⟨x9, τ', rfl, hM2, hcm⟩ := hv2
    have hM3 : PM G (McL adm) adm τ' H2 := hM2.any (fun q h => h)
    have ho3 := ho2.kept (hk2.2 _ ho2.lt (fun h => h.elim hF.2.1 (fun h => absurd ho2.lt (Nat.not_lt.mpr h))))
    obtain ⟨e27, ex, ad', σ', qs', nT', nW', f', D', ea, hP2, hR2, hI2⟩ := st_give hR hI hq hcm
    obtain rfl : x = x9 := by cases ex; rfl
    have hP3 := hP2.kept (A1 := fun q => q = o) ⟨Nat.le_of_eq z2.symm, fun q _ hne => oq2 q hne⟩ (fun q h _ e => h.2.1 e)
    have hP4 := hP3.kept hk2 (fun q h hlt h2 => h2.elim h.2.2 (fun h3 => absurd hlt (Nat.not_lt.mpr h3)))
    refine lv_istore (lv' := [(6, .int x), (5, .int 0), (4, .int (nI (4 * i))), (0, .ref b), (1, .ref (ad 0 0)), (2, .ref (adm 30)), (3, .ref o)]) hx hb dL_law_1238 hl (by decide) rfl (fun ls hl => ?_)
    refine lv_aload_n hx hb dL_law_1240 rfl (lv_at hl 5 rfl) ?_
    refine hcallV (n := 0) C hE (kM_thrown l G (fun q => H2.size ≤ q) (McL adm) adm τ') wML_L_105 wIM_X6_thrown wSE_X6_X6_thrown wIN_X6 wCO_X6_thrown (by decide) rfl ⟨Nat.le_of_ble_eq_true rfl, Nat.le_of_ble_eq_true rfl⟩ (orec hE hM3.main (show mcl[8]? = some (RX6, TX6, 30) from rfl)) hS (fun q h => Nat.le_trans hS.1 h) (fun q h => h) hM3 rfl hl.1 (Nat.le_of_ble_eq_true rfl) dL_law_1241 ⟨by show cc9 + 4 + 0 + 0 ≤ 601024; omega, by show ss9 + 24 + 0 + 0 ≤ 7293034; omega⟩ (fun E ce q9 H1 locs1 hx9 _ _ _ _ _ => hx9.elim) (fun v H3 locs3 hv3 hk3 hS => ?_)
    obtain rfl : v = some (.int 0) := by rw [hv3, e27]
    have hP5 := hP4.old hk3
    have hM5 := hM3.old hk3
    have ho5 := ho3.kept (hk3.2 _ ho3.lt (Nat.not_le.mpr ho3.lt))
    refine lv_iload hx hb dL_law_1244 (lv_at hl 1 rfl) ?_
    refine lv_icmp_eq (tgt := 1251) hx hb dL_law_1246 (by decide) (fun c_1246_1 => ?_) (fun c_1246_1 => ?_)
    · refine lv_iload hx hb dL_law_1251 (lv_at hl 1 rfl) ?_
      refine lv_if_ne (tgt := 1268) hx hb dL_law_1253 (by decide) (fun c_1253_2 => ?_) (fun c_1253_2 => ?_)
      · exact absurd c_1253_2 (by decide)
      · refine lv_aload_n hx hb dL_law_1256 rfl (lv_at hl 6 rfl) ?_
        refine lv_iconst (v := 0) hx hb dL_law_1257 (by decide) ?_
        refine xlald hx hb hE.1.1 ho5 dL_law_1258 ?_
        refine lv_iload hx hb dL_law_1259 (lv_at hl 0 rfl) ?_
        refine lv_i2l hx hb dL_law_1261 rfl ?_
        refine W.lcmp hx hb dL_law_1262 ?_
        rw [lcmp0]
        refine lv_if_eq (tgt := 1268) hx hb dL_law_1263 (by decide) (fun c_1263_3 => ?_) (fun c_1263_3 => ?_)
        · refine lv_goto (tgt := 1851) hx hb dL_law_1268 (by decide) ?_
          exact kk H3 locs3 ls _ _ (show cc9 + 4 + 0 + 0 ≤ cc9 + 10 by omega) (show ss9 + 24 + 0 + 0 ≤ ss9 + 300 by omega) hS ⟨ad', σ', τ', qs', nT', nW', f', D', _, ea, hP5, hM5, ho5, hR2, hI2⟩ (lv_sub hl [2, 3, 4, 5, 6] rfl)
        · exact absurd c_1263_3 (by decide)
    · exact absurd c_1246_1 (by decide)
  · rcases hcode with ⟨eE, rfl⟩ | ⟨eE, rfl⟩
    · skip
      refine lv_istore (lv' := [(5, .int 1), (4, .int (nI (4 * i))), (0, .ref b), (1, .ref (ad 0 0)), (2, .ref (adm 30)), (3, .ref o)]) hx hb dL_law_1214 hl (by decide) rfl (fun ls hl => ?_)
      refine lv_aload_n hx hb dL_law_1216 rfl (lv_at hl 4 rfl) ?_
      refine lv_aload_n hx hb dL_law_1217 rfl (lv_at hl 2 rfl) ?_
      refine lv_iload hx hb dL_law_1218 (lv_at hl 1 rfl) ?_
      refine lv_iconst (v := 1) hx hb dL_law_1220 (by decide) ?_
      refine lv_iadd hx hb dL_law_1221 ?_
      rw [i4_1]
      refine va_sld hx hb hX hbl (Nat.not_le.mpr hbl) hS (vp_in_nI (show 4 * i + 1 < L by omega) (by omega)) dL_law_1222 ?_
      rw [nI_clamp (show 4 * i + 1 < 2 ^ 31 by omega)]
      refine lv_aload_n hx hb dL_law_1223 rfl (lv_at hl 2 rfl) ?_
      refine lv_iload hx hb dL_law_1224 (lv_at hl 1 rfl) ?_
      refine lv_iconst (v := 2) hx hb dL_law_1226 (by decide) ?_
      refine lv_iadd hx hb dL_law_1227 ?_
      rw [i4_2]
      refine va_sld hx hb hX hbl (Nat.not_le.mpr hbl) hS (vp_in_nI (show 4 * i + 2 < L by omega) (by omega)) dL_law_1228 ?_
      rw [nI_clamp (show 4 * i + 2 < 2 ^ 31 by omega)]
      refine lv_aload_n hx hb dL_law_1229 rfl (lv_at hl 2 rfl) ?_
      refine lv_iload hx hb dL_law_1230 (lv_at hl 1 rfl) ?_
      refine lv_iconst (v := 3) hx hb dL_law_1232 (by decide) ?_
      refine lv_iadd hx hb dL_law_1233 ?_
      rw [i4_3]
      refine va_sld hx hb hX hbl (Nat.not_le.mpr hbl) hS (vp_in_nI (show 4 * i + 3 < L by omega) (by omega)) dL_law_1234 ?_
      rw [nI_clamp (show 4 * i + 3 < 2 ^ 31 by omega)]
      refine hcallV (n := 3) C hE (kR_give l G (fun q => McL adm q ∨ H1.size ≤ q) adm τ (xs (4 * i + 1)) (xs (4 * i + 2)) (xs (4 * i + 3))) wML_L_156 wIM_X6_give wSE_X6_X6_give wIN_X6 wCO_X6_give (by decide) rfl ⟨Nat.le_of_ble_eq_true rfl, Nat.le_of_ble_eq_true rfl⟩ (orec hE hM1.main (show mcl[8]? = some (RX6, TX6, 30) from rfl)) hS (fun q h => h.elim (fun h => hF.2.2 q h) (fun h => Nat.le_trans hS.1 h)) (fun q h => Or.inr h) (hM1.any (fun q h => Or.inl h)) rfl hl.1 (Nat.le_of_ble_eq_true rfl) dL_law_1235 ⟨by show cc9 + 4 + 0 ≤ 601024; omega, by show ss9 + 24 + 0 ≤ 7293034; omega⟩ (fun E ce q9 H1 locs1 hx9 _ _ _ _ _ => hx9.elim) (fun v H2 locs2 hv2 hk2 hS => ?_)
      obtain ⟨x9, τ', rfl, hM2, hcm⟩ := hv2
      have hM3 : PM G (McL adm) adm τ' H2 := hM2.any (fun q h => h)
      have ho3 := ho2.kept (hk2.2 _ ho2.lt (fun h => h.elim hF.2.1 (fun h => absurd ho2.lt (Nat.not_lt.mpr h))))
      have hex : EXT G (AxL s.heap.size o adm) ad H1 N 1 τ' := by
        rcases sx_give hR hI hx9 hcm with ⟨e1, z⟩ | ⟨e1, z⟩
        · exact z
        · exact absurd (eE.symm.trans e1) (by decide)
      obtain ⟨e27, ad', σ', qs', nT', nW', f', D', ea, hP3, hR2, hI2⟩ := hex
      have hP4 := hP3.kept hk2 (fun q h hlt h2 => h2.elim h.2.2 (fun h3 => absurd hlt (Nat.not_lt.mpr h3)))
      refine lv_istore (lv' := [(6, .int x9), (5, .int 1), (4, .int (nI (4 * i))), (0, .ref b), (1, .ref (ad 0 0)), (2, .ref (adm 30)), (3, .ref o)]) hx hb dL_law_1238 hl (by decide) rfl (fun ls hl => ?_)
      refine lv_aload_n hx hb dL_law_1240 rfl (lv_at hl 5 rfl) ?_
      refine hcallV (n := 0) C hE (kM_thrown l G (fun q => H2.size ≤ q) (McL adm) adm τ') wML_L_105 wIM_X6_thrown wSE_X6_X6_thrown wIN_X6 wCO_X6_thrown (by decide) rfl ⟨Nat.le_of_ble_eq_true rfl, Nat.le_of_ble_eq_true rfl⟩ (orec hE hM3.main (show mcl[8]? = some (RX6, TX6, 30) from rfl)) hS (fun q h => Nat.le_trans hS.1 h) (fun q h => h) hM3 rfl hl.1 (Nat.le_of_ble_eq_true rfl) dL_law_1241 ⟨by show cc9 + 4 + 0 + 0 ≤ 601024; omega, by show ss9 + 24 + 0 + 0 ≤ 7293034; omega⟩ (fun E ce q9 H1 locs1 hx9 _ _ _ _ _ => hx9.elim) (fun v H3 locs3 hv3 hk3 hS => ?_)
      obtain rfl : v = some (.int 1) := by rw [hv3, e27]
      have hP5 := hP4.old hk3
      have hM5 := hM3.old hk3
      have ho5 := ho3.kept (hk3.2 _ ho3.lt (Nat.not_le.mpr ho3.lt))
      refine lv_iload hx hb dL_law_1244 (lv_at hl 1 rfl) ?_
      refine lv_icmp_eq (tgt := 1251) hx hb dL_law_1246 (by decide) (fun c_1246_4 => ?_) (fun c_1246_4 => ?_)
      · refine lv_iload hx hb dL_law_1251 (lv_at hl 1 rfl) ?_
        refine lv_if_ne (tgt := 1268) hx hb dL_law_1253 (by decide) (fun c_1253_5 => ?_) (fun c_1253_5 => ?_)
        · refine lv_goto (tgt := 1851) hx hb dL_law_1268 (by decide) ?_
          exact kk H3 locs3 ls _ _ (show cc9 + 4 + 0 + 0 ≤ cc9 + 10 by omega) (show ss9 + 24 + 0 + 0 ≤ ss9 + 300 by omega) hS ⟨ad', σ', τ', qs', nT', nW', f', D', _, ea, hP5, hM5, ho5, hR2, hI2⟩ (lv_sub hl [2, 3, 4, 5, 6] rfl)
        · exact absurd c_1253_5 (by decide)
      · exact absurd c_1246_4 (by decide)
    · skip
      refine lv_istore (lv' := [(5, .int 2), (4, .int (nI (4 * i))), (0, .ref b), (1, .ref (ad 0 0)), (2, .ref (adm 30)), (3, .ref o)]) hx hb dL_law_1214 hl (by decide) rfl (fun ls hl => ?_)
      refine lv_aload_n hx hb dL_law_1216 rfl (lv_at hl 4 rfl) ?_
      refine lv_aload_n hx hb dL_law_1217 rfl (lv_at hl 2 rfl) ?_
      refine lv_iload hx hb dL_law_1218 (lv_at hl 1 rfl) ?_
      refine lv_iconst (v := 1) hx hb dL_law_1220 (by decide) ?_
      refine lv_iadd hx hb dL_law_1221 ?_
      rw [i4_1]
      refine va_sld hx hb hX hbl (Nat.not_le.mpr hbl) hS (vp_in_nI (show 4 * i + 1 < L by omega) (by omega)) dL_law_1222 ?_
      rw [nI_clamp (show 4 * i + 1 < 2 ^ 31 by omega)]
      refine lv_aload_n hx hb dL_law_1223 rfl (lv_at hl 2 rfl) ?_
      refine lv_iload hx hb dL_law_1224 (lv_at hl 1 rfl) ?_
      refine lv_iconst (v := 2) hx hb dL_law_1226 (by decide) ?_
      refine lv_iadd hx hb dL_law_1227 ?_
      rw [i4_2]
      refine va_sld hx hb hX hbl (Nat.not_le.mpr hbl) hS (vp_in_nI (show 4 * i + 2 < L by omega) (by omega)) dL_law_1228 ?_
      rw [nI_clamp (show 4 * i + 2 < 2 ^ 31 by omega)]
      refine lv_aload_n hx hb dL_law_1229 rfl (lv_at hl 2 rfl) ?_
      refine lv_iload hx hb dL_law_1230 (lv_at hl 1 rfl) ?_
      refine lv_iconst (v := 3) hx hb dL_law_1232 (by decide) ?_
      refine lv_iadd hx hb dL_law_1233 ?_
      rw [i4_3]
      refine va_sld hx hb hX hbl (Nat.not_le.mpr hbl) hS (vp_in_nI (show 4 * i + 3 < L by omega) (by omega)) dL_law_1234 ?_
      rw [nI_clamp (show 4 * i + 3 < 2 ^ 31 by omega)]
      refine hcallV (n := 3) C hE (kR_give l G (fun q => McL adm q ∨ H1.size ≤ q) adm τ (xs (4 * i + 1)) (xs (4 * i + 2)) (xs (4 * i + 3))) wML_L_156 wIM_X6_give wSE_X6_X6_give wIN_X6 wCO_X6_give (by decide) rfl ⟨Nat.le_of_ble_eq_true rfl, Nat.le_of_ble_eq_true rfl⟩ (orec hE hM1.main (show mcl[8]? = some (RX6, TX6, 30) from rfl)) hS (fun q h => h.elim (fun h => hF.2.2 q h) (fun h => Nat.le_trans hS.1 h)) (fun q h => Or.inr h) (hM1.any (fun q h => Or.inl h)) rfl hl.1 (Nat.le_of_ble_eq_true rfl) dL_law_1235 ⟨by show cc9 + 4 + 0 ≤ 601024; omega, by show ss9 + 24 + 0 ≤ 7293034; omega⟩ (fun E ce q9 H1 locs1 hx9 _ _ _ _ _ => hx9.elim) (fun v H2 locs2 hv2 hk2 hS => ?_)
      obtain ⟨x9, τ', rfl, hM2, hcm⟩ := hv2
      have hM3 : PM G (McL adm) adm τ' H2 := hM2.any (fun q h => h)
      have ho3 := ho2.kept (hk2.2 _ ho2.lt (fun h => h.elim hF.2.1 (fun h => absurd ho2.lt (Nat.not_lt.mpr h))))
      have hex : EXT G (AxL s.heap.size o adm) ad H1 N 2 τ' := by
        rcases sx_give hR hI hx9 hcm with ⟨e1, z⟩ | ⟨e1, z⟩
        · exact absurd (eE.symm.trans e1) (by decide)
        · exact z
      obtain ⟨e27, ad', σ', qs', nT', nW', f', D', ea, hP3, hR2, hI2⟩ := hex
      have hP4 := hP3.kept hk2 (fun q h hlt h2 => h2.elim h.2.2 (fun h3 => absurd hlt (Nat.not_lt.mpr h3)))
      refine lv_istore (lv' := [(6, .int x9), (5, .int 2), (4, .int (nI (4 * i))), (0, .ref b), (1, .ref (ad 0 0)), (2, .ref (adm 30)), (3, .ref o)]) hx hb dL_law_1238 hl (by decide) rfl (fun ls hl => ?_)
      refine lv_aload_n hx hb dL_law_1240 rfl (lv_at hl 5 rfl) ?_
      refine hcallV (n := 0) C hE (kM_thrown l G (fun q => H2.size ≤ q) (McL adm) adm τ') wML_L_105 wIM_X6_thrown wSE_X6_X6_thrown wIN_X6 wCO_X6_thrown (by decide) rfl ⟨Nat.le_of_ble_eq_true rfl, Nat.le_of_ble_eq_true rfl⟩ (orec hE hM3.main (show mcl[8]? = some (RX6, TX6, 30) from rfl)) hS (fun q h => Nat.le_trans hS.1 h) (fun q h => h) hM3 rfl hl.1 (Nat.le_of_ble_eq_true rfl) dL_law_1241 ⟨by show cc9 + 4 + 0 + 0 ≤ 601024; omega, by show ss9 + 24 + 0 + 0 ≤ 7293034; omega⟩ (fun E ce q9 H1 locs1 hx9 _ _ _ _ _ => hx9.elim) (fun v H3 locs3 hv3 hk3 hS => ?_)
      obtain rfl : v = some (.int 2) := by rw [hv3, e27]
      have hP5 := hP4.old hk3
      have hM5 := hM3.old hk3
      have ho5 := ho3.kept (hk3.2 _ ho3.lt (Nat.not_le.mpr ho3.lt))
      refine lv_iload hx hb dL_law_1244 (lv_at hl 1 rfl) ?_
      refine lv_icmp_eq (tgt := 1251) hx hb dL_law_1246 (by decide) (fun c_1246_6 => ?_) (fun c_1246_6 => ?_)
      · refine lv_iload hx hb dL_law_1251 (lv_at hl 1 rfl) ?_
        refine lv_if_ne (tgt := 1268) hx hb dL_law_1253 (by decide) (fun c_1253_7 => ?_) (fun c_1253_7 => ?_)
        · refine lv_goto (tgt := 1851) hx hb dL_law_1268 (by decide) ?_
          exact kk H3 locs3 ls _ _ (show cc9 + 4 + 0 + 0 ≤ cc9 + 10 by omega) (show ss9 + 24 + 0 + 0 ≤ ss9 + 300 by omega) hS ⟨ad', σ', τ', qs', nT', nW', f', D', _, ea, hP5, hM5, ho5, hR2, hI2⟩ (lv_sub hl [2, 3, 4, 5, 6] rfl)
        · exact absurd c_1253_7 (by decide)
      · exact absurd c_1246_6 (by decide)
set_option maxHeartbeats 4000000 in
set_option maxRecDepth 100000 in
theorem LC_advance (l : Launch) (hl9 : l.stackTraces = false) {p : Program} {e : Env} {s : State} {m : MethodId} {below : List Frame} {meth : Method} {c : Code} {b L : Nat} {xs : Nat → Int32} {G : GE} {o a0 : Nat} {adm : Nat → Nat} (C : CallFix p m c cL_law 7 s #[Value.ref b] gTb RL) (hE : EN (fun q => s.heap.size ≤ q) G s s.heap) (hN : NCX s) (hX : va_X b L xs s s.heap) (hbl : b < s.heap.size) (hF : LFX s.heap.size o adm) (hL : L ≤ 2048) {i N cc9 ss9 : Nat} {Qw : State → Prop} {H : Heap} {locs : List Loc} {ls : Array Slot} (hi : 4 * i + 4 ≤ L) (hcc : cc9 ≤ 100 + 10 * i) (hss : ss9 ≤ 2000 + 300 * i) (hN2 : N < 1000) (hS : va_S (fun q => s.heap.size ≤ q) s.heap H locs) (hV : LINV G s.heap.size o a0 adm N H) (hl : lv_has ls 7 [(4, .int (nI (4 * i))), (0, .ref b), (1, .ref a0), (2, .ref (adm 30)), (3, .ref o)])
    (kk : ∀ (H1 : Heap) (locs1 : List Loc) (ls1 : Array Slot) (cc1 ss1 : Nat), cc1 ≤ cc9 + 10 → ss1 ≤ ss9 + 300 → va_S (fun q => s.heap.size ≤ q) s.heap H1 locs1 → LINV G s.heap.size o a0 adm (N + 1) H1 → lv_has ls1 7 [(4, .int (nI (4 * i))), (0, .ref b), (1, .ref a0), (2, .ref (adm 30)), (3, .ref o)] → W p l e room_1 s m #[Value.ref b] below meth c H1 locs1 cc1 ss1 Qw (F0 m 1851 ls1 [])) : W p l e room_1 s m #[Value.ref b] below meth c H locs cc9 ss9 Qw (F0 m 1271 ls []) := by
  have hx := C.1
  have hb := C.2.1
  have hown := C.2.2.2.1
  have hts := C.2.2.2.2
  obtain ⟨ad, σ, τ, qs, nT, nW, f, D, y0, rfl, hP, hM, ho9, hR, hI⟩ := hV
  have h80 := hR.n80
  refine lv_aload_n hx hb dL_law_1271 rfl (lv_at hl 2 rfl) ?_
  refine lv_aload_n hx hb dL_law_1272 rfl (lv_at hl 1 rfl) ?_
  refine lv_iload hx hb dL_law_1273 (lv_at hl 0 rfl) ?_
  refine lv_iconst (v := 1) hx hb dL_law_1275 (by decide) ?_
  refine lv_iadd hx hb dL_law_1276 ?_
  rw [i4_1]
  refine va_sld hx hb hX hbl (Nat.not_le.mpr hbl) hS (vp_in_nI (show 4 * i + 1 < L by omega) (by omega)) dL_law_1277 ?_
  rw [nI_clamp (show 4 * i + 1 < 2 ^ 31 by omega)]
  refine lv_aload_n hx hb dL_law_1278 rfl (lv_at hl 4 rfl) ?_
  refine hcallH (n := 3) C hE hN (hL_advance l G (AxL s.heap.size o adm) (fun q => AxL s.heap.size o adm q ∨ q = o) o (fun q h => Or.inl h) (Or.inr rfl) (fun h => h.2.1 rfl) ad σ qs nT nW hl9 (xs (4 * i + 1)) f hR.1.1 h80.2.2 h80.1) wML_L_157 wST_L_advance wIN_L wCW_L_advance (by decide) rfl ⟨Nat.le_of_ble_eq_true rfl, Nat.le_of_ble_eq_true rfl⟩ hS (fun q h => h.elim (fun h => h.1) (fun h => h ▸ hF.1)) (fun q h => Or.inl (AxL.new hM ho9 hS.1 q h)) ⟨hP, ⟨_, ho9⟩, fun q h => AxL.new hM ho9 hS.1 q h⟩ rfl hl.1 (Nat.le_of_ble_eq_true rfl) dL_law_1279 ⟨by show cc9 + 2 ≤ 601024; omega, by show ss9 + 12 ≤ 7293034; omega⟩ (fun v H1 locs1 hv hk hS => ?_)
  have hM1 : PM G (McL adm) adm τ H1 := hM.keptL hk (fun q hq h => h.elim (fun h => h.2.2 hq) (fun h => hF.2.1 (h ▸ hq)))
  rcases hv with ⟨x, H0, rfl, hq, ho2, z2, oq2⟩ | ⟨E, hx9, hcode, y2, ho2⟩
  · skip
    refine lv_istore (lv' := [(5, .int 0), (4, .int (nI (4 * i))), (0, .ref b), (1, .ref (ad 0 0)), (2, .ref (adm 30)), (3, .ref o)]) hx hb dL_law_1282 hl (by decide) rfl (fun ls hl => ?_)
    refine lv_aload_n hx hb dL_law_1284 rfl (lv_at hl 4 rfl) ?_
    refine lv_aload_n hx hb dL_law_1285 rfl (lv_at hl 2 rfl) ?_
    refine lv_iload hx hb dL_law_1286 (lv_at hl 1 rfl) ?_
    refine lv_iconst (v := 1) hx hb dL_law_1288 (by decide) ?_
    refine lv_iadd hx hb dL_law_1289 ?_
    rw [i4_1]
    refine va_sld hx hb hX hbl (Nat.not_le.mpr hbl) hS (vp_in_nI (show 4 * i + 1 < L by omega) (by omega)) dL_law_1290 ?_
    rw [nI_clamp (show 4 * i + 1 < 2 ^ 31 by omega)]
    refine hcallV (n := 1) C hE (kR_advance l G (fun q => McL adm q ∨ H1.size ≤ q) adm τ (xs (4 * i + 1)) nT hR.1.2.2.2.1 h80.1) wML_L_159 wIM_X6_advance wSE_X6_X6_advance wIN_X6 wCO_X6_advance (by decide) rfl ⟨Nat.le_of_ble_eq_true rfl, Nat.le_of_ble_eq_true rfl⟩ (orec hE hM1.main (show mcl[8]? = some (RX6, TX6, 30) from rfl)) hS (fun q h => h.elim (fun h => hF.2.2 q h) (fun h => Nat.le_trans hS.1 h)) (fun q h => Or.inr h) (hM1.any (fun q h => Or.inl h)) rfl hl.1 (Nat.le_of_ble_eq_true rfl) dL_law_1291 ⟨by show cc9 + 2 + 0 ≤ 601024; omega, by show ss9 + 12 + 0 ≤ 7293034; omega⟩ (fun E ce q9 H1 locs1 hx9 _ _ _ _ _ => hx9.elim) (fun v H2 locs2 hv2 hk2 hS => ?_)
    obtain ⟨x9, τ', rfl, hM2, hcm⟩ := hv2
    have hM3 : PM G (McL adm) adm τ' H2 := hM2.any (fun q h => h)
    have ho3 := ho2.kept (hk2.2 _ ho2.lt (fun h => h.elim hF.2.1 (fun h => absurd ho2.lt (Nat.not_lt.mpr h))))
    obtain ⟨e27, ex, ad', σ', qs', nT', nW', f', D', ea, hP2, hR2, hI2⟩ := st_advance hR hI hq hcm
    obtain rfl : x = x9 := by cases ex; rfl
    have hP3 := hP2.kept (A1 := fun q => q = o) ⟨Nat.le_of_eq z2.symm, fun q _ hne => oq2 q hne⟩ (fun q h _ e => h.2.1 e)
    have hP4 := hP3.kept hk2 (fun q h hlt h2 => h2.elim h.2.2 (fun h3 => absurd hlt (Nat.not_lt.mpr h3)))
    refine lv_istore (lv' := [(6, .int x), (5, .int 0), (4, .int (nI (4 * i))), (0, .ref b), (1, .ref (ad 0 0)), (2, .ref (adm 30)), (3, .ref o)]) hx hb dL_law_1294 hl (by decide) rfl (fun ls hl => ?_)
    refine lv_aload_n hx hb dL_law_1296 rfl (lv_at hl 5 rfl) ?_
    refine hcallV (n := 0) C hE (kM_thrown l G (fun q => H2.size ≤ q) (McL adm) adm τ') wML_L_105 wIM_X6_thrown wSE_X6_X6_thrown wIN_X6 wCO_X6_thrown (by decide) rfl ⟨Nat.le_of_ble_eq_true rfl, Nat.le_of_ble_eq_true rfl⟩ (orec hE hM3.main (show mcl[8]? = some (RX6, TX6, 30) from rfl)) hS (fun q h => Nat.le_trans hS.1 h) (fun q h => h) hM3 rfl hl.1 (Nat.le_of_ble_eq_true rfl) dL_law_1297 ⟨by show cc9 + 2 + 0 + 0 ≤ 601024; omega, by show ss9 + 12 + 0 + 0 ≤ 7293034; omega⟩ (fun E ce q9 H1 locs1 hx9 _ _ _ _ _ => hx9.elim) (fun v H3 locs3 hv3 hk3 hS => ?_)
    obtain rfl : v = some (.int 0) := by rw [hv3, e27]
    have hP5 := hP4.old hk3
    have hM5 := hM3.old hk3
    have ho5 := ho3.kept (hk3.2 _ ho3.lt (Nat.not_le.mpr ho3.lt))
    refine lv_iload hx hb dL_law_1300 (lv_at hl 1 rfl) ?_
    refine lv_icmp_eq (tgt := 1307) hx hb dL_law_1302 (by decide) (fun c_1302_1 => ?_) (fun c_1302_1 => ?_)
    · refine lv_iload hx hb dL_law_1307 (lv_at hl 1 rfl) ?_
      refine lv_if_ne (tgt := 1324) hx hb dL_law_1309 (by decide) (fun c_1309_2 => ?_) (fun c_1309_2 => ?_)
      · exact absurd c_1309_2 (by decide)
      · refine lv_aload_n hx hb dL_law_1312 rfl (lv_at hl 6 rfl) ?_
        refine lv_iconst (v := 0) hx hb dL_law_1313 (by decide) ?_
        refine xlald hx hb hE.1.1 ho5 dL_law_1314 ?_
        refine lv_iload hx hb dL_law_1315 (lv_at hl 0 rfl) ?_
        refine lv_i2l hx hb dL_law_1317 rfl ?_
        refine W.lcmp hx hb dL_law_1318 ?_
        rw [lcmp0]
        refine lv_if_eq (tgt := 1324) hx hb dL_law_1319 (by decide) (fun c_1319_3 => ?_) (fun c_1319_3 => ?_)
        · refine lv_goto (tgt := 1851) hx hb dL_law_1324 (by decide) ?_
          exact kk H3 locs3 ls _ _ (show cc9 + 2 + 0 + 0 ≤ cc9 + 10 by omega) (show ss9 + 12 + 0 + 0 ≤ ss9 + 300 by omega) hS ⟨ad', σ', τ', qs', nT', nW', f', D', _, ea, hP5, hM5, ho5, hR2, hI2⟩ (lv_sub hl [2, 3, 4, 5, 6] rfl)
        · exact absurd c_1319_3 (by decide)
    · exact absurd c_1302_1 (by decide)
  · rcases hcode with ⟨eE, rfl⟩ | ⟨eE, rfl⟩
    · skip
      refine lv_istore (lv' := [(5, .int 1), (4, .int (nI (4 * i))), (0, .ref b), (1, .ref (ad 0 0)), (2, .ref (adm 30)), (3, .ref o)]) hx hb dL_law_1282 hl (by decide) rfl (fun ls hl => ?_)
      refine lv_aload_n hx hb dL_law_1284 rfl (lv_at hl 4 rfl) ?_
      refine lv_aload_n hx hb dL_law_1285 rfl (lv_at hl 2 rfl) ?_
      refine lv_iload hx hb dL_law_1286 (lv_at hl 1 rfl) ?_
      refine lv_iconst (v := 1) hx hb dL_law_1288 (by decide) ?_
      refine lv_iadd hx hb dL_law_1289 ?_
      rw [i4_1]
      refine va_sld hx hb hX hbl (Nat.not_le.mpr hbl) hS (vp_in_nI (show 4 * i + 1 < L by omega) (by omega)) dL_law_1290 ?_
      rw [nI_clamp (show 4 * i + 1 < 2 ^ 31 by omega)]
      refine hcallV (n := 1) C hE (kR_advance l G (fun q => McL adm q ∨ H1.size ≤ q) adm τ (xs (4 * i + 1)) nT hR.1.2.2.2.1 h80.1) wML_L_159 wIM_X6_advance wSE_X6_X6_advance wIN_X6 wCO_X6_advance (by decide) rfl ⟨Nat.le_of_ble_eq_true rfl, Nat.le_of_ble_eq_true rfl⟩ (orec hE hM1.main (show mcl[8]? = some (RX6, TX6, 30) from rfl)) hS (fun q h => h.elim (fun h => hF.2.2 q h) (fun h => Nat.le_trans hS.1 h)) (fun q h => Or.inr h) (hM1.any (fun q h => Or.inl h)) rfl hl.1 (Nat.le_of_ble_eq_true rfl) dL_law_1291 ⟨by show cc9 + 2 + 0 ≤ 601024; omega, by show ss9 + 12 + 0 ≤ 7293034; omega⟩ (fun E ce q9 H1 locs1 hx9 _ _ _ _ _ => hx9.elim) (fun v H2 locs2 hv2 hk2 hS => ?_)
      obtain ⟨x9, τ', rfl, hM2, hcm⟩ := hv2
      have hM3 : PM G (McL adm) adm τ' H2 := hM2.any (fun q h => h)
      have ho3 := ho2.kept (hk2.2 _ ho2.lt (fun h => h.elim hF.2.1 (fun h => absurd ho2.lt (Nat.not_lt.mpr h))))
      have hex : EXT G (AxL s.heap.size o adm) ad H1 N 1 τ' := by
        rcases sx_advance hR hI hx9 hcm with ⟨e1, z⟩ | ⟨e1, z⟩
        · exact z
        · exact absurd (eE.symm.trans e1) (by decide)
      obtain ⟨e27, ad', σ', qs', nT', nW', f', D', ea, hP3, hR2, hI2⟩ := hex
      have hP4 := hP3.kept hk2 (fun q h hlt h2 => h2.elim h.2.2 (fun h3 => absurd hlt (Nat.not_lt.mpr h3)))
      refine lv_istore (lv' := [(6, .int x9), (5, .int 1), (4, .int (nI (4 * i))), (0, .ref b), (1, .ref (ad 0 0)), (2, .ref (adm 30)), (3, .ref o)]) hx hb dL_law_1294 hl (by decide) rfl (fun ls hl => ?_)
      refine lv_aload_n hx hb dL_law_1296 rfl (lv_at hl 5 rfl) ?_
      refine hcallV (n := 0) C hE (kM_thrown l G (fun q => H2.size ≤ q) (McL adm) adm τ') wML_L_105 wIM_X6_thrown wSE_X6_X6_thrown wIN_X6 wCO_X6_thrown (by decide) rfl ⟨Nat.le_of_ble_eq_true rfl, Nat.le_of_ble_eq_true rfl⟩ (orec hE hM3.main (show mcl[8]? = some (RX6, TX6, 30) from rfl)) hS (fun q h => Nat.le_trans hS.1 h) (fun q h => h) hM3 rfl hl.1 (Nat.le_of_ble_eq_true rfl) dL_law_1297 ⟨by show cc9 + 2 + 0 + 0 ≤ 601024; omega, by show ss9 + 12 + 0 + 0 ≤ 7293034; omega⟩ (fun E ce q9 H1 locs1 hx9 _ _ _ _ _ => hx9.elim) (fun v H3 locs3 hv3 hk3 hS => ?_)
      obtain rfl : v = some (.int 1) := by rw [hv3, e27]
      have hP5 := hP4.old hk3
      have hM5 := hM3.old hk3
      have ho5 := ho3.kept (hk3.2 _ ho3.lt (Nat.not_le.mpr ho3.lt))
      refine lv_iload hx hb dL_law_1300 (lv_at hl 1 rfl) ?_
      refine lv_icmp_eq (tgt := 1307) hx hb dL_law_1302 (by decide) (fun c_1302_4 => ?_) (fun c_1302_4 => ?_)
      · refine lv_iload hx hb dL_law_1307 (lv_at hl 1 rfl) ?_
        refine lv_if_ne (tgt := 1324) hx hb dL_law_1309 (by decide) (fun c_1309_5 => ?_) (fun c_1309_5 => ?_)
        · refine lv_goto (tgt := 1851) hx hb dL_law_1324 (by decide) ?_
          exact kk H3 locs3 ls _ _ (show cc9 + 2 + 0 + 0 ≤ cc9 + 10 by omega) (show ss9 + 12 + 0 + 0 ≤ ss9 + 300 by omega) hS ⟨ad', σ', τ', qs', nT', nW', f', D', _, ea, hP5, hM5, ho5, hR2, hI2⟩ (lv_sub hl [2, 3, 4, 5, 6] rfl)
        · exact absurd c_1309_5 (by decide)
      · exact absurd c_1302_4 (by decide)
    · skip
      refine lv_istore (lv' := [(5, .int 2), (4, .int (nI (4 * i))), (0, .ref b), (1, .ref (ad 0 0)), (2, .ref (adm 30)), (3, .ref o)]) hx hb dL_law_1282 hl (by decide) rfl (fun ls hl => ?_)
      refine lv_aload_n hx hb dL_law_1284 rfl (lv_at hl 4 rfl) ?_
      refine lv_aload_n hx hb dL_law_1285 rfl (lv_at hl 2 rfl) ?_
      refine lv_iload hx hb dL_law_1286 (lv_at hl 1 rfl) ?_
      refine lv_iconst (v := 1) hx hb dL_law_1288 (by decide) ?_
      refine lv_iadd hx hb dL_law_1289 ?_
      rw [i4_1]
      refine va_sld hx hb hX hbl (Nat.not_le.mpr hbl) hS (vp_in_nI (show 4 * i + 1 < L by omega) (by omega)) dL_law_1290 ?_
      rw [nI_clamp (show 4 * i + 1 < 2 ^ 31 by omega)]
      refine hcallV (n := 1) C hE (kR_advance l G (fun q => McL adm q ∨ H1.size ≤ q) adm τ (xs (4 * i + 1)) nT hR.1.2.2.2.1 h80.1) wML_L_159 wIM_X6_advance wSE_X6_X6_advance wIN_X6 wCO_X6_advance (by decide) rfl ⟨Nat.le_of_ble_eq_true rfl, Nat.le_of_ble_eq_true rfl⟩ (orec hE hM1.main (show mcl[8]? = some (RX6, TX6, 30) from rfl)) hS (fun q h => h.elim (fun h => hF.2.2 q h) (fun h => Nat.le_trans hS.1 h)) (fun q h => Or.inr h) (hM1.any (fun q h => Or.inl h)) rfl hl.1 (Nat.le_of_ble_eq_true rfl) dL_law_1291 ⟨by show cc9 + 2 + 0 ≤ 601024; omega, by show ss9 + 12 + 0 ≤ 7293034; omega⟩ (fun E ce q9 H1 locs1 hx9 _ _ _ _ _ => hx9.elim) (fun v H2 locs2 hv2 hk2 hS => ?_)
      obtain ⟨x9, τ', rfl, hM2, hcm⟩ := hv2
      have hM3 : PM G (McL adm) adm τ' H2 := hM2.any (fun q h => h)
      have ho3 := ho2.kept (hk2.2 _ ho2.lt (fun h => h.elim hF.2.1 (fun h => absurd ho2.lt (Nat.not_lt.mpr h))))
      have hex : EXT G (AxL s.heap.size o adm) ad H1 N 2 τ' := by
        rcases sx_advance hR hI hx9 hcm with ⟨e1, z⟩ | ⟨e1, z⟩
        · exact absurd (eE.symm.trans e1) (by decide)
        · exact z
      obtain ⟨e27, ad', σ', qs', nT', nW', f', D', ea, hP3, hR2, hI2⟩ := hex
      have hP4 := hP3.kept hk2 (fun q h hlt h2 => h2.elim h.2.2 (fun h3 => absurd hlt (Nat.not_lt.mpr h3)))
      refine lv_istore (lv' := [(6, .int x9), (5, .int 2), (4, .int (nI (4 * i))), (0, .ref b), (1, .ref (ad 0 0)), (2, .ref (adm 30)), (3, .ref o)]) hx hb dL_law_1294 hl (by decide) rfl (fun ls hl => ?_)
      refine lv_aload_n hx hb dL_law_1296 rfl (lv_at hl 5 rfl) ?_
      refine hcallV (n := 0) C hE (kM_thrown l G (fun q => H2.size ≤ q) (McL adm) adm τ') wML_L_105 wIM_X6_thrown wSE_X6_X6_thrown wIN_X6 wCO_X6_thrown (by decide) rfl ⟨Nat.le_of_ble_eq_true rfl, Nat.le_of_ble_eq_true rfl⟩ (orec hE hM3.main (show mcl[8]? = some (RX6, TX6, 30) from rfl)) hS (fun q h => Nat.le_trans hS.1 h) (fun q h => h) hM3 rfl hl.1 (Nat.le_of_ble_eq_true rfl) dL_law_1297 ⟨by show cc9 + 2 + 0 + 0 ≤ 601024; omega, by show ss9 + 12 + 0 + 0 ≤ 7293034; omega⟩ (fun E ce q9 H1 locs1 hx9 _ _ _ _ _ => hx9.elim) (fun v H3 locs3 hv3 hk3 hS => ?_)
      obtain rfl : v = some (.int 2) := by rw [hv3, e27]
      have hP5 := hP4.old hk3
      have hM5 := hM3.old hk3
      have ho5 := ho3.kept (hk3.2 _ ho3.lt (Nat.not_le.mpr ho3.lt))
      refine lv_iload hx hb dL_law_1300 (lv_at hl 1 rfl) ?_
      refine lv_icmp_eq (tgt := 1307) hx hb dL_law_1302 (by decide) (fun c_1302_6 => ?_) (fun c_1302_6 => ?_)
      · refine lv_iload hx hb dL_law_1307 (lv_at hl 1 rfl) ?_
        refine lv_if_ne (tgt := 1324) hx hb dL_law_1309 (by decide) (fun c_1309_7 => ?_) (fun c_1309_7 => ?_)
        · refine lv_goto (tgt := 1851) hx hb dL_law_1324 (by decide) ?_
          exact kk H3 locs3 ls _ _ (show cc9 + 2 + 0 + 0 ≤ cc9 + 10 by omega) (show ss9 + 12 + 0 + 0 ≤ ss9 + 300 by omega) hS ⟨ad', σ', τ', qs', nT', nW', f', D', _, ea, hP5, hM5, ho5, hR2, hI2⟩ (lv_sub hl [2, 3, 4, 5, 6] rfl)
        · exact absurd c_1309_7 (by decide)
      · exact absurd c_1302_6 (by decide)
set_option maxHeartbeats 4000000 in
set_option maxRecDepth 100000 in
theorem LC_day (l : Launch) (hl9 : l.stackTraces = false) {p : Program} {e : Env} {s : State} {m : MethodId} {below : List Frame} {meth : Method} {c : Code} {b L : Nat} {xs : Nat → Int32} {G : GE} {o a0 : Nat} {adm : Nat → Nat} (C : CallFix p m c cL_law 7 s #[Value.ref b] gTb RL) (hE : EN (fun q => s.heap.size ≤ q) G s s.heap) (hN : NCX s) (hX : va_X b L xs s s.heap) (hbl : b < s.heap.size) (hF : LFX s.heap.size o adm) (hL : L ≤ 2048) {i N cc9 ss9 : Nat} {Qw : State → Prop} {H : Heap} {locs : List Loc} {ls : Array Slot} (hi : 4 * i + 4 ≤ L) (hcc : cc9 ≤ 100 + 10 * i) (hss : ss9 ≤ 2000 + 300 * i) (hN2 : N < 1000) (hS : va_S (fun q => s.heap.size ≤ q) s.heap H locs) (hV : LINV G s.heap.size o a0 adm N H) (hl : lv_has ls 7 [(4, .int (nI (4 * i))), (0, .ref b), (1, .ref a0), (2, .ref (adm 30)), (3, .ref o)])
    (kk : ∀ (H1 : Heap) (locs1 : List Loc) (ls1 : Array Slot) (cc1 ss1 : Nat), cc1 ≤ cc9 + 10 → ss1 ≤ ss9 + 300 → va_S (fun q => s.heap.size ≤ q) s.heap H1 locs1 → LINV G s.heap.size o a0 adm (N + 1) H1 → lv_has ls1 7 [(4, .int (nI (4 * i))), (0, .ref b), (1, .ref a0), (2, .ref (adm 30)), (3, .ref o)] → W p l e room_1 s m #[Value.ref b] below meth c H1 locs1 cc1 ss1 Qw (F0 m 1851 ls1 [])) : W p l e room_1 s m #[Value.ref b] below meth c H locs cc9 ss9 Qw (F0 m 1327 ls []) := by
  have hx := C.1
  have hb := C.2.1
  have hown := C.2.2.2.1
  have hts := C.2.2.2.2
  obtain ⟨ad, σ, τ, qs, nT, nW, f, D, y0, rfl, hP, hM, ho9, hR, hI⟩ := hV
  have h80 := hR.n80
  refine lv_aload_n hx hb dL_law_1327 rfl (lv_at hl 2 rfl) ?_
  refine hcallV (n := 0) C hE (kP_day l G (fun q => H.size ≤ q) (AxL s.heap.size o adm) ad σ qs nT nW hl9) wML_L_160 wIM_X5_day wSE_X5_X5_day wIN_X5 wCO_X5_day (by decide) rfl ⟨Nat.le_of_ble_eq_true rfl, Nat.le_of_ble_eq_true rfl⟩ (orec hE (hP.main rfl) (show mcl[7]? = some (RX5, TX5, 8) from rfl)) hS (fun q h => Nat.le_trans hS.1 h) (fun q h => h) hP rfl hl.1 (Nat.le_of_ble_eq_true rfl) dL_law_1328 ⟨by show cc9 + 0 ≤ 601024; omega, by show ss9 + 0 ≤ 7293034; omega⟩ (fun E ce q9 H1 locs1 hx9 _ _ _ _ _ => hx9.elim) (fun v H1 locs1 hv hk hS => ?_)
  subst hv
  have hP := hP.old hk
  have hM1 := hM.old hk
  have ho2 := ho9.kept (hk.2 _ ho9.lt (Nat.not_le.mpr ho9.lt))
  refine lv_aload_n hx hb dL_law_1331 rfl (lv_at hl 3 rfl) ?_
  refine hcallV (n := 0) C hE (kR_day l G (fun q => McL adm q ∨ H1.size ≤ q) adm τ ) wML_L_163 wIM_X6_day wSE_X6_X6_day wIN_X6 wCO_X6_day (by decide) rfl ⟨Nat.le_of_ble_eq_true rfl, Nat.le_of_ble_eq_true rfl⟩ (orec hE hM1.main (show mcl[8]? = some (RX6, TX6, 30) from rfl)) hS (fun q h => h.elim (fun h => hF.2.2 q h) (fun h => Nat.le_trans hS.1 h)) (fun q h => Or.inr h) (hM1.any (fun q h => Or.inl h)) rfl hl.1 (Nat.le_of_ble_eq_true rfl) dL_law_1332 ⟨by show cc9 + 0 + 0 ≤ 601024; omega, by show ss9 + 0 + 0 ≤ 7293034; omega⟩ (fun E ce q9 H1 locs1 hx9 _ _ _ _ _ => hx9.elim) (fun v H2 locs2 hv2 hk2 hS => ?_)
  obtain ⟨x9, τ', rfl, hM2, hcm⟩ := hv2
  have hM3 : PM G (McL adm) adm τ' H2 := hM2.any (fun q h => h)
  have ho3 := ho2.kept (hk2.2 _ ho2.lt (fun h => h.elim hF.2.1 (fun h => absurd ho2.lt (Nat.not_lt.mpr h))))
  obtain ⟨ev, rfl⟩ := hcm
  have hP4 := hP.kept hk2 (fun q h hlt h2 => h2.elim h.2.2 (fun h3 => absurd hlt (Nat.not_lt.mpr h3)))
  refine lv_icmp_eq (tgt := 1851) hx hb dL_law_1335 (by decide) (fun c_1335_1 => ?_) (fun c_1335_1 => ?_)
  · exact kk H2 locs2 ls _ _ (show cc9 + 0 + 0 ≤ cc9 + 10 by omega) (show ss9 + 0 + 0 ≤ ss9 + 300 by omega) hS ⟨ad, σ, _, qs, nT, nW, f, D, _, rfl, hP4, hM3, ho3, hR.th.more, hI.th⟩ (lv_sub hl [0, 1, 2, 3, 4] rfl)
  · exact absurd (by rw [ev, thr_o (by decide), hR.1.2.2.2.2.2.2.1, hR.1.2.2.2.2.2.2.2.1]) c_1335_1
set_option maxHeartbeats 4000000 in
set_option maxRecDepth 100000 in
theorem LC_tickets (l : Launch) (hl9 : l.stackTraces = false) {p : Program} {e : Env} {s : State} {m : MethodId} {below : List Frame} {meth : Method} {c : Code} {b L : Nat} {xs : Nat → Int32} {G : GE} {o a0 : Nat} {adm : Nat → Nat} (C : CallFix p m c cL_law 7 s #[Value.ref b] gTb RL) (hE : EN (fun q => s.heap.size ≤ q) G s s.heap) (hN : NCX s) (hX : va_X b L xs s s.heap) (hbl : b < s.heap.size) (hF : LFX s.heap.size o adm) (hL : L ≤ 2048) {i N cc9 ss9 : Nat} {Qw : State → Prop} {H : Heap} {locs : List Loc} {ls : Array Slot} (hi : 4 * i + 4 ≤ L) (hcc : cc9 ≤ 100 + 10 * i) (hss : ss9 ≤ 2000 + 300 * i) (hN2 : N < 1000) (hS : va_S (fun q => s.heap.size ≤ q) s.heap H locs) (hV : LINV G s.heap.size o a0 adm N H) (hl : lv_has ls 7 [(4, .int (nI (4 * i))), (0, .ref b), (1, .ref a0), (2, .ref (adm 30)), (3, .ref o)])
    (kk : ∀ (H1 : Heap) (locs1 : List Loc) (ls1 : Array Slot) (cc1 ss1 : Nat), cc1 ≤ cc9 + 10 → ss1 ≤ ss9 + 300 → va_S (fun q => s.heap.size ≤ q) s.heap H1 locs1 → LINV G s.heap.size o a0 adm (N + 1) H1 → lv_has ls1 7 [(4, .int (nI (4 * i))), (0, .ref b), (1, .ref a0), (2, .ref (adm 30)), (3, .ref o)] → W p l e room_1 s m #[Value.ref b] below meth c H1 locs1 cc1 ss1 Qw (F0 m 1851 ls1 [])) : W p l e room_1 s m #[Value.ref b] below meth c H locs cc9 ss9 Qw (F0 m 1340 ls []) := by
  have hx := C.1
  have hb := C.2.1
  have hown := C.2.2.2.1
  have hts := C.2.2.2.2
  obtain ⟨ad, σ, τ, qs, nT, nW, f, D, y0, rfl, hP, hM, ho9, hR, hI⟩ := hV
  have h80 := hR.n80
  refine lv_aload_n hx hb dL_law_1340 rfl (lv_at hl 2 rfl) ?_
  refine hcallV (n := 0) C hE (kP_tickets l G (fun q => H.size ≤ q) (AxL s.heap.size o adm) ad σ qs nT nW hl9) wML_L_164 wIM_X5_tickets wSE_X5_X5_tickets wIN_X5 wCO_X5_tickets (by decide) rfl ⟨Nat.le_of_ble_eq_true rfl, Nat.le_of_ble_eq_true rfl⟩ (orec hE (hP.main rfl) (show mcl[7]? = some (RX5, TX5, 8) from rfl)) hS (fun q h => Nat.le_trans hS.1 h) (fun q h => h) hP rfl hl.1 (Nat.le_of_ble_eq_true rfl) dL_law_1341 ⟨by show cc9 + 0 ≤ 601024; omega, by show ss9 + 0 ≤ 7293034; omega⟩ (fun E ce q9 H1 locs1 hx9 _ _ _ _ _ => hx9.elim) (fun v H1 locs1 hv hk hS => ?_)
  subst hv
  have hP := hP.old hk
  have hM1 := hM.old hk
  have ho2 := ho9.kept (hk.2 _ ho9.lt (Nat.not_le.mpr ho9.lt))
  refine lv_aload_n hx hb dL_law_1344 rfl (lv_at hl 3 rfl) ?_
  refine hcallV (n := 0) C hE (kR_tickets l G (fun q => McL adm q ∨ H1.size ≤ q) adm τ ) wML_L_167 wIM_X6_tickets wSE_X6_X6_tickets wIN_X6 wCO_X6_tickets (by decide) rfl ⟨Nat.le_of_ble_eq_true rfl, Nat.le_of_ble_eq_true rfl⟩ (orec hE hM1.main (show mcl[8]? = some (RX6, TX6, 30) from rfl)) hS (fun q h => h.elim (fun h => hF.2.2 q h) (fun h => Nat.le_trans hS.1 h)) (fun q h => Or.inr h) (hM1.any (fun q h => Or.inl h)) rfl hl.1 (Nat.le_of_ble_eq_true rfl) dL_law_1345 ⟨by show cc9 + 0 + 0 ≤ 601024; omega, by show ss9 + 0 + 0 ≤ 7293034; omega⟩ (fun E ce q9 H1 locs1 hx9 _ _ _ _ _ => hx9.elim) (fun v H2 locs2 hv2 hk2 hS => ?_)
  obtain ⟨x9, τ', rfl, hM2, hcm⟩ := hv2
  have hM3 : PM G (McL adm) adm τ' H2 := hM2.any (fun q h => h)
  have ho3 := ho2.kept (hk2.2 _ ho2.lt (fun h => h.elim hF.2.1 (fun h => absurd ho2.lt (Nat.not_lt.mpr h))))
  obtain ⟨ev, rfl⟩ := hcm
  have hP4 := hP.kept hk2 (fun q h hlt h2 => h2.elim h.2.2 (fun h3 => absurd hlt (Nat.not_lt.mpr h3)))
  refine lv_icmp_eq (tgt := 1851) hx hb dL_law_1348 (by decide) (fun c_1348_1 => ?_) (fun c_1348_1 => ?_)
  · exact kk H2 locs2 ls _ _ (show cc9 + 0 + 0 ≤ cc9 + 10 by omega) (show ss9 + 0 + 0 ≤ ss9 + 300 by omega) hS ⟨ad, σ, _, qs, nT, nW, f, D, _, rfl, hP4, hM3, ho3, hR.th.more, hI.th⟩ (lv_sub hl [0, 1, 2, 3, 4] rfl)
  · exact absurd (by rw [ev, thr_o (by decide), hR.1.2.2.2.1]) c_1348_1
set_option maxHeartbeats 4000000 in
set_option maxRecDepth 100000 in
theorem LC_whereIs (l : Launch) (hl9 : l.stackTraces = false) {p : Program} {e : Env} {s : State} {m : MethodId} {below : List Frame} {meth : Method} {c : Code} {b L : Nat} {xs : Nat → Int32} {G : GE} {o a0 : Nat} {adm : Nat → Nat} (C : CallFix p m c cL_law 7 s #[Value.ref b] gTb RL) (hE : EN (fun q => s.heap.size ≤ q) G s s.heap) (hN : NCX s) (hX : va_X b L xs s s.heap) (hbl : b < s.heap.size) (hF : LFX s.heap.size o adm) (hL : L ≤ 2048) {i N cc9 ss9 : Nat} {Qw : State → Prop} {H : Heap} {locs : List Loc} {ls : Array Slot} (hi : 4 * i + 4 ≤ L) (hcc : cc9 ≤ 100 + 10 * i) (hss : ss9 ≤ 2000 + 300 * i) (hN2 : N < 1000) (hS : va_S (fun q => s.heap.size ≤ q) s.heap H locs) (hV : LINV G s.heap.size o a0 adm N H) (hl : lv_has ls 7 [(4, .int (nI (4 * i))), (0, .ref b), (1, .ref a0), (2, .ref (adm 30)), (3, .ref o)])
    (kk : ∀ (H1 : Heap) (locs1 : List Loc) (ls1 : Array Slot) (cc1 ss1 : Nat), cc1 ≤ cc9 + 10 → ss1 ≤ ss9 + 300 → va_S (fun q => s.heap.size ≤ q) s.heap H1 locs1 → LINV G s.heap.size o a0 adm (N + 1) H1 → lv_has ls1 7 [(4, .int (nI (4 * i))), (0, .ref b), (1, .ref a0), (2, .ref (adm 30)), (3, .ref o)] → W p l e room_1 s m #[Value.ref b] below meth c H1 locs1 cc1 ss1 Qw (F0 m 1851 ls1 [])) : W p l e room_1 s m #[Value.ref b] below meth c H locs cc9 ss9 Qw (F0 m 1353 ls []) := by
  have hx := C.1
  have hb := C.2.1
  have hown := C.2.2.2.1
  have hts := C.2.2.2.2
  obtain ⟨ad, σ, τ, qs, nT, nW, f, D, y0, rfl, hP, hM, ho9, hR, hI⟩ := hV
  have h80 := hR.n80
  refine lv_aload_n hx hb dL_law_1353 rfl (lv_at hl 2 rfl) ?_
  refine lv_aload_n hx hb dL_law_1354 rfl (lv_at hl 1 rfl) ?_
  refine lv_iload hx hb dL_law_1355 (lv_at hl 0 rfl) ?_
  refine lv_iconst (v := 1) hx hb dL_law_1357 (by decide) ?_
  refine lv_iadd hx hb dL_law_1358 ?_
  rw [i4_1]
  refine va_sld hx hb hX hbl (Nat.not_le.mpr hbl) hS (vp_in_nI (show 4 * i + 1 < L by omega) (by omega)) dL_law_1359 ?_
  rw [nI_clamp (show 4 * i + 1 < 2 ^ 31 by omega)]
  refine lv_aload_n hx hb dL_law_1360 rfl (lv_at hl 4 rfl) ?_
  refine hcallH (n := 3) C hE hN (hL_whereIs l G (AxL s.heap.size o adm) (fun q => AxL s.heap.size o adm q ∨ q = o) o (fun q h => Or.inl h) (Or.inr rfl) (fun h => h.2.1 rfl) ad σ qs nT nW hl9 (xs (4 * i + 1)) h80.1) wML_L_168 wST_L_whereIs wIN_L wCW_L_whereIs (by decide) rfl ⟨Nat.le_of_ble_eq_true rfl, Nat.le_of_ble_eq_true rfl⟩ hS (fun q h => h.elim (fun h => h.1) (fun h => h ▸ hF.1)) (fun q h => Or.inl (AxL.new hM ho9 hS.1 q h)) ⟨hP, ⟨_, ho9⟩, fun q h => AxL.new hM ho9 hS.1 q h⟩ rfl hl.1 (Nat.le_of_ble_eq_true rfl) dL_law_1361 ⟨by show cc9 + 1 ≤ 601024; omega, by show ss9 + 6 ≤ 7293034; omega⟩ (fun v H1 locs1 hv hk hS => ?_)
  have hM1 : PM G (McL adm) adm τ H1 := hM.keptL hk (fun q hq h => h.elim (fun h => h.2.2 hq) (fun h => hF.2.1 (h ▸ hq)))
  rcases hv with ⟨x, H0, rfl, hq, ho2, z2, oq2⟩ | ⟨E, hx9, hcode, y2, ho2⟩
  · skip
    refine lv_istore (lv' := [(5, .int 0), (4, .int (nI (4 * i))), (0, .ref b), (1, .ref (ad 0 0)), (2, .ref (adm 30)), (3, .ref o)]) hx hb dL_law_1364 hl (by decide) rfl (fun ls hl => ?_)
    refine lv_aload_n hx hb dL_law_1366 rfl (lv_at hl 4 rfl) ?_
    refine lv_aload_n hx hb dL_law_1367 rfl (lv_at hl 2 rfl) ?_
    refine lv_iload hx hb dL_law_1368 (lv_at hl 1 rfl) ?_
    refine lv_iconst (v := 1) hx hb dL_law_1370 (by decide) ?_
    refine lv_iadd hx hb dL_law_1371 ?_
    rw [i4_1]
    refine va_sld hx hb hX hbl (Nat.not_le.mpr hbl) hS (vp_in_nI (show 4 * i + 1 < L by omega) (by omega)) dL_law_1372 ?_
    rw [nI_clamp (show 4 * i + 1 < 2 ^ 31 by omega)]
    refine hcallV (n := 1) C hE (kR_whereIs l G (fun q => McL adm q ∨ H1.size ≤ q) adm τ (xs (4 * i + 1)) nT hR.1.2.2.2.1 h80.1) wML_L_170 wIM_X6_whereIs wSE_X6_X6_whereIs wIN_X6 wCO_X6_whereIs (by decide) rfl ⟨Nat.le_of_ble_eq_true rfl, Nat.le_of_ble_eq_true rfl⟩ (orec hE hM1.main (show mcl[8]? = some (RX6, TX6, 30) from rfl)) hS (fun q h => h.elim (fun h => hF.2.2 q h) (fun h => Nat.le_trans hS.1 h)) (fun q h => Or.inr h) (hM1.any (fun q h => Or.inl h)) rfl hl.1 (Nat.le_of_ble_eq_true rfl) dL_law_1373 ⟨by show cc9 + 1 + 0 ≤ 601024; omega, by show ss9 + 6 + 0 ≤ 7293034; omega⟩ (fun E ce q9 H1 locs1 hx9 _ _ _ _ _ => hx9.elim) (fun v H2 locs2 hv2 hk2 hS => ?_)
    obtain ⟨x9, τ', rfl, hM2, hcm⟩ := hv2
    have hM3 : PM G (McL adm) adm τ' H2 := hM2.any (fun q h => h)
    have ho3 := ho2.kept (hk2.2 _ ho2.lt (fun h => h.elim hF.2.1 (fun h => absurd ho2.lt (Nat.not_lt.mpr h))))
    obtain ⟨e27, ex, ad', σ', qs', nT', nW', f', D', ea, hP2, hR2, hI2⟩ := st_whereIs hR hI hq hcm
    obtain rfl : x = x9 := by cases ex; rfl
    have hP3 := hP2.kept (A1 := fun q => q = o) ⟨Nat.le_of_eq z2.symm, fun q _ hne => oq2 q hne⟩ (fun q h _ e => h.2.1 e)
    have hP4 := hP3.kept hk2 (fun q h hlt h2 => h2.elim h.2.2 (fun h3 => absurd hlt (Nat.not_lt.mpr h3)))
    refine lv_istore (lv' := [(6, .int x), (5, .int 0), (4, .int (nI (4 * i))), (0, .ref b), (1, .ref (ad 0 0)), (2, .ref (adm 30)), (3, .ref o)]) hx hb dL_law_1376 hl (by decide) rfl (fun ls hl => ?_)
    refine lv_aload_n hx hb dL_law_1378 rfl (lv_at hl 5 rfl) ?_
    refine hcallV (n := 0) C hE (kM_thrown l G (fun q => H2.size ≤ q) (McL adm) adm τ') wML_L_105 wIM_X6_thrown wSE_X6_X6_thrown wIN_X6 wCO_X6_thrown (by decide) rfl ⟨Nat.le_of_ble_eq_true rfl, Nat.le_of_ble_eq_true rfl⟩ (orec hE hM3.main (show mcl[8]? = some (RX6, TX6, 30) from rfl)) hS (fun q h => Nat.le_trans hS.1 h) (fun q h => h) hM3 rfl hl.1 (Nat.le_of_ble_eq_true rfl) dL_law_1379 ⟨by show cc9 + 1 + 0 + 0 ≤ 601024; omega, by show ss9 + 6 + 0 + 0 ≤ 7293034; omega⟩ (fun E ce q9 H1 locs1 hx9 _ _ _ _ _ => hx9.elim) (fun v H3 locs3 hv3 hk3 hS => ?_)
    obtain rfl : v = some (.int 0) := by rw [hv3, e27]
    have hP5 := hP4.old hk3
    have hM5 := hM3.old hk3
    have ho5 := ho3.kept (hk3.2 _ ho3.lt (Nat.not_le.mpr ho3.lt))
    refine lv_iload hx hb dL_law_1382 (lv_at hl 1 rfl) ?_
    refine lv_icmp_eq (tgt := 1389) hx hb dL_law_1384 (by decide) (fun c_1384_1 => ?_) (fun c_1384_1 => ?_)
    · refine lv_iload hx hb dL_law_1389 (lv_at hl 1 rfl) ?_
      refine lv_if_ne (tgt := 1406) hx hb dL_law_1391 (by decide) (fun c_1391_2 => ?_) (fun c_1391_2 => ?_)
      · exact absurd c_1391_2 (by decide)
      · refine lv_aload_n hx hb dL_law_1394 rfl (lv_at hl 6 rfl) ?_
        refine lv_iconst (v := 0) hx hb dL_law_1395 (by decide) ?_
        refine xlald hx hb hE.1.1 ho5 dL_law_1396 ?_
        refine lv_iload hx hb dL_law_1397 (lv_at hl 0 rfl) ?_
        refine lv_i2l hx hb dL_law_1399 rfl ?_
        refine W.lcmp hx hb dL_law_1400 ?_
        rw [lcmp0]
        refine lv_if_eq (tgt := 1406) hx hb dL_law_1401 (by decide) (fun c_1401_3 => ?_) (fun c_1401_3 => ?_)
        · refine lv_goto (tgt := 1851) hx hb dL_law_1406 (by decide) ?_
          exact kk H3 locs3 ls _ _ (show cc9 + 1 + 0 + 0 ≤ cc9 + 10 by omega) (show ss9 + 6 + 0 + 0 ≤ ss9 + 300 by omega) hS ⟨ad', σ', τ', qs', nT', nW', f', D', _, ea, hP5, hM5, ho5, hR2, hI2⟩ (lv_sub hl [2, 3, 4, 5, 6] rfl)
        · exact absurd c_1401_3 (by decide)
    · exact absurd c_1384_1 (by decide)
  · obtain ⟨eE, rfl⟩ := hcode
    refine lv_istore (lv' := [(5, .int 1), (4, .int (nI (4 * i))), (0, .ref b), (1, .ref (ad 0 0)), (2, .ref (adm 30)), (3, .ref o)]) hx hb dL_law_1364 hl (by decide) rfl (fun ls hl => ?_)
    refine lv_aload_n hx hb dL_law_1366 rfl (lv_at hl 4 rfl) ?_
    refine lv_aload_n hx hb dL_law_1367 rfl (lv_at hl 2 rfl) ?_
    refine lv_iload hx hb dL_law_1368 (lv_at hl 1 rfl) ?_
    refine lv_iconst (v := 1) hx hb dL_law_1370 (by decide) ?_
    refine lv_iadd hx hb dL_law_1371 ?_
    rw [i4_1]
    refine va_sld hx hb hX hbl (Nat.not_le.mpr hbl) hS (vp_in_nI (show 4 * i + 1 < L by omega) (by omega)) dL_law_1372 ?_
    rw [nI_clamp (show 4 * i + 1 < 2 ^ 31 by omega)]
    refine hcallV (n := 1) C hE (kR_whereIs l G (fun q => McL adm q ∨ H1.size ≤ q) adm τ (xs (4 * i + 1)) nT hR.1.2.2.2.1 h80.1) wML_L_170 wIM_X6_whereIs wSE_X6_X6_whereIs wIN_X6 wCO_X6_whereIs (by decide) rfl ⟨Nat.le_of_ble_eq_true rfl, Nat.le_of_ble_eq_true rfl⟩ (orec hE hM1.main (show mcl[8]? = some (RX6, TX6, 30) from rfl)) hS (fun q h => h.elim (fun h => hF.2.2 q h) (fun h => Nat.le_trans hS.1 h)) (fun q h => Or.inr h) (hM1.any (fun q h => Or.inl h)) rfl hl.1 (Nat.le_of_ble_eq_true rfl) dL_law_1373 ⟨by show cc9 + 1 + 0 ≤ 601024; omega, by show ss9 + 6 + 0 ≤ 7293034; omega⟩ (fun E ce q9 H1 locs1 hx9 _ _ _ _ _ => hx9.elim) (fun v H2 locs2 hv2 hk2 hS => ?_)
    obtain ⟨x9, τ', rfl, hM2, hcm⟩ := hv2
    have hM3 : PM G (McL adm) adm τ' H2 := hM2.any (fun q h => h)
    have ho3 := ho2.kept (hk2.2 _ ho2.lt (fun h => h.elim hF.2.1 (fun h => absurd ho2.lt (Nat.not_lt.mpr h))))
    have hex : EXT G (AxL s.heap.size o adm) ad H1 N 1 τ' := (sx_whereIs hR hI hx9 hcm).2
    obtain ⟨e27, ad', σ', qs', nT', nW', f', D', ea, hP3, hR2, hI2⟩ := hex
    have hP4 := hP3.kept hk2 (fun q h hlt h2 => h2.elim h.2.2 (fun h3 => absurd hlt (Nat.not_lt.mpr h3)))
    refine lv_istore (lv' := [(6, .int x9), (5, .int 1), (4, .int (nI (4 * i))), (0, .ref b), (1, .ref (ad 0 0)), (2, .ref (adm 30)), (3, .ref o)]) hx hb dL_law_1376 hl (by decide) rfl (fun ls hl => ?_)
    refine lv_aload_n hx hb dL_law_1378 rfl (lv_at hl 5 rfl) ?_
    refine hcallV (n := 0) C hE (kM_thrown l G (fun q => H2.size ≤ q) (McL adm) adm τ') wML_L_105 wIM_X6_thrown wSE_X6_X6_thrown wIN_X6 wCO_X6_thrown (by decide) rfl ⟨Nat.le_of_ble_eq_true rfl, Nat.le_of_ble_eq_true rfl⟩ (orec hE hM3.main (show mcl[8]? = some (RX6, TX6, 30) from rfl)) hS (fun q h => Nat.le_trans hS.1 h) (fun q h => h) hM3 rfl hl.1 (Nat.le_of_ble_eq_true rfl) dL_law_1379 ⟨by show cc9 + 1 + 0 + 0 ≤ 601024; omega, by show ss9 + 6 + 0 + 0 ≤ 7293034; omega⟩ (fun E ce q9 H1 locs1 hx9 _ _ _ _ _ => hx9.elim) (fun v H3 locs3 hv3 hk3 hS => ?_)
    obtain rfl : v = some (.int 1) := by rw [hv3, e27]
    have hP5 := hP4.old hk3
    have hM5 := hM3.old hk3
    have ho5 := ho3.kept (hk3.2 _ ho3.lt (Nat.not_le.mpr ho3.lt))
    refine lv_iload hx hb dL_law_1382 (lv_at hl 1 rfl) ?_
    refine lv_icmp_eq (tgt := 1389) hx hb dL_law_1384 (by decide) (fun c_1384_4 => ?_) (fun c_1384_4 => ?_)
    · refine lv_iload hx hb dL_law_1389 (lv_at hl 1 rfl) ?_
      refine lv_if_ne (tgt := 1406) hx hb dL_law_1391 (by decide) (fun c_1391_5 => ?_) (fun c_1391_5 => ?_)
      · refine lv_goto (tgt := 1851) hx hb dL_law_1406 (by decide) ?_
        exact kk H3 locs3 ls _ _ (show cc9 + 1 + 0 + 0 ≤ cc9 + 10 by omega) (show ss9 + 6 + 0 + 0 ≤ ss9 + 300 by omega) hS ⟨ad', σ', τ', qs', nT', nW', f', D', _, ea, hP5, hM5, ho5, hR2, hI2⟩ (lv_sub hl [2, 3, 4, 5, 6] rfl)
      · exact absurd c_1391_5 (by decide)
    · exact absurd c_1384_4 (by decide)
set_option maxHeartbeats 4000000 in
set_option maxRecDepth 100000 in
theorem LC_seen (l : Launch) (hl9 : l.stackTraces = false) {p : Program} {e : Env} {s : State} {m : MethodId} {below : List Frame} {meth : Method} {c : Code} {b L : Nat} {xs : Nat → Int32} {G : GE} {o a0 : Nat} {adm : Nat → Nat} (C : CallFix p m c cL_law 7 s #[Value.ref b] gTb RL) (hE : EN (fun q => s.heap.size ≤ q) G s s.heap) (hN : NCX s) (hX : va_X b L xs s s.heap) (hbl : b < s.heap.size) (hF : LFX s.heap.size o adm) (hL : L ≤ 2048) {i N cc9 ss9 : Nat} {Qw : State → Prop} {H : Heap} {locs : List Loc} {ls : Array Slot} (hi : 4 * i + 4 ≤ L) (hcc : cc9 ≤ 100 + 10 * i) (hss : ss9 ≤ 2000 + 300 * i) (hN2 : N < 1000) (hS : va_S (fun q => s.heap.size ≤ q) s.heap H locs) (hV : LINV G s.heap.size o a0 adm N H) (hl : lv_has ls 7 [(4, .int (nI (4 * i))), (0, .ref b), (1, .ref a0), (2, .ref (adm 30)), (3, .ref o)])
    (kk : ∀ (H1 : Heap) (locs1 : List Loc) (ls1 : Array Slot) (cc1 ss1 : Nat), cc1 ≤ cc9 + 10 → ss1 ≤ ss9 + 300 → va_S (fun q => s.heap.size ≤ q) s.heap H1 locs1 → LINV G s.heap.size o a0 adm (N + 1) H1 → lv_has ls1 7 [(4, .int (nI (4 * i))), (0, .ref b), (1, .ref a0), (2, .ref (adm 30)), (3, .ref o)] → W p l e room_1 s m #[Value.ref b] below meth c H1 locs1 cc1 ss1 Qw (F0 m 1851 ls1 [])) : W p l e room_1 s m #[Value.ref b] below meth c H locs cc9 ss9 Qw (F0 m 1409 ls []) := by
  have hx := C.1
  have hb := C.2.1
  have hown := C.2.2.2.1
  have hts := C.2.2.2.2
  obtain ⟨ad, σ, τ, qs, nT, nW, f, D, y0, rfl, hP, hM, ho9, hR, hI⟩ := hV
  have h80 := hR.n80
  refine lv_aload_n hx hb dL_law_1409 rfl (lv_at hl 2 rfl) ?_
  refine lv_aload_n hx hb dL_law_1410 rfl (lv_at hl 1 rfl) ?_
  refine lv_iload hx hb dL_law_1411 (lv_at hl 0 rfl) ?_
  refine lv_iconst (v := 1) hx hb dL_law_1413 (by decide) ?_
  refine lv_iadd hx hb dL_law_1414 ?_
  rw [i4_1]
  refine va_sld hx hb hX hbl (Nat.not_le.mpr hbl) hS (vp_in_nI (show 4 * i + 1 < L by omega) (by omega)) dL_law_1415 ?_
  rw [nI_clamp (show 4 * i + 1 < 2 ^ 31 by omega)]
  refine lv_aload_n hx hb dL_law_1416 rfl (lv_at hl 4 rfl) ?_
  refine hcallH (n := 3) C hE hN (hL_seen l G (AxL s.heap.size o adm) (fun q => AxL s.heap.size o adm q ∨ q = o) o (fun q h => Or.inl h) (Or.inr rfl) (fun h => h.2.1 rfl) ad σ qs nT nW hl9 (xs (4 * i + 1)) h80.1) wML_L_171 wST_L_seen wIN_L wCW_L_seen (by decide) rfl ⟨Nat.le_of_ble_eq_true rfl, Nat.le_of_ble_eq_true rfl⟩ hS (fun q h => h.elim (fun h => h.1) (fun h => h ▸ hF.1)) (fun q h => Or.inl (AxL.new hM ho9 hS.1 q h)) ⟨hP, ⟨_, ho9⟩, fun q h => AxL.new hM ho9 hS.1 q h⟩ rfl hl.1 (Nat.le_of_ble_eq_true rfl) dL_law_1417 ⟨by show cc9 + 1 ≤ 601024; omega, by show ss9 + 6 ≤ 7293034; omega⟩ (fun v H1 locs1 hv hk hS => ?_)
  have hM1 : PM G (McL adm) adm τ H1 := hM.keptL hk (fun q hq h => h.elim (fun h => h.2.2 hq) (fun h => hF.2.1 (h ▸ hq)))
  rcases hv with ⟨x, H0, rfl, hq, ho2, z2, oq2⟩ | ⟨E, hx9, hcode, y2, ho2⟩
  · skip
    refine lv_istore (lv' := [(5, .int 0), (4, .int (nI (4 * i))), (0, .ref b), (1, .ref (ad 0 0)), (2, .ref (adm 30)), (3, .ref o)]) hx hb dL_law_1420 hl (by decide) rfl (fun ls hl => ?_)
    refine lv_aload_n hx hb dL_law_1422 rfl (lv_at hl 4 rfl) ?_
    refine lv_aload_n hx hb dL_law_1423 rfl (lv_at hl 2 rfl) ?_
    refine lv_iload hx hb dL_law_1424 (lv_at hl 1 rfl) ?_
    refine lv_iconst (v := 1) hx hb dL_law_1426 (by decide) ?_
    refine lv_iadd hx hb dL_law_1427 ?_
    rw [i4_1]
    refine va_sld hx hb hX hbl (Nat.not_le.mpr hbl) hS (vp_in_nI (show 4 * i + 1 < L by omega) (by omega)) dL_law_1428 ?_
    rw [nI_clamp (show 4 * i + 1 < 2 ^ 31 by omega)]
    refine hcallV (n := 1) C hE (kR_seen l G (fun q => McL adm q ∨ H1.size ≤ q) adm τ (xs (4 * i + 1)) nT hR.1.2.2.2.1 h80.1) wML_L_173 wIM_X6_seen wSE_X6_X6_seen wIN_X6 wCO_X6_seen (by decide) rfl ⟨Nat.le_of_ble_eq_true rfl, Nat.le_of_ble_eq_true rfl⟩ (orec hE hM1.main (show mcl[8]? = some (RX6, TX6, 30) from rfl)) hS (fun q h => h.elim (fun h => hF.2.2 q h) (fun h => Nat.le_trans hS.1 h)) (fun q h => Or.inr h) (hM1.any (fun q h => Or.inl h)) rfl hl.1 (Nat.le_of_ble_eq_true rfl) dL_law_1429 ⟨by show cc9 + 1 + 0 ≤ 601024; omega, by show ss9 + 6 + 0 ≤ 7293034; omega⟩ (fun E ce q9 H1 locs1 hx9 _ _ _ _ _ => hx9.elim) (fun v H2 locs2 hv2 hk2 hS => ?_)
    obtain ⟨x9, τ', rfl, hM2, hcm⟩ := hv2
    have hM3 : PM G (McL adm) adm τ' H2 := hM2.any (fun q h => h)
    have ho3 := ho2.kept (hk2.2 _ ho2.lt (fun h => h.elim hF.2.1 (fun h => absurd ho2.lt (Nat.not_lt.mpr h))))
    obtain ⟨e27, ex, ad', σ', qs', nT', nW', f', D', ea, hP2, hR2, hI2⟩ := st_seen hR hI hq hcm
    obtain rfl : x = x9 := by cases ex; rfl
    have hP3 := hP2.kept (A1 := fun q => q = o) ⟨Nat.le_of_eq z2.symm, fun q _ hne => oq2 q hne⟩ (fun q h _ e => h.2.1 e)
    have hP4 := hP3.kept hk2 (fun q h hlt h2 => h2.elim h.2.2 (fun h3 => absurd hlt (Nat.not_lt.mpr h3)))
    refine lv_istore (lv' := [(6, .int x), (5, .int 0), (4, .int (nI (4 * i))), (0, .ref b), (1, .ref (ad 0 0)), (2, .ref (adm 30)), (3, .ref o)]) hx hb dL_law_1432 hl (by decide) rfl (fun ls hl => ?_)
    refine lv_aload_n hx hb dL_law_1434 rfl (lv_at hl 5 rfl) ?_
    refine hcallV (n := 0) C hE (kM_thrown l G (fun q => H2.size ≤ q) (McL adm) adm τ') wML_L_105 wIM_X6_thrown wSE_X6_X6_thrown wIN_X6 wCO_X6_thrown (by decide) rfl ⟨Nat.le_of_ble_eq_true rfl, Nat.le_of_ble_eq_true rfl⟩ (orec hE hM3.main (show mcl[8]? = some (RX6, TX6, 30) from rfl)) hS (fun q h => Nat.le_trans hS.1 h) (fun q h => h) hM3 rfl hl.1 (Nat.le_of_ble_eq_true rfl) dL_law_1435 ⟨by show cc9 + 1 + 0 + 0 ≤ 601024; omega, by show ss9 + 6 + 0 + 0 ≤ 7293034; omega⟩ (fun E ce q9 H1 locs1 hx9 _ _ _ _ _ => hx9.elim) (fun v H3 locs3 hv3 hk3 hS => ?_)
    obtain rfl : v = some (.int 0) := by rw [hv3, e27]
    have hP5 := hP4.old hk3
    have hM5 := hM3.old hk3
    have ho5 := ho3.kept (hk3.2 _ ho3.lt (Nat.not_le.mpr ho3.lt))
    refine lv_iload hx hb dL_law_1438 (lv_at hl 1 rfl) ?_
    refine lv_icmp_eq (tgt := 1445) hx hb dL_law_1440 (by decide) (fun c_1440_1 => ?_) (fun c_1440_1 => ?_)
    · refine lv_iload hx hb dL_law_1445 (lv_at hl 1 rfl) ?_
      refine lv_if_ne (tgt := 1462) hx hb dL_law_1447 (by decide) (fun c_1447_2 => ?_) (fun c_1447_2 => ?_)
      · exact absurd c_1447_2 (by decide)
      · refine lv_aload_n hx hb dL_law_1450 rfl (lv_at hl 6 rfl) ?_
        refine lv_iconst (v := 0) hx hb dL_law_1451 (by decide) ?_
        refine xlald hx hb hE.1.1 ho5 dL_law_1452 ?_
        refine lv_iload hx hb dL_law_1453 (lv_at hl 0 rfl) ?_
        refine lv_i2l hx hb dL_law_1455 rfl ?_
        refine W.lcmp hx hb dL_law_1456 ?_
        rw [lcmp0]
        refine lv_if_eq (tgt := 1462) hx hb dL_law_1457 (by decide) (fun c_1457_3 => ?_) (fun c_1457_3 => ?_)
        · refine lv_goto (tgt := 1851) hx hb dL_law_1462 (by decide) ?_
          exact kk H3 locs3 ls _ _ (show cc9 + 1 + 0 + 0 ≤ cc9 + 10 by omega) (show ss9 + 6 + 0 + 0 ≤ ss9 + 300 by omega) hS ⟨ad', σ', τ', qs', nT', nW', f', D', _, ea, hP5, hM5, ho5, hR2, hI2⟩ (lv_sub hl [2, 3, 4, 5, 6] rfl)
        · exact absurd c_1457_3 (by decide)
    · exact absurd c_1440_1 (by decide)
  · obtain ⟨eE, rfl⟩ := hcode
    refine lv_istore (lv' := [(5, .int 1), (4, .int (nI (4 * i))), (0, .ref b), (1, .ref (ad 0 0)), (2, .ref (adm 30)), (3, .ref o)]) hx hb dL_law_1420 hl (by decide) rfl (fun ls hl => ?_)
    refine lv_aload_n hx hb dL_law_1422 rfl (lv_at hl 4 rfl) ?_
    refine lv_aload_n hx hb dL_law_1423 rfl (lv_at hl 2 rfl) ?_
    refine lv_iload hx hb dL_law_1424 (lv_at hl 1 rfl) ?_
    refine lv_iconst (v := 1) hx hb dL_law_1426 (by decide) ?_
    refine lv_iadd hx hb dL_law_1427 ?_
    rw [i4_1]
    refine va_sld hx hb hX hbl (Nat.not_le.mpr hbl) hS (vp_in_nI (show 4 * i + 1 < L by omega) (by omega)) dL_law_1428 ?_
    rw [nI_clamp (show 4 * i + 1 < 2 ^ 31 by omega)]
    refine hcallV (n := 1) C hE (kR_seen l G (fun q => McL adm q ∨ H1.size ≤ q) adm τ (xs (4 * i + 1)) nT hR.1.2.2.2.1 h80.1) wML_L_173 wIM_X6_seen wSE_X6_X6_seen wIN_X6 wCO_X6_seen (by decide) rfl ⟨Nat.le_of_ble_eq_true rfl, Nat.le_of_ble_eq_true rfl⟩ (orec hE hM1.main (show mcl[8]? = some (RX6, TX6, 30) from rfl)) hS (fun q h => h.elim (fun h => hF.2.2 q h) (fun h => Nat.le_trans hS.1 h)) (fun q h => Or.inr h) (hM1.any (fun q h => Or.inl h)) rfl hl.1 (Nat.le_of_ble_eq_true rfl) dL_law_1429 ⟨by show cc9 + 1 + 0 ≤ 601024; omega, by show ss9 + 6 + 0 ≤ 7293034; omega⟩ (fun E ce q9 H1 locs1 hx9 _ _ _ _ _ => hx9.elim) (fun v H2 locs2 hv2 hk2 hS => ?_)
    obtain ⟨x9, τ', rfl, hM2, hcm⟩ := hv2
    have hM3 : PM G (McL adm) adm τ' H2 := hM2.any (fun q h => h)
    have ho3 := ho2.kept (hk2.2 _ ho2.lt (fun h => h.elim hF.2.1 (fun h => absurd ho2.lt (Nat.not_lt.mpr h))))
    have hex : EXT G (AxL s.heap.size o adm) ad H1 N 1 τ' := (sx_seen hR hI hx9 hcm).2
    obtain ⟨e27, ad', σ', qs', nT', nW', f', D', ea, hP3, hR2, hI2⟩ := hex
    have hP4 := hP3.kept hk2 (fun q h hlt h2 => h2.elim h.2.2 (fun h3 => absurd hlt (Nat.not_lt.mpr h3)))
    refine lv_istore (lv' := [(6, .int x9), (5, .int 1), (4, .int (nI (4 * i))), (0, .ref b), (1, .ref (ad 0 0)), (2, .ref (adm 30)), (3, .ref o)]) hx hb dL_law_1432 hl (by decide) rfl (fun ls hl => ?_)
    refine lv_aload_n hx hb dL_law_1434 rfl (lv_at hl 5 rfl) ?_
    refine hcallV (n := 0) C hE (kM_thrown l G (fun q => H2.size ≤ q) (McL adm) adm τ') wML_L_105 wIM_X6_thrown wSE_X6_X6_thrown wIN_X6 wCO_X6_thrown (by decide) rfl ⟨Nat.le_of_ble_eq_true rfl, Nat.le_of_ble_eq_true rfl⟩ (orec hE hM3.main (show mcl[8]? = some (RX6, TX6, 30) from rfl)) hS (fun q h => Nat.le_trans hS.1 h) (fun q h => h) hM3 rfl hl.1 (Nat.le_of_ble_eq_true rfl) dL_law_1435 ⟨by show cc9 + 1 + 0 + 0 ≤ 601024; omega, by show ss9 + 6 + 0 + 0 ≤ 7293034; omega⟩ (fun E ce q9 H1 locs1 hx9 _ _ _ _ _ => hx9.elim) (fun v H3 locs3 hv3 hk3 hS => ?_)
    obtain rfl : v = some (.int 1) := by rw [hv3, e27]
    have hP5 := hP4.old hk3
    have hM5 := hM3.old hk3
    have ho5 := ho3.kept (hk3.2 _ ho3.lt (Nat.not_le.mpr ho3.lt))
    refine lv_iload hx hb dL_law_1438 (lv_at hl 1 rfl) ?_
    refine lv_icmp_eq (tgt := 1445) hx hb dL_law_1440 (by decide) (fun c_1440_4 => ?_) (fun c_1440_4 => ?_)
    · refine lv_iload hx hb dL_law_1445 (lv_at hl 1 rfl) ?_
      refine lv_if_ne (tgt := 1462) hx hb dL_law_1447 (by decide) (fun c_1447_5 => ?_) (fun c_1447_5 => ?_)
      · refine lv_goto (tgt := 1851) hx hb dL_law_1462 (by decide) ?_
        exact kk H3 locs3 ls _ _ (show cc9 + 1 + 0 + 0 ≤ cc9 + 10 by omega) (show ss9 + 6 + 0 + 0 ≤ ss9 + 300 by omega) hS ⟨ad', σ', τ', qs', nT', nW', f', D', _, ea, hP5, hM5, ho5, hR2, hI2⟩ (lv_sub hl [2, 3, 4, 5, 6] rfl)
      · exact absurd c_1447_5 (by decide)
    · exact absurd c_1440_4 (by decide)
set_option maxHeartbeats 4000000 in
set_option maxRecDepth 100000 in
theorem LC_inside (l : Launch) (hl9 : l.stackTraces = false) {p : Program} {e : Env} {s : State} {m : MethodId} {below : List Frame} {meth : Method} {c : Code} {b L : Nat} {xs : Nat → Int32} {G : GE} {o a0 : Nat} {adm : Nat → Nat} (C : CallFix p m c cL_law 7 s #[Value.ref b] gTb RL) (hE : EN (fun q => s.heap.size ≤ q) G s s.heap) (hN : NCX s) (hX : va_X b L xs s s.heap) (hbl : b < s.heap.size) (hF : LFX s.heap.size o adm) (hL : L ≤ 2048) {i N cc9 ss9 : Nat} {Qw : State → Prop} {H : Heap} {locs : List Loc} {ls : Array Slot} (hi : 4 * i + 4 ≤ L) (hcc : cc9 ≤ 100 + 10 * i) (hss : ss9 ≤ 2000 + 300 * i) (hN2 : N < 1000) (hS : va_S (fun q => s.heap.size ≤ q) s.heap H locs) (hV : LINV G s.heap.size o a0 adm N H) (hl : lv_has ls 7 [(4, .int (nI (4 * i))), (0, .ref b), (1, .ref a0), (2, .ref (adm 30)), (3, .ref o)])
    (kk : ∀ (H1 : Heap) (locs1 : List Loc) (ls1 : Array Slot) (cc1 ss1 : Nat), cc1 ≤ cc9 + 10 → ss1 ≤ ss9 + 300 → va_S (fun q => s.heap.size ≤ q) s.heap H1 locs1 → LINV G s.heap.size o a0 adm (N + 1) H1 → lv_has ls1 7 [(4, .int (nI (4 * i))), (0, .ref b), (1, .ref a0), (2, .ref (adm 30)), (3, .ref o)] → W p l e room_1 s m #[Value.ref b] below meth c H1 locs1 cc1 ss1 Qw (F0 m 1851 ls1 [])) : W p l e room_1 s m #[Value.ref b] below meth c H locs cc9 ss9 Qw (F0 m 1465 ls []) := by
  have hx := C.1
  have hb := C.2.1
  have hown := C.2.2.2.1
  have hts := C.2.2.2.2
  obtain ⟨ad, σ, τ, qs, nT, nW, f, D, y0, rfl, hP, hM, ho9, hR, hI⟩ := hV
  have h80 := hR.n80
  refine lv_aload_n hx hb dL_law_1465 rfl (lv_at hl 2 rfl) ?_
  refine lv_aload_n hx hb dL_law_1466 rfl (lv_at hl 1 rfl) ?_
  refine lv_iload hx hb dL_law_1467 (lv_at hl 0 rfl) ?_
  refine lv_iconst (v := 1) hx hb dL_law_1469 (by decide) ?_
  refine lv_iadd hx hb dL_law_1470 ?_
  rw [i4_1]
  refine va_sld hx hb hX hbl (Nat.not_le.mpr hbl) hS (vp_in_nI (show 4 * i + 1 < L by omega) (by omega)) dL_law_1471 ?_
  rw [nI_clamp (show 4 * i + 1 < 2 ^ 31 by omega)]
  refine lv_aload_n hx hb dL_law_1472 rfl (lv_at hl 4 rfl) ?_
  refine hcallH (n := 3) C hE hN (hL_inside l G (AxL s.heap.size o adm) (fun q => AxL s.heap.size o adm q ∨ q = o) o (fun q h => Or.inl h) (Or.inr rfl) (fun h => h.2.1 rfl) ad σ qs nT nW hl9 (xs (4 * i + 1))) wML_L_174 wST_L_inside wIN_L wCW_L_inside (by decide) rfl ⟨Nat.le_of_ble_eq_true rfl, Nat.le_of_ble_eq_true rfl⟩ hS (fun q h => h.elim (fun h => h.1) (fun h => h ▸ hF.1)) (fun q h => Or.inl (AxL.new hM ho9 hS.1 q h)) ⟨hP, ⟨_, ho9⟩, fun q h => AxL.new hM ho9 hS.1 q h⟩ rfl hl.1 (Nat.le_of_ble_eq_true rfl) dL_law_1473 ⟨by show cc9 + 1 ≤ 601024; omega, by show ss9 + 6 ≤ 7293034; omega⟩ (fun v H1 locs1 hv hk hS => ?_)
  have hM1 : PM G (McL adm) adm τ H1 := hM.keptL hk (fun q hq h => h.elim (fun h => h.2.2 hq) (fun h => hF.2.1 (h ▸ hq)))
  rcases hv with ⟨x, H0, rfl, hq, ho2, z2, oq2⟩ | ⟨E, hx9, hcode, y2, ho2⟩
  · skip
    refine lv_istore (lv' := [(5, .int 0), (4, .int (nI (4 * i))), (0, .ref b), (1, .ref (ad 0 0)), (2, .ref (adm 30)), (3, .ref o)]) hx hb dL_law_1476 hl (by decide) rfl (fun ls hl => ?_)
    refine lv_aload_n hx hb dL_law_1478 rfl (lv_at hl 4 rfl) ?_
    refine lv_aload_n hx hb dL_law_1479 rfl (lv_at hl 2 rfl) ?_
    refine lv_iload hx hb dL_law_1480 (lv_at hl 1 rfl) ?_
    refine lv_iconst (v := 1) hx hb dL_law_1482 (by decide) ?_
    refine lv_iadd hx hb dL_law_1483 ?_
    rw [i4_1]
    refine va_sld hx hb hX hbl (Nat.not_le.mpr hbl) hS (vp_in_nI (show 4 * i + 1 < L by omega) (by omega)) dL_law_1484 ?_
    rw [nI_clamp (show 4 * i + 1 < 2 ^ 31 by omega)]
    refine hcallV (n := 1) C hE (kR_inside l G (fun q => McL adm q ∨ H1.size ≤ q) adm τ (xs (4 * i + 1)) nT hR.1.2.2.2.1 h80.1) wML_L_176 wIM_X6_inside wSE_X6_X6_inside wIN_X6 wCO_X6_inside (by decide) rfl ⟨Nat.le_of_ble_eq_true rfl, Nat.le_of_ble_eq_true rfl⟩ (orec hE hM1.main (show mcl[8]? = some (RX6, TX6, 30) from rfl)) hS (fun q h => h.elim (fun h => hF.2.2 q h) (fun h => Nat.le_trans hS.1 h)) (fun q h => Or.inr h) (hM1.any (fun q h => Or.inl h)) rfl hl.1 (Nat.le_of_ble_eq_true rfl) dL_law_1485 ⟨by show cc9 + 1 + 0 ≤ 601024; omega, by show ss9 + 6 + 0 ≤ 7293034; omega⟩ (fun E ce q9 H1 locs1 hx9 _ _ _ _ _ => hx9.elim) (fun v H2 locs2 hv2 hk2 hS => ?_)
    obtain ⟨x9, τ', rfl, hM2, hcm⟩ := hv2
    have hM3 : PM G (McL adm) adm τ' H2 := hM2.any (fun q h => h)
    have ho3 := ho2.kept (hk2.2 _ ho2.lt (fun h => h.elim hF.2.1 (fun h => absurd ho2.lt (Nat.not_lt.mpr h))))
    obtain ⟨e27, ex, ad', σ', qs', nT', nW', f', D', ea, hP2, hR2, hI2⟩ := st_inside hR hI hq hcm
    obtain rfl : x = x9 := by cases ex; rfl
    have hP3 := hP2.kept (A1 := fun q => q = o) ⟨Nat.le_of_eq z2.symm, fun q _ hne => oq2 q hne⟩ (fun q h _ e => h.2.1 e)
    have hP4 := hP3.kept hk2 (fun q h hlt h2 => h2.elim h.2.2 (fun h3 => absurd hlt (Nat.not_lt.mpr h3)))
    refine lv_istore (lv' := [(6, .int x), (5, .int 0), (4, .int (nI (4 * i))), (0, .ref b), (1, .ref (ad 0 0)), (2, .ref (adm 30)), (3, .ref o)]) hx hb dL_law_1488 hl (by decide) rfl (fun ls hl => ?_)
    refine lv_aload_n hx hb dL_law_1490 rfl (lv_at hl 5 rfl) ?_
    refine hcallV (n := 0) C hE (kM_thrown l G (fun q => H2.size ≤ q) (McL adm) adm τ') wML_L_105 wIM_X6_thrown wSE_X6_X6_thrown wIN_X6 wCO_X6_thrown (by decide) rfl ⟨Nat.le_of_ble_eq_true rfl, Nat.le_of_ble_eq_true rfl⟩ (orec hE hM3.main (show mcl[8]? = some (RX6, TX6, 30) from rfl)) hS (fun q h => Nat.le_trans hS.1 h) (fun q h => h) hM3 rfl hl.1 (Nat.le_of_ble_eq_true rfl) dL_law_1491 ⟨by show cc9 + 1 + 0 + 0 ≤ 601024; omega, by show ss9 + 6 + 0 + 0 ≤ 7293034; omega⟩ (fun E ce q9 H1 locs1 hx9 _ _ _ _ _ => hx9.elim) (fun v H3 locs3 hv3 hk3 hS => ?_)
    obtain rfl : v = some (.int 0) := by rw [hv3, e27]
    have hP5 := hP4.old hk3
    have hM5 := hM3.old hk3
    have ho5 := ho3.kept (hk3.2 _ ho3.lt (Nat.not_le.mpr ho3.lt))
    refine lv_iload hx hb dL_law_1494 (lv_at hl 1 rfl) ?_
    refine lv_icmp_eq (tgt := 1501) hx hb dL_law_1496 (by decide) (fun c_1496_1 => ?_) (fun c_1496_1 => ?_)
    · refine lv_iload hx hb dL_law_1501 (lv_at hl 1 rfl) ?_
      refine lv_if_ne (tgt := 1518) hx hb dL_law_1503 (by decide) (fun c_1503_2 => ?_) (fun c_1503_2 => ?_)
      · exact absurd c_1503_2 (by decide)
      · refine lv_aload_n hx hb dL_law_1506 rfl (lv_at hl 6 rfl) ?_
        refine lv_iconst (v := 0) hx hb dL_law_1507 (by decide) ?_
        refine xlald hx hb hE.1.1 ho5 dL_law_1508 ?_
        refine lv_iload hx hb dL_law_1509 (lv_at hl 0 rfl) ?_
        refine lv_i2l hx hb dL_law_1511 rfl ?_
        refine W.lcmp hx hb dL_law_1512 ?_
        rw [lcmp0]
        refine lv_if_eq (tgt := 1518) hx hb dL_law_1513 (by decide) (fun c_1513_3 => ?_) (fun c_1513_3 => ?_)
        · refine lv_goto (tgt := 1851) hx hb dL_law_1518 (by decide) ?_
          exact kk H3 locs3 ls _ _ (show cc9 + 1 + 0 + 0 ≤ cc9 + 10 by omega) (show ss9 + 6 + 0 + 0 ≤ ss9 + 300 by omega) hS ⟨ad', σ', τ', qs', nT', nW', f', D', _, ea, hP5, hM5, ho5, hR2, hI2⟩ (lv_sub hl [2, 3, 4, 5, 6] rfl)
        · exact absurd c_1513_3 (by decide)
    · exact absurd c_1496_1 (by decide)
  · obtain ⟨eE, rfl⟩ := hcode
    refine lv_istore (lv' := [(5, .int 1), (4, .int (nI (4 * i))), (0, .ref b), (1, .ref (ad 0 0)), (2, .ref (adm 30)), (3, .ref o)]) hx hb dL_law_1476 hl (by decide) rfl (fun ls hl => ?_)
    refine lv_aload_n hx hb dL_law_1478 rfl (lv_at hl 4 rfl) ?_
    refine lv_aload_n hx hb dL_law_1479 rfl (lv_at hl 2 rfl) ?_
    refine lv_iload hx hb dL_law_1480 (lv_at hl 1 rfl) ?_
    refine lv_iconst (v := 1) hx hb dL_law_1482 (by decide) ?_
    refine lv_iadd hx hb dL_law_1483 ?_
    rw [i4_1]
    refine va_sld hx hb hX hbl (Nat.not_le.mpr hbl) hS (vp_in_nI (show 4 * i + 1 < L by omega) (by omega)) dL_law_1484 ?_
    rw [nI_clamp (show 4 * i + 1 < 2 ^ 31 by omega)]
    refine hcallV (n := 1) C hE (kR_inside l G (fun q => McL adm q ∨ H1.size ≤ q) adm τ (xs (4 * i + 1)) nT hR.1.2.2.2.1 h80.1) wML_L_176 wIM_X6_inside wSE_X6_X6_inside wIN_X6 wCO_X6_inside (by decide) rfl ⟨Nat.le_of_ble_eq_true rfl, Nat.le_of_ble_eq_true rfl⟩ (orec hE hM1.main (show mcl[8]? = some (RX6, TX6, 30) from rfl)) hS (fun q h => h.elim (fun h => hF.2.2 q h) (fun h => Nat.le_trans hS.1 h)) (fun q h => Or.inr h) (hM1.any (fun q h => Or.inl h)) rfl hl.1 (Nat.le_of_ble_eq_true rfl) dL_law_1485 ⟨by show cc9 + 1 + 0 ≤ 601024; omega, by show ss9 + 6 + 0 ≤ 7293034; omega⟩ (fun E ce q9 H1 locs1 hx9 _ _ _ _ _ => hx9.elim) (fun v H2 locs2 hv2 hk2 hS => ?_)
    obtain ⟨x9, τ', rfl, hM2, hcm⟩ := hv2
    have hM3 : PM G (McL adm) adm τ' H2 := hM2.any (fun q h => h)
    have ho3 := ho2.kept (hk2.2 _ ho2.lt (fun h => h.elim hF.2.1 (fun h => absurd ho2.lt (Nat.not_lt.mpr h))))
    have hex : EXT G (AxL s.heap.size o adm) ad H1 N 1 τ' := (sx_inside hR hI hx9 hcm).2
    obtain ⟨e27, ad', σ', qs', nT', nW', f', D', ea, hP3, hR2, hI2⟩ := hex
    have hP4 := hP3.kept hk2 (fun q h hlt h2 => h2.elim h.2.2 (fun h3 => absurd hlt (Nat.not_lt.mpr h3)))
    refine lv_istore (lv' := [(6, .int x9), (5, .int 1), (4, .int (nI (4 * i))), (0, .ref b), (1, .ref (ad 0 0)), (2, .ref (adm 30)), (3, .ref o)]) hx hb dL_law_1488 hl (by decide) rfl (fun ls hl => ?_)
    refine lv_aload_n hx hb dL_law_1490 rfl (lv_at hl 5 rfl) ?_
    refine hcallV (n := 0) C hE (kM_thrown l G (fun q => H2.size ≤ q) (McL adm) adm τ') wML_L_105 wIM_X6_thrown wSE_X6_X6_thrown wIN_X6 wCO_X6_thrown (by decide) rfl ⟨Nat.le_of_ble_eq_true rfl, Nat.le_of_ble_eq_true rfl⟩ (orec hE hM3.main (show mcl[8]? = some (RX6, TX6, 30) from rfl)) hS (fun q h => Nat.le_trans hS.1 h) (fun q h => h) hM3 rfl hl.1 (Nat.le_of_ble_eq_true rfl) dL_law_1491 ⟨by show cc9 + 1 + 0 + 0 ≤ 601024; omega, by show ss9 + 6 + 0 + 0 ≤ 7293034; omega⟩ (fun E ce q9 H1 locs1 hx9 _ _ _ _ _ => hx9.elim) (fun v H3 locs3 hv3 hk3 hS => ?_)
    obtain rfl : v = some (.int 1) := by rw [hv3, e27]
    have hP5 := hP4.old hk3
    have hM5 := hM3.old hk3
    have ho5 := ho3.kept (hk3.2 _ ho3.lt (Nat.not_le.mpr ho3.lt))
    refine lv_iload hx hb dL_law_1494 (lv_at hl 1 rfl) ?_
    refine lv_icmp_eq (tgt := 1501) hx hb dL_law_1496 (by decide) (fun c_1496_4 => ?_) (fun c_1496_4 => ?_)
    · refine lv_iload hx hb dL_law_1501 (lv_at hl 1 rfl) ?_
      refine lv_if_ne (tgt := 1518) hx hb dL_law_1503 (by decide) (fun c_1503_5 => ?_) (fun c_1503_5 => ?_)
      · refine lv_goto (tgt := 1851) hx hb dL_law_1518 (by decide) ?_
        exact kk H3 locs3 ls _ _ (show cc9 + 1 + 0 + 0 ≤ cc9 + 10 by omega) (show ss9 + 6 + 0 + 0 ≤ ss9 + 300 by omega) hS ⟨ad', σ', τ', qs', nT', nW', f', D', _, ea, hP5, hM5, ho5, hR2, hI2⟩ (lv_sub hl [2, 3, 4, 5, 6] rfl)
      · exact absurd c_1503_5 (by decide)
    · exact absurd c_1496_4 (by decide)
set_option maxHeartbeats 4000000 in
set_option maxRecDepth 100000 in
theorem LC_queued (l : Launch) (hl9 : l.stackTraces = false) {p : Program} {e : Env} {s : State} {m : MethodId} {below : List Frame} {meth : Method} {c : Code} {b L : Nat} {xs : Nat → Int32} {G : GE} {o a0 : Nat} {adm : Nat → Nat} (C : CallFix p m c cL_law 7 s #[Value.ref b] gTb RL) (hE : EN (fun q => s.heap.size ≤ q) G s s.heap) (hN : NCX s) (hX : va_X b L xs s s.heap) (hbl : b < s.heap.size) (hF : LFX s.heap.size o adm) (hL : L ≤ 2048) {i N cc9 ss9 : Nat} {Qw : State → Prop} {H : Heap} {locs : List Loc} {ls : Array Slot} (hi : 4 * i + 4 ≤ L) (hcc : cc9 ≤ 100 + 10 * i) (hss : ss9 ≤ 2000 + 300 * i) (hN2 : N < 1000) (hS : va_S (fun q => s.heap.size ≤ q) s.heap H locs) (hV : LINV G s.heap.size o a0 adm N H) (hl : lv_has ls 7 [(4, .int (nI (4 * i))), (0, .ref b), (1, .ref a0), (2, .ref (adm 30)), (3, .ref o)])
    (kk : ∀ (H1 : Heap) (locs1 : List Loc) (ls1 : Array Slot) (cc1 ss1 : Nat), cc1 ≤ cc9 + 10 → ss1 ≤ ss9 + 300 → va_S (fun q => s.heap.size ≤ q) s.heap H1 locs1 → LINV G s.heap.size o a0 adm (N + 1) H1 → lv_has ls1 7 [(4, .int (nI (4 * i))), (0, .ref b), (1, .ref a0), (2, .ref (adm 30)), (3, .ref o)] → W p l e room_1 s m #[Value.ref b] below meth c H1 locs1 cc1 ss1 Qw (F0 m 1851 ls1 [])) : W p l e room_1 s m #[Value.ref b] below meth c H locs cc9 ss9 Qw (F0 m 1521 ls []) := by
  have hx := C.1
  have hb := C.2.1
  have hown := C.2.2.2.1
  have hts := C.2.2.2.2
  obtain ⟨ad, σ, τ, qs, nT, nW, f, D, y0, rfl, hP, hM, ho9, hR, hI⟩ := hV
  have h80 := hR.n80
  refine lv_aload_n hx hb dL_law_1521 rfl (lv_at hl 2 rfl) ?_
  refine lv_aload_n hx hb dL_law_1522 rfl (lv_at hl 1 rfl) ?_
  refine lv_iload hx hb dL_law_1523 (lv_at hl 0 rfl) ?_
  refine lv_iconst (v := 1) hx hb dL_law_1525 (by decide) ?_
  refine lv_iadd hx hb dL_law_1526 ?_
  rw [i4_1]
  refine va_sld hx hb hX hbl (Nat.not_le.mpr hbl) hS (vp_in_nI (show 4 * i + 1 < L by omega) (by omega)) dL_law_1527 ?_
  rw [nI_clamp (show 4 * i + 1 < 2 ^ 31 by omega)]
  refine lv_aload_n hx hb dL_law_1528 rfl (lv_at hl 1 rfl) ?_
  refine lv_iload hx hb dL_law_1529 (lv_at hl 0 rfl) ?_
  refine lv_iconst (v := 2) hx hb dL_law_1531 (by decide) ?_
  refine lv_iadd hx hb dL_law_1532 ?_
  rw [i4_2]
  refine va_sld hx hb hX hbl (Nat.not_le.mpr hbl) hS (vp_in_nI (show 4 * i + 2 < L by omega) (by omega)) dL_law_1533 ?_
  rw [nI_clamp (show 4 * i + 2 < 2 ^ 31 by omega)]
  refine lv_aload_n hx hb dL_law_1534 rfl (lv_at hl 4 rfl) ?_
  refine hcallH (n := 4) C hE hN (hL_queued l G (AxL s.heap.size o adm) (fun q => AxL s.heap.size o adm q ∨ q = o) o (fun q h => Or.inl h) (Or.inr rfl) (fun h => h.2.1 rfl) ad σ qs nT nW hl9 (xs (4 * i + 1)) (xs (4 * i + 2)) (L_len hR (by decide))) wML_L_177 wST_L_queued wIN_L wCW_L_queued (by decide) rfl ⟨Nat.le_of_ble_eq_true rfl, Nat.le_of_ble_eq_true rfl⟩ hS (fun q h => h.elim (fun h => h.1) (fun h => h ▸ hF.1)) (fun q h => Or.inl (AxL.new hM ho9 hS.1 q h)) ⟨hP, ⟨_, ho9⟩, fun q h => AxL.new hM ho9 hS.1 q h⟩ rfl hl.1 (Nat.le_of_ble_eq_true rfl) dL_law_1535 ⟨by show cc9 + 2 ≤ 601024; omega, by show ss9 + 12 ≤ 7293034; omega⟩ (fun v H1 locs1 hv hk hS => ?_)
  have hM1 : PM G (McL adm) adm τ H1 := hM.keptL hk (fun q hq h => h.elim (fun h => h.2.2 hq) (fun h => hF.2.1 (h ▸ hq)))
  rcases hv with ⟨x, H0, rfl, hq, ho2, z2, oq2⟩ | ⟨E, hx9, hcode, y2, ho2⟩
  · skip
    refine lv_istore (lv' := [(5, .int 0), (4, .int (nI (4 * i))), (0, .ref b), (1, .ref (ad 0 0)), (2, .ref (adm 30)), (3, .ref o)]) hx hb dL_law_1538 hl (by decide) rfl (fun ls hl => ?_)
    refine lv_aload_n hx hb dL_law_1540 rfl (lv_at hl 4 rfl) ?_
    refine lv_aload_n hx hb dL_law_1541 rfl (lv_at hl 2 rfl) ?_
    refine lv_iload hx hb dL_law_1542 (lv_at hl 1 rfl) ?_
    refine lv_iconst (v := 1) hx hb dL_law_1544 (by decide) ?_
    refine lv_iadd hx hb dL_law_1545 ?_
    rw [i4_1]
    refine va_sld hx hb hX hbl (Nat.not_le.mpr hbl) hS (vp_in_nI (show 4 * i + 1 < L by omega) (by omega)) dL_law_1546 ?_
    rw [nI_clamp (show 4 * i + 1 < 2 ^ 31 by omega)]
    refine lv_aload_n hx hb dL_law_1547 rfl (lv_at hl 2 rfl) ?_
    refine lv_iload hx hb dL_law_1548 (lv_at hl 1 rfl) ?_
    refine lv_iconst (v := 2) hx hb dL_law_1550 (by decide) ?_
    refine lv_iadd hx hb dL_law_1551 ?_
    rw [i4_2]
    refine va_sld hx hb hX hbl (Nat.not_le.mpr hbl) hS (vp_in_nI (show 4 * i + 2 < L by omega) (by omega)) dL_law_1552 ?_
    rw [nI_clamp (show 4 * i + 2 < 2 ^ 31 by omega)]
    refine hcallV (n := 2) C hE (kR_queued l G (fun q => McL adm q ∨ H1.size ≤ q) adm τ (xs (4 * i + 1)) (xs (4 * i + 2)) nT hR.1.2.2.2.1 h80.1) wML_L_179 wIM_X6_queued wSE_X6_X6_queued wIN_X6 wCO_X6_queued (by decide) rfl ⟨Nat.le_of_ble_eq_true rfl, Nat.le_of_ble_eq_true rfl⟩ (orec hE hM1.main (show mcl[8]? = some (RX6, TX6, 30) from rfl)) hS (fun q h => h.elim (fun h => hF.2.2 q h) (fun h => Nat.le_trans hS.1 h)) (fun q h => Or.inr h) (hM1.any (fun q h => Or.inl h)) rfl hl.1 (Nat.le_of_ble_eq_true rfl) dL_law_1553 ⟨by show cc9 + 2 + 0 ≤ 601024; omega, by show ss9 + 12 + 0 ≤ 7293034; omega⟩ (fun E ce q9 H1 locs1 hx9 _ _ _ _ _ => hx9.elim) (fun v H2 locs2 hv2 hk2 hS => ?_)
    obtain ⟨x9, τ', rfl, hM2, hcm⟩ := hv2
    have hM3 : PM G (McL adm) adm τ' H2 := hM2.any (fun q h => h)
    have ho3 := ho2.kept (hk2.2 _ ho2.lt (fun h => h.elim hF.2.1 (fun h => absurd ho2.lt (Nat.not_lt.mpr h))))
    obtain ⟨e27, ex, ad', σ', qs', nT', nW', f', D', ea, hP2, hR2, hI2⟩ := st_queued hR hI hq hcm
    obtain rfl : x = x9 := by cases ex; rfl
    have hP3 := hP2.kept (A1 := fun q => q = o) ⟨Nat.le_of_eq z2.symm, fun q _ hne => oq2 q hne⟩ (fun q h _ e => h.2.1 e)
    have hP4 := hP3.kept hk2 (fun q h hlt h2 => h2.elim h.2.2 (fun h3 => absurd hlt (Nat.not_lt.mpr h3)))
    refine lv_istore (lv' := [(6, .int x), (5, .int 0), (4, .int (nI (4 * i))), (0, .ref b), (1, .ref (ad 0 0)), (2, .ref (adm 30)), (3, .ref o)]) hx hb dL_law_1556 hl (by decide) rfl (fun ls hl => ?_)
    refine lv_aload_n hx hb dL_law_1558 rfl (lv_at hl 5 rfl) ?_
    refine hcallV (n := 0) C hE (kM_thrown l G (fun q => H2.size ≤ q) (McL adm) adm τ') wML_L_105 wIM_X6_thrown wSE_X6_X6_thrown wIN_X6 wCO_X6_thrown (by decide) rfl ⟨Nat.le_of_ble_eq_true rfl, Nat.le_of_ble_eq_true rfl⟩ (orec hE hM3.main (show mcl[8]? = some (RX6, TX6, 30) from rfl)) hS (fun q h => Nat.le_trans hS.1 h) (fun q h => h) hM3 rfl hl.1 (Nat.le_of_ble_eq_true rfl) dL_law_1559 ⟨by show cc9 + 2 + 0 + 0 ≤ 601024; omega, by show ss9 + 12 + 0 + 0 ≤ 7293034; omega⟩ (fun E ce q9 H1 locs1 hx9 _ _ _ _ _ => hx9.elim) (fun v H3 locs3 hv3 hk3 hS => ?_)
    obtain rfl : v = some (.int 0) := by rw [hv3, e27]
    have hP5 := hP4.old hk3
    have hM5 := hM3.old hk3
    have ho5 := ho3.kept (hk3.2 _ ho3.lt (Nat.not_le.mpr ho3.lt))
    refine lv_iload hx hb dL_law_1562 (lv_at hl 1 rfl) ?_
    refine lv_icmp_eq (tgt := 1569) hx hb dL_law_1564 (by decide) (fun c_1564_1 => ?_) (fun c_1564_1 => ?_)
    · refine lv_iload hx hb dL_law_1569 (lv_at hl 1 rfl) ?_
      refine lv_if_ne (tgt := 1586) hx hb dL_law_1571 (by decide) (fun c_1571_2 => ?_) (fun c_1571_2 => ?_)
      · exact absurd c_1571_2 (by decide)
      · refine lv_aload_n hx hb dL_law_1574 rfl (lv_at hl 6 rfl) ?_
        refine lv_iconst (v := 0) hx hb dL_law_1575 (by decide) ?_
        refine xlald hx hb hE.1.1 ho5 dL_law_1576 ?_
        refine lv_iload hx hb dL_law_1577 (lv_at hl 0 rfl) ?_
        refine lv_i2l hx hb dL_law_1579 rfl ?_
        refine W.lcmp hx hb dL_law_1580 ?_
        rw [lcmp0]
        refine lv_if_eq (tgt := 1586) hx hb dL_law_1581 (by decide) (fun c_1581_3 => ?_) (fun c_1581_3 => ?_)
        · refine lv_goto (tgt := 1851) hx hb dL_law_1586 (by decide) ?_
          exact kk H3 locs3 ls _ _ (show cc9 + 2 + 0 + 0 ≤ cc9 + 10 by omega) (show ss9 + 12 + 0 + 0 ≤ ss9 + 300 by omega) hS ⟨ad', σ', τ', qs', nT', nW', f', D', _, ea, hP5, hM5, ho5, hR2, hI2⟩ (lv_sub hl [2, 3, 4, 5, 6] rfl)
        · exact absurd c_1581_3 (by decide)
    · exact absurd c_1564_1 (by decide)
  · obtain ⟨eE, rfl⟩ := hcode
    refine lv_istore (lv' := [(5, .int 1), (4, .int (nI (4 * i))), (0, .ref b), (1, .ref (ad 0 0)), (2, .ref (adm 30)), (3, .ref o)]) hx hb dL_law_1538 hl (by decide) rfl (fun ls hl => ?_)
    refine lv_aload_n hx hb dL_law_1540 rfl (lv_at hl 4 rfl) ?_
    refine lv_aload_n hx hb dL_law_1541 rfl (lv_at hl 2 rfl) ?_
    refine lv_iload hx hb dL_law_1542 (lv_at hl 1 rfl) ?_
    refine lv_iconst (v := 1) hx hb dL_law_1544 (by decide) ?_
    refine lv_iadd hx hb dL_law_1545 ?_
    rw [i4_1]
    refine va_sld hx hb hX hbl (Nat.not_le.mpr hbl) hS (vp_in_nI (show 4 * i + 1 < L by omega) (by omega)) dL_law_1546 ?_
    rw [nI_clamp (show 4 * i + 1 < 2 ^ 31 by omega)]
    refine lv_aload_n hx hb dL_law_1547 rfl (lv_at hl 2 rfl) ?_
    refine lv_iload hx hb dL_law_1548 (lv_at hl 1 rfl) ?_
    refine lv_iconst (v := 2) hx hb dL_law_1550 (by decide) ?_
    refine lv_iadd hx hb dL_law_1551 ?_
    rw [i4_2]
    refine va_sld hx hb hX hbl (Nat.not_le.mpr hbl) hS (vp_in_nI (show 4 * i + 2 < L by omega) (by omega)) dL_law_1552 ?_
    rw [nI_clamp (show 4 * i + 2 < 2 ^ 31 by omega)]
    refine hcallV (n := 2) C hE (kR_queued l G (fun q => McL adm q ∨ H1.size ≤ q) adm τ (xs (4 * i + 1)) (xs (4 * i + 2)) nT hR.1.2.2.2.1 h80.1) wML_L_179 wIM_X6_queued wSE_X6_X6_queued wIN_X6 wCO_X6_queued (by decide) rfl ⟨Nat.le_of_ble_eq_true rfl, Nat.le_of_ble_eq_true rfl⟩ (orec hE hM1.main (show mcl[8]? = some (RX6, TX6, 30) from rfl)) hS (fun q h => h.elim (fun h => hF.2.2 q h) (fun h => Nat.le_trans hS.1 h)) (fun q h => Or.inr h) (hM1.any (fun q h => Or.inl h)) rfl hl.1 (Nat.le_of_ble_eq_true rfl) dL_law_1553 ⟨by show cc9 + 2 + 0 ≤ 601024; omega, by show ss9 + 12 + 0 ≤ 7293034; omega⟩ (fun E ce q9 H1 locs1 hx9 _ _ _ _ _ => hx9.elim) (fun v H2 locs2 hv2 hk2 hS => ?_)
    obtain ⟨x9, τ', rfl, hM2, hcm⟩ := hv2
    have hM3 : PM G (McL adm) adm τ' H2 := hM2.any (fun q h => h)
    have ho3 := ho2.kept (hk2.2 _ ho2.lt (fun h => h.elim hF.2.1 (fun h => absurd ho2.lt (Nat.not_lt.mpr h))))
    have hex : EXT G (AxL s.heap.size o adm) ad H1 N 1 τ' := (sx_queued hR hI hx9 hcm).2
    obtain ⟨e27, ad', σ', qs', nT', nW', f', D', ea, hP3, hR2, hI2⟩ := hex
    have hP4 := hP3.kept hk2 (fun q h hlt h2 => h2.elim h.2.2 (fun h3 => absurd hlt (Nat.not_lt.mpr h3)))
    refine lv_istore (lv' := [(6, .int x9), (5, .int 1), (4, .int (nI (4 * i))), (0, .ref b), (1, .ref (ad 0 0)), (2, .ref (adm 30)), (3, .ref o)]) hx hb dL_law_1556 hl (by decide) rfl (fun ls hl => ?_)
    refine lv_aload_n hx hb dL_law_1558 rfl (lv_at hl 5 rfl) ?_
    refine hcallV (n := 0) C hE (kM_thrown l G (fun q => H2.size ≤ q) (McL adm) adm τ') wML_L_105 wIM_X6_thrown wSE_X6_X6_thrown wIN_X6 wCO_X6_thrown (by decide) rfl ⟨Nat.le_of_ble_eq_true rfl, Nat.le_of_ble_eq_true rfl⟩ (orec hE hM3.main (show mcl[8]? = some (RX6, TX6, 30) from rfl)) hS (fun q h => Nat.le_trans hS.1 h) (fun q h => h) hM3 rfl hl.1 (Nat.le_of_ble_eq_true rfl) dL_law_1559 ⟨by show cc9 + 2 + 0 + 0 ≤ 601024; omega, by show ss9 + 12 + 0 + 0 ≤ 7293034; omega⟩ (fun E ce q9 H1 locs1 hx9 _ _ _ _ _ => hx9.elim) (fun v H3 locs3 hv3 hk3 hS => ?_)
    obtain rfl : v = some (.int 1) := by rw [hv3, e27]
    have hP5 := hP4.old hk3
    have hM5 := hM3.old hk3
    have ho5 := ho3.kept (hk3.2 _ ho3.lt (Nat.not_le.mpr ho3.lt))
    refine lv_iload hx hb dL_law_1562 (lv_at hl 1 rfl) ?_
    refine lv_icmp_eq (tgt := 1569) hx hb dL_law_1564 (by decide) (fun c_1564_4 => ?_) (fun c_1564_4 => ?_)
    · refine lv_iload hx hb dL_law_1569 (lv_at hl 1 rfl) ?_
      refine lv_if_ne (tgt := 1586) hx hb dL_law_1571 (by decide) (fun c_1571_5 => ?_) (fun c_1571_5 => ?_)
      · refine lv_goto (tgt := 1851) hx hb dL_law_1586 (by decide) ?_
        exact kk H3 locs3 ls _ _ (show cc9 + 2 + 0 + 0 ≤ cc9 + 10 by omega) (show ss9 + 12 + 0 + 0 ≤ ss9 + 300 by omega) hS ⟨ad', σ', τ', qs', nT', nW', f', D', _, ea, hP5, hM5, ho5, hR2, hI2⟩ (lv_sub hl [2, 3, 4, 5, 6] rfl)
      · exact absurd c_1571_5 (by decide)
    · exact absurd c_1564_4 (by decide)
set_option maxHeartbeats 4000000 in
set_option maxRecDepth 100000 in
theorem LC_views (l : Launch) (hl9 : l.stackTraces = false) {p : Program} {e : Env} {s : State} {m : MethodId} {below : List Frame} {meth : Method} {c : Code} {b L : Nat} {xs : Nat → Int32} {G : GE} {o a0 : Nat} {adm : Nat → Nat} (C : CallFix p m c cL_law 7 s #[Value.ref b] gTb RL) (hE : EN (fun q => s.heap.size ≤ q) G s s.heap) (hN : NCX s) (hX : va_X b L xs s s.heap) (hbl : b < s.heap.size) (hF : LFX s.heap.size o adm) (hL : L ≤ 2048) {i N cc9 ss9 : Nat} {Qw : State → Prop} {H : Heap} {locs : List Loc} {ls : Array Slot} (hi : 4 * i + 4 ≤ L) (hcc : cc9 ≤ 100 + 10 * i) (hss : ss9 ≤ 2000 + 300 * i) (hN2 : N < 1000) (hS : va_S (fun q => s.heap.size ≤ q) s.heap H locs) (hV : LINV G s.heap.size o a0 adm N H) (hl : lv_has ls 7 [(4, .int (nI (4 * i))), (0, .ref b), (1, .ref a0), (2, .ref (adm 30)), (3, .ref o)])
    (kk : ∀ (H1 : Heap) (locs1 : List Loc) (ls1 : Array Slot) (cc1 ss1 : Nat), cc1 ≤ cc9 + 10 → ss1 ≤ ss9 + 300 → va_S (fun q => s.heap.size ≤ q) s.heap H1 locs1 → LINV G s.heap.size o a0 adm (N + 1) H1 → lv_has ls1 7 [(4, .int (nI (4 * i))), (0, .ref b), (1, .ref a0), (2, .ref (adm 30)), (3, .ref o)] → W p l e room_1 s m #[Value.ref b] below meth c H1 locs1 cc1 ss1 Qw (F0 m 1851 ls1 [])) : W p l e room_1 s m #[Value.ref b] below meth c H locs cc9 ss9 Qw (F0 m 1589 ls []) := by
  have hx := C.1
  have hb := C.2.1
  have hown := C.2.2.2.1
  have hts := C.2.2.2.2
  obtain ⟨ad, σ, τ, qs, nT, nW, f, D, y0, rfl, hP, hM, ho9, hR, hI⟩ := hV
  have h80 := hR.n80
  refine lv_aload_n hx hb dL_law_1589 rfl (lv_at hl 2 rfl) ?_
  refine lv_aload_n hx hb dL_law_1590 rfl (lv_at hl 1 rfl) ?_
  refine lv_iload hx hb dL_law_1591 (lv_at hl 0 rfl) ?_
  refine lv_iconst (v := 1) hx hb dL_law_1593 (by decide) ?_
  refine lv_iadd hx hb dL_law_1594 ?_
  rw [i4_1]
  refine va_sld hx hb hX hbl (Nat.not_le.mpr hbl) hS (vp_in_nI (show 4 * i + 1 < L by omega) (by omega)) dL_law_1595 ?_
  rw [nI_clamp (show 4 * i + 1 < 2 ^ 31 by omega)]
  refine lv_aload_n hx hb dL_law_1596 rfl (lv_at hl 4 rfl) ?_
  refine hcallH (n := 3) C hE hN (hL_views l G (AxL s.heap.size o adm) (fun q => AxL s.heap.size o adm q ∨ q = o) o (fun q h => Or.inl h) (Or.inr rfl) (fun h => h.2.1 rfl) ad σ qs nT nW hl9 (xs (4 * i + 1)) h80.2.1) wML_L_180 wST_L_views wIN_L wCW_L_views (by decide) rfl ⟨Nat.le_of_ble_eq_true rfl, Nat.le_of_ble_eq_true rfl⟩ hS (fun q h => h.elim (fun h => h.1) (fun h => h ▸ hF.1)) (fun q h => Or.inl (AxL.new hM ho9 hS.1 q h)) ⟨hP, ⟨_, ho9⟩, fun q h => AxL.new hM ho9 hS.1 q h⟩ rfl hl.1 (Nat.le_of_ble_eq_true rfl) dL_law_1597 ⟨by show cc9 + 1 ≤ 601024; omega, by show ss9 + 6 ≤ 7293034; omega⟩ (fun v H1 locs1 hv hk hS => ?_)
  have hM1 : PM G (McL adm) adm τ H1 := hM.keptL hk (fun q hq h => h.elim (fun h => h.2.2 hq) (fun h => hF.2.1 (h ▸ hq)))
  rcases hv with ⟨x, H0, rfl, hq, ho2, z2, oq2⟩ | ⟨E, hx9, hcode, y2, ho2⟩
  · skip
    refine lv_istore (lv' := [(5, .int 0), (4, .int (nI (4 * i))), (0, .ref b), (1, .ref (ad 0 0)), (2, .ref (adm 30)), (3, .ref o)]) hx hb dL_law_1600 hl (by decide) rfl (fun ls hl => ?_)
    refine lv_aload_n hx hb dL_law_1602 rfl (lv_at hl 4 rfl) ?_
    refine lv_aload_n hx hb dL_law_1603 rfl (lv_at hl 2 rfl) ?_
    refine lv_iload hx hb dL_law_1604 (lv_at hl 1 rfl) ?_
    refine lv_iconst (v := 1) hx hb dL_law_1606 (by decide) ?_
    refine lv_iadd hx hb dL_law_1607 ?_
    rw [i4_1]
    refine va_sld hx hb hX hbl (Nat.not_le.mpr hbl) hS (vp_in_nI (show 4 * i + 1 < L by omega) (by omega)) dL_law_1608 ?_
    rw [nI_clamp (show 4 * i + 1 < 2 ^ 31 by omega)]
    refine hcallV (n := 1) C hE (kR_views l G (fun q => McL adm q ∨ H1.size ≤ q) adm τ (xs (4 * i + 1)) nW hR.1.2.2.2.2.1 h80.2.1) wML_L_182 wIM_X6_views wSE_X6_X6_views wIN_X6 wCO_X6_views (by decide) rfl ⟨Nat.le_of_ble_eq_true rfl, Nat.le_of_ble_eq_true rfl⟩ (orec hE hM1.main (show mcl[8]? = some (RX6, TX6, 30) from rfl)) hS (fun q h => h.elim (fun h => hF.2.2 q h) (fun h => Nat.le_trans hS.1 h)) (fun q h => Or.inr h) (hM1.any (fun q h => Or.inl h)) rfl hl.1 (Nat.le_of_ble_eq_true rfl) dL_law_1609 ⟨by show cc9 + 1 + 0 ≤ 601024; omega, by show ss9 + 6 + 0 ≤ 7293034; omega⟩ (fun E ce q9 H1 locs1 hx9 _ _ _ _ _ => hx9.elim) (fun v H2 locs2 hv2 hk2 hS => ?_)
    obtain ⟨x9, τ', rfl, hM2, hcm⟩ := hv2
    have hM3 : PM G (McL adm) adm τ' H2 := hM2.any (fun q h => h)
    have ho3 := ho2.kept (hk2.2 _ ho2.lt (fun h => h.elim hF.2.1 (fun h => absurd ho2.lt (Nat.not_lt.mpr h))))
    obtain ⟨e27, ex, ad', σ', qs', nT', nW', f', D', ea, hP2, hR2, hI2⟩ := st_views hR hI hq hcm
    obtain rfl : x = x9 := by cases ex; rfl
    have hP3 := hP2.kept (A1 := fun q => q = o) ⟨Nat.le_of_eq z2.symm, fun q _ hne => oq2 q hne⟩ (fun q h _ e => h.2.1 e)
    have hP4 := hP3.kept hk2 (fun q h hlt h2 => h2.elim h.2.2 (fun h3 => absurd hlt (Nat.not_lt.mpr h3)))
    refine lv_istore (lv' := [(6, .int x), (5, .int 0), (4, .int (nI (4 * i))), (0, .ref b), (1, .ref (ad 0 0)), (2, .ref (adm 30)), (3, .ref o)]) hx hb dL_law_1612 hl (by decide) rfl (fun ls hl => ?_)
    refine lv_aload_n hx hb dL_law_1614 rfl (lv_at hl 5 rfl) ?_
    refine hcallV (n := 0) C hE (kM_thrown l G (fun q => H2.size ≤ q) (McL adm) adm τ') wML_L_105 wIM_X6_thrown wSE_X6_X6_thrown wIN_X6 wCO_X6_thrown (by decide) rfl ⟨Nat.le_of_ble_eq_true rfl, Nat.le_of_ble_eq_true rfl⟩ (orec hE hM3.main (show mcl[8]? = some (RX6, TX6, 30) from rfl)) hS (fun q h => Nat.le_trans hS.1 h) (fun q h => h) hM3 rfl hl.1 (Nat.le_of_ble_eq_true rfl) dL_law_1615 ⟨by show cc9 + 1 + 0 + 0 ≤ 601024; omega, by show ss9 + 6 + 0 + 0 ≤ 7293034; omega⟩ (fun E ce q9 H1 locs1 hx9 _ _ _ _ _ => hx9.elim) (fun v H3 locs3 hv3 hk3 hS => ?_)
    obtain rfl : v = some (.int 0) := by rw [hv3, e27]
    have hP5 := hP4.old hk3
    have hM5 := hM3.old hk3
    have ho5 := ho3.kept (hk3.2 _ ho3.lt (Nat.not_le.mpr ho3.lt))
    refine lv_iload hx hb dL_law_1618 (lv_at hl 1 rfl) ?_
    refine lv_icmp_eq (tgt := 1625) hx hb dL_law_1620 (by decide) (fun c_1620_1 => ?_) (fun c_1620_1 => ?_)
    · refine lv_iload hx hb dL_law_1625 (lv_at hl 1 rfl) ?_
      refine lv_if_ne (tgt := 1642) hx hb dL_law_1627 (by decide) (fun c_1627_2 => ?_) (fun c_1627_2 => ?_)
      · exact absurd c_1627_2 (by decide)
      · refine lv_aload_n hx hb dL_law_1630 rfl (lv_at hl 6 rfl) ?_
        refine lv_iconst (v := 0) hx hb dL_law_1631 (by decide) ?_
        refine xlald hx hb hE.1.1 ho5 dL_law_1632 ?_
        refine lv_iload hx hb dL_law_1633 (lv_at hl 0 rfl) ?_
        refine lv_i2l hx hb dL_law_1635 rfl ?_
        refine W.lcmp hx hb dL_law_1636 ?_
        rw [lcmp0]
        refine lv_if_eq (tgt := 1642) hx hb dL_law_1637 (by decide) (fun c_1637_3 => ?_) (fun c_1637_3 => ?_)
        · refine lv_goto (tgt := 1851) hx hb dL_law_1642 (by decide) ?_
          exact kk H3 locs3 ls _ _ (show cc9 + 1 + 0 + 0 ≤ cc9 + 10 by omega) (show ss9 + 6 + 0 + 0 ≤ ss9 + 300 by omega) hS ⟨ad', σ', τ', qs', nT', nW', f', D', _, ea, hP5, hM5, ho5, hR2, hI2⟩ (lv_sub hl [2, 3, 4, 5, 6] rfl)
        · exact absurd c_1637_3 (by decide)
    · exact absurd c_1620_1 (by decide)
  · obtain ⟨eE, rfl⟩ := hcode
    refine lv_istore (lv' := [(5, .int 1), (4, .int (nI (4 * i))), (0, .ref b), (1, .ref (ad 0 0)), (2, .ref (adm 30)), (3, .ref o)]) hx hb dL_law_1600 hl (by decide) rfl (fun ls hl => ?_)
    refine lv_aload_n hx hb dL_law_1602 rfl (lv_at hl 4 rfl) ?_
    refine lv_aload_n hx hb dL_law_1603 rfl (lv_at hl 2 rfl) ?_
    refine lv_iload hx hb dL_law_1604 (lv_at hl 1 rfl) ?_
    refine lv_iconst (v := 1) hx hb dL_law_1606 (by decide) ?_
    refine lv_iadd hx hb dL_law_1607 ?_
    rw [i4_1]
    refine va_sld hx hb hX hbl (Nat.not_le.mpr hbl) hS (vp_in_nI (show 4 * i + 1 < L by omega) (by omega)) dL_law_1608 ?_
    rw [nI_clamp (show 4 * i + 1 < 2 ^ 31 by omega)]
    refine hcallV (n := 1) C hE (kR_views l G (fun q => McL adm q ∨ H1.size ≤ q) adm τ (xs (4 * i + 1)) nW hR.1.2.2.2.2.1 h80.2.1) wML_L_182 wIM_X6_views wSE_X6_X6_views wIN_X6 wCO_X6_views (by decide) rfl ⟨Nat.le_of_ble_eq_true rfl, Nat.le_of_ble_eq_true rfl⟩ (orec hE hM1.main (show mcl[8]? = some (RX6, TX6, 30) from rfl)) hS (fun q h => h.elim (fun h => hF.2.2 q h) (fun h => Nat.le_trans hS.1 h)) (fun q h => Or.inr h) (hM1.any (fun q h => Or.inl h)) rfl hl.1 (Nat.le_of_ble_eq_true rfl) dL_law_1609 ⟨by show cc9 + 1 + 0 ≤ 601024; omega, by show ss9 + 6 + 0 ≤ 7293034; omega⟩ (fun E ce q9 H1 locs1 hx9 _ _ _ _ _ => hx9.elim) (fun v H2 locs2 hv2 hk2 hS => ?_)
    obtain ⟨x9, τ', rfl, hM2, hcm⟩ := hv2
    have hM3 : PM G (McL adm) adm τ' H2 := hM2.any (fun q h => h)
    have ho3 := ho2.kept (hk2.2 _ ho2.lt (fun h => h.elim hF.2.1 (fun h => absurd ho2.lt (Nat.not_lt.mpr h))))
    have hex : EXT G (AxL s.heap.size o adm) ad H1 N 1 τ' := (sx_views hR hI hx9 hcm).2
    obtain ⟨e27, ad', σ', qs', nT', nW', f', D', ea, hP3, hR2, hI2⟩ := hex
    have hP4 := hP3.kept hk2 (fun q h hlt h2 => h2.elim h.2.2 (fun h3 => absurd hlt (Nat.not_lt.mpr h3)))
    refine lv_istore (lv' := [(6, .int x9), (5, .int 1), (4, .int (nI (4 * i))), (0, .ref b), (1, .ref (ad 0 0)), (2, .ref (adm 30)), (3, .ref o)]) hx hb dL_law_1612 hl (by decide) rfl (fun ls hl => ?_)
    refine lv_aload_n hx hb dL_law_1614 rfl (lv_at hl 5 rfl) ?_
    refine hcallV (n := 0) C hE (kM_thrown l G (fun q => H2.size ≤ q) (McL adm) adm τ') wML_L_105 wIM_X6_thrown wSE_X6_X6_thrown wIN_X6 wCO_X6_thrown (by decide) rfl ⟨Nat.le_of_ble_eq_true rfl, Nat.le_of_ble_eq_true rfl⟩ (orec hE hM3.main (show mcl[8]? = some (RX6, TX6, 30) from rfl)) hS (fun q h => Nat.le_trans hS.1 h) (fun q h => h) hM3 rfl hl.1 (Nat.le_of_ble_eq_true rfl) dL_law_1615 ⟨by show cc9 + 1 + 0 + 0 ≤ 601024; omega, by show ss9 + 6 + 0 + 0 ≤ 7293034; omega⟩ (fun E ce q9 H1 locs1 hx9 _ _ _ _ _ => hx9.elim) (fun v H3 locs3 hv3 hk3 hS => ?_)
    obtain rfl : v = some (.int 1) := by rw [hv3, e27]
    have hP5 := hP4.old hk3
    have hM5 := hM3.old hk3
    have ho5 := ho3.kept (hk3.2 _ ho3.lt (Nat.not_le.mpr ho3.lt))
    refine lv_iload hx hb dL_law_1618 (lv_at hl 1 rfl) ?_
    refine lv_icmp_eq (tgt := 1625) hx hb dL_law_1620 (by decide) (fun c_1620_4 => ?_) (fun c_1620_4 => ?_)
    · refine lv_iload hx hb dL_law_1625 (lv_at hl 1 rfl) ?_
      refine lv_if_ne (tgt := 1642) hx hb dL_law_1627 (by decide) (fun c_1627_5 => ?_) (fun c_1627_5 => ?_)
      · refine lv_goto (tgt := 1851) hx hb dL_law_1642 (by decide) ?_
        exact kk H3 locs3 ls _ _ (show cc9 + 1 + 0 + 0 ≤ cc9 + 10 by omega) (show ss9 + 6 + 0 + 0 ≤ ss9 + 300 by omega) hS ⟨ad', σ', τ', qs', nT', nW', f', D', _, ea, hP5, hM5, ho5, hR2, hI2⟩ (lv_sub hl [2, 3, 4, 5, 6] rfl)
      · exact absurd c_1627_5 (by decide)
    · exact absurd c_1620_4 (by decide)
set_option maxHeartbeats 4000000 in
set_option maxRecDepth 100000 in
theorem LC_titleAt (l : Launch) (hl9 : l.stackTraces = false) {p : Program} {e : Env} {s : State} {m : MethodId} {below : List Frame} {meth : Method} {c : Code} {b L : Nat} {xs : Nat → Int32} {G : GE} {o a0 : Nat} {adm : Nat → Nat} (C : CallFix p m c cL_law 7 s #[Value.ref b] gTb RL) (hE : EN (fun q => s.heap.size ≤ q) G s s.heap) (hN : NCX s) (hX : va_X b L xs s s.heap) (hbl : b < s.heap.size) (hF : LFX s.heap.size o adm) (hL : L ≤ 2048) {i N cc9 ss9 : Nat} {Qw : State → Prop} {H : Heap} {locs : List Loc} {ls : Array Slot} (hi : 4 * i + 4 ≤ L) (hcc : cc9 ≤ 100 + 10 * i) (hss : ss9 ≤ 2000 + 300 * i) (hN2 : N < 1000) (hS : va_S (fun q => s.heap.size ≤ q) s.heap H locs) (hV : LINV G s.heap.size o a0 adm N H) (hl : lv_has ls 7 [(4, .int (nI (4 * i))), (0, .ref b), (1, .ref a0), (2, .ref (adm 30)), (3, .ref o)])
    (kk : ∀ (H1 : Heap) (locs1 : List Loc) (ls1 : Array Slot) (cc1 ss1 : Nat), cc1 ≤ cc9 + 10 → ss1 ≤ ss9 + 300 → va_S (fun q => s.heap.size ≤ q) s.heap H1 locs1 → LINV G s.heap.size o a0 adm (N + 1) H1 → lv_has ls1 7 [(4, .int (nI (4 * i))), (0, .ref b), (1, .ref a0), (2, .ref (adm 30)), (3, .ref o)] → W p l e room_1 s m #[Value.ref b] below meth c H1 locs1 cc1 ss1 Qw (F0 m 1851 ls1 [])) : W p l e room_1 s m #[Value.ref b] below meth c H locs cc9 ss9 Qw (F0 m 1645 ls []) := by
  have hx := C.1
  have hb := C.2.1
  have hown := C.2.2.2.1
  have hts := C.2.2.2.2
  obtain ⟨ad, σ, τ, qs, nT, nW, f, D, y0, rfl, hP, hM, ho9, hR, hI⟩ := hV
  have h80 := hR.n80
  refine lv_aload_n hx hb dL_law_1645 rfl (lv_at hl 2 rfl) ?_
  refine lv_aload_n hx hb dL_law_1646 rfl (lv_at hl 1 rfl) ?_
  refine lv_iload hx hb dL_law_1647 (lv_at hl 0 rfl) ?_
  refine lv_iconst (v := 1) hx hb dL_law_1649 (by decide) ?_
  refine lv_iadd hx hb dL_law_1650 ?_
  rw [i4_1]
  refine va_sld hx hb hX hbl (Nat.not_le.mpr hbl) hS (vp_in_nI (show 4 * i + 1 < L by omega) (by omega)) dL_law_1651 ?_
  rw [nI_clamp (show 4 * i + 1 < 2 ^ 31 by omega)]
  refine lv_aload_n hx hb dL_law_1652 rfl (lv_at hl 1 rfl) ?_
  refine lv_iload hx hb dL_law_1653 (lv_at hl 0 rfl) ?_
  refine lv_iconst (v := 2) hx hb dL_law_1655 (by decide) ?_
  refine lv_iadd hx hb dL_law_1656 ?_
  rw [i4_2]
  refine va_sld hx hb hX hbl (Nat.not_le.mpr hbl) hS (vp_in_nI (show 4 * i + 2 < L by omega) (by omega)) dL_law_1657 ?_
  rw [nI_clamp (show 4 * i + 2 < 2 ^ 31 by omega)]
  refine lv_aload_n hx hb dL_law_1658 rfl (lv_at hl 4 rfl) ?_
  refine hcallH (n := 4) C hE hN (hL_titleAt l G (AxL s.heap.size o adm) (fun q => AxL s.heap.size o adm q ∨ q = o) o (fun q h => Or.inl h) (Or.inr rfl) (fun h => h.2.1 rfl) ad σ qs nT nW hl9 (xs (4 * i + 1)) (xs (4 * i + 2)) h80.2.1 (L_wf hR) (L_wr hR) (L_fe hR)) wML_L_183 wST_L_titleAt wIN_L wCW_L_titleAt (by decide) rfl ⟨Nat.le_of_ble_eq_true rfl, Nat.le_of_ble_eq_true rfl⟩ hS (fun q h => h.elim (fun h => h.1) (fun h => h ▸ hF.1)) (fun q h => Or.inl (AxL.new hM ho9 hS.1 q h)) ⟨hP, ⟨_, ho9⟩, fun q h => AxL.new hM ho9 hS.1 q h⟩ rfl hl.1 (Nat.le_of_ble_eq_true rfl) dL_law_1659 ⟨by show cc9 + 4 ≤ 601024; omega, by show ss9 + 60 ≤ 7293034; omega⟩ (fun v H1 locs1 hv hk hS => ?_)
  have hM1 : PM G (McL adm) adm τ H1 := hM.keptL hk (fun q hq h => h.elim (fun h => h.2.2 hq) (fun h => hF.2.1 (h ▸ hq)))
  rcases hv with ⟨x, H0, rfl, hq, ho2, z2, oq2⟩ | ⟨E, hx9, hcode, y2, ho2⟩
  · skip
    refine lv_istore (lv' := [(5, .int 0), (4, .int (nI (4 * i))), (0, .ref b), (1, .ref (ad 0 0)), (2, .ref (adm 30)), (3, .ref o)]) hx hb dL_law_1662 hl (by decide) rfl (fun ls hl => ?_)
    refine lv_aload_n hx hb dL_law_1664 rfl (lv_at hl 4 rfl) ?_
    refine lv_aload_n hx hb dL_law_1665 rfl (lv_at hl 2 rfl) ?_
    refine lv_iload hx hb dL_law_1666 (lv_at hl 1 rfl) ?_
    refine lv_iconst (v := 1) hx hb dL_law_1668 (by decide) ?_
    refine lv_iadd hx hb dL_law_1669 ?_
    rw [i4_1]
    refine va_sld hx hb hX hbl (Nat.not_le.mpr hbl) hS (vp_in_nI (show 4 * i + 1 < L by omega) (by omega)) dL_law_1670 ?_
    rw [nI_clamp (show 4 * i + 1 < 2 ^ 31 by omega)]
    refine lv_aload_n hx hb dL_law_1671 rfl (lv_at hl 2 rfl) ?_
    refine lv_iload hx hb dL_law_1672 (lv_at hl 1 rfl) ?_
    refine lv_iconst (v := 2) hx hb dL_law_1674 (by decide) ?_
    refine lv_iadd hx hb dL_law_1675 ?_
    rw [i4_2]
    refine va_sld hx hb hX hbl (Nat.not_le.mpr hbl) hS (vp_in_nI (show 4 * i + 2 < L by omega) (by omega)) dL_law_1676 ?_
    rw [nI_clamp (show 4 * i + 2 < 2 ^ 31 by omega)]
    refine hcallV (n := 2) C hE (kR_titleAt l G (fun q => McL adm q ∨ H1.size ≤ q) adm τ (xs (4 * i + 1)) (xs (4 * i + 2)) nW hR.1.2.2.2.2.1 h80.2.1 (L_wfm hR) (L_hg hR) (L_fem hR)) wML_L_185 wIM_X6_titleAt wSE_X6_X6_titleAt wIN_X6 wCO_X6_titleAt (by decide) rfl ⟨Nat.le_of_ble_eq_true rfl, Nat.le_of_ble_eq_true rfl⟩ (orec hE hM1.main (show mcl[8]? = some (RX6, TX6, 30) from rfl)) hS (fun q h => h.elim (fun h => hF.2.2 q h) (fun h => Nat.le_trans hS.1 h)) (fun q h => Or.inr h) (hM1.any (fun q h => Or.inl h)) rfl hl.1 (Nat.le_of_ble_eq_true rfl) dL_law_1677 ⟨by show cc9 + 4 + 0 ≤ 601024; omega, by show ss9 + 60 + 0 ≤ 7293034; omega⟩ (fun E ce q9 H1 locs1 hx9 _ _ _ _ _ => hx9.elim) (fun v H2 locs2 hv2 hk2 hS => ?_)
    obtain ⟨x9, τ', rfl, hM2, hcm⟩ := hv2
    have hM3 : PM G (McL adm) adm τ' H2 := hM2.any (fun q h => h)
    have ho3 := ho2.kept (hk2.2 _ ho2.lt (fun h => h.elim hF.2.1 (fun h => absurd ho2.lt (Nat.not_lt.mpr h))))
    obtain ⟨e27, ex, ad', σ', qs', nT', nW', f', D', ea, hP2, hR2, hI2⟩ := st_titleAt hR hI hq hcm
    obtain rfl : x = x9 := by cases ex; rfl
    have hP3 := hP2.kept (A1 := fun q => q = o) ⟨Nat.le_of_eq z2.symm, fun q _ hne => oq2 q hne⟩ (fun q h _ e => h.2.1 e)
    have hP4 := hP3.kept hk2 (fun q h hlt h2 => h2.elim h.2.2 (fun h3 => absurd hlt (Nat.not_lt.mpr h3)))
    refine lv_istore (lv' := [(6, .int x), (5, .int 0), (4, .int (nI (4 * i))), (0, .ref b), (1, .ref (ad 0 0)), (2, .ref (adm 30)), (3, .ref o)]) hx hb dL_law_1680 hl (by decide) rfl (fun ls hl => ?_)
    refine lv_aload_n hx hb dL_law_1682 rfl (lv_at hl 5 rfl) ?_
    refine hcallV (n := 0) C hE (kM_thrown l G (fun q => H2.size ≤ q) (McL adm) adm τ') wML_L_105 wIM_X6_thrown wSE_X6_X6_thrown wIN_X6 wCO_X6_thrown (by decide) rfl ⟨Nat.le_of_ble_eq_true rfl, Nat.le_of_ble_eq_true rfl⟩ (orec hE hM3.main (show mcl[8]? = some (RX6, TX6, 30) from rfl)) hS (fun q h => Nat.le_trans hS.1 h) (fun q h => h) hM3 rfl hl.1 (Nat.le_of_ble_eq_true rfl) dL_law_1683 ⟨by show cc9 + 4 + 0 + 0 ≤ 601024; omega, by show ss9 + 60 + 0 + 0 ≤ 7293034; omega⟩ (fun E ce q9 H1 locs1 hx9 _ _ _ _ _ => hx9.elim) (fun v H3 locs3 hv3 hk3 hS => ?_)
    obtain rfl : v = some (.int 0) := by rw [hv3, e27]
    have hP5 := hP4.old hk3
    have hM5 := hM3.old hk3
    have ho5 := ho3.kept (hk3.2 _ ho3.lt (Nat.not_le.mpr ho3.lt))
    refine lv_iload hx hb dL_law_1686 (lv_at hl 1 rfl) ?_
    refine lv_icmp_eq (tgt := 1693) hx hb dL_law_1688 (by decide) (fun c_1688_1 => ?_) (fun c_1688_1 => ?_)
    · refine lv_iload hx hb dL_law_1693 (lv_at hl 1 rfl) ?_
      refine lv_if_ne (tgt := 1710) hx hb dL_law_1695 (by decide) (fun c_1695_2 => ?_) (fun c_1695_2 => ?_)
      · exact absurd c_1695_2 (by decide)
      · refine lv_aload_n hx hb dL_law_1698 rfl (lv_at hl 6 rfl) ?_
        refine lv_iconst (v := 0) hx hb dL_law_1699 (by decide) ?_
        refine xlald hx hb hE.1.1 ho5 dL_law_1700 ?_
        refine lv_iload hx hb dL_law_1701 (lv_at hl 0 rfl) ?_
        refine lv_i2l hx hb dL_law_1703 rfl ?_
        refine W.lcmp hx hb dL_law_1704 ?_
        rw [lcmp0]
        refine lv_if_eq (tgt := 1710) hx hb dL_law_1705 (by decide) (fun c_1705_3 => ?_) (fun c_1705_3 => ?_)
        · refine lv_goto (tgt := 1851) hx hb dL_law_1710 (by decide) ?_
          exact kk H3 locs3 ls _ _ (show cc9 + 4 + 0 + 0 ≤ cc9 + 10 by omega) (show ss9 + 60 + 0 + 0 ≤ ss9 + 300 by omega) hS ⟨ad', σ', τ', qs', nT', nW', f', D', _, ea, hP5, hM5, ho5, hR2, hI2⟩ (lv_sub hl [2, 3, 4, 5, 6] rfl)
        · exact absurd c_1705_3 (by decide)
    · exact absurd c_1688_1 (by decide)
  · obtain ⟨eE, rfl⟩ := hcode
    refine lv_istore (lv' := [(5, .int 1), (4, .int (nI (4 * i))), (0, .ref b), (1, .ref (ad 0 0)), (2, .ref (adm 30)), (3, .ref o)]) hx hb dL_law_1662 hl (by decide) rfl (fun ls hl => ?_)
    refine lv_aload_n hx hb dL_law_1664 rfl (lv_at hl 4 rfl) ?_
    refine lv_aload_n hx hb dL_law_1665 rfl (lv_at hl 2 rfl) ?_
    refine lv_iload hx hb dL_law_1666 (lv_at hl 1 rfl) ?_
    refine lv_iconst (v := 1) hx hb dL_law_1668 (by decide) ?_
    refine lv_iadd hx hb dL_law_1669 ?_
    rw [i4_1]
    refine va_sld hx hb hX hbl (Nat.not_le.mpr hbl) hS (vp_in_nI (show 4 * i + 1 < L by omega) (by omega)) dL_law_1670 ?_
    rw [nI_clamp (show 4 * i + 1 < 2 ^ 31 by omega)]
    refine lv_aload_n hx hb dL_law_1671 rfl (lv_at hl 2 rfl) ?_
    refine lv_iload hx hb dL_law_1672 (lv_at hl 1 rfl) ?_
    refine lv_iconst (v := 2) hx hb dL_law_1674 (by decide) ?_
    refine lv_iadd hx hb dL_law_1675 ?_
    rw [i4_2]
    refine va_sld hx hb hX hbl (Nat.not_le.mpr hbl) hS (vp_in_nI (show 4 * i + 2 < L by omega) (by omega)) dL_law_1676 ?_
    rw [nI_clamp (show 4 * i + 2 < 2 ^ 31 by omega)]
    refine hcallV (n := 2) C hE (kR_titleAt l G (fun q => McL adm q ∨ H1.size ≤ q) adm τ (xs (4 * i + 1)) (xs (4 * i + 2)) nW hR.1.2.2.2.2.1 h80.2.1 (L_wfm hR) (L_hg hR) (L_fem hR)) wML_L_185 wIM_X6_titleAt wSE_X6_X6_titleAt wIN_X6 wCO_X6_titleAt (by decide) rfl ⟨Nat.le_of_ble_eq_true rfl, Nat.le_of_ble_eq_true rfl⟩ (orec hE hM1.main (show mcl[8]? = some (RX6, TX6, 30) from rfl)) hS (fun q h => h.elim (fun h => hF.2.2 q h) (fun h => Nat.le_trans hS.1 h)) (fun q h => Or.inr h) (hM1.any (fun q h => Or.inl h)) rfl hl.1 (Nat.le_of_ble_eq_true rfl) dL_law_1677 ⟨by show cc9 + 4 + 0 ≤ 601024; omega, by show ss9 + 60 + 0 ≤ 7293034; omega⟩ (fun E ce q9 H1 locs1 hx9 _ _ _ _ _ => hx9.elim) (fun v H2 locs2 hv2 hk2 hS => ?_)
    obtain ⟨x9, τ', rfl, hM2, hcm⟩ := hv2
    have hM3 : PM G (McL adm) adm τ' H2 := hM2.any (fun q h => h)
    have ho3 := ho2.kept (hk2.2 _ ho2.lt (fun h => h.elim hF.2.1 (fun h => absurd ho2.lt (Nat.not_lt.mpr h))))
    have hex : EXT G (AxL s.heap.size o adm) ad H1 N 1 τ' := (sx_titleAt hR hI hx9 hcm).2
    obtain ⟨e27, ad', σ', qs', nT', nW', f', D', ea, hP3, hR2, hI2⟩ := hex
    have hP4 := hP3.kept hk2 (fun q h hlt h2 => h2.elim h.2.2 (fun h3 => absurd hlt (Nat.not_lt.mpr h3)))
    refine lv_istore (lv' := [(6, .int x9), (5, .int 1), (4, .int (nI (4 * i))), (0, .ref b), (1, .ref (ad 0 0)), (2, .ref (adm 30)), (3, .ref o)]) hx hb dL_law_1680 hl (by decide) rfl (fun ls hl => ?_)
    refine lv_aload_n hx hb dL_law_1682 rfl (lv_at hl 5 rfl) ?_
    refine hcallV (n := 0) C hE (kM_thrown l G (fun q => H2.size ≤ q) (McL adm) adm τ') wML_L_105 wIM_X6_thrown wSE_X6_X6_thrown wIN_X6 wCO_X6_thrown (by decide) rfl ⟨Nat.le_of_ble_eq_true rfl, Nat.le_of_ble_eq_true rfl⟩ (orec hE hM3.main (show mcl[8]? = some (RX6, TX6, 30) from rfl)) hS (fun q h => Nat.le_trans hS.1 h) (fun q h => h) hM3 rfl hl.1 (Nat.le_of_ble_eq_true rfl) dL_law_1683 ⟨by show cc9 + 4 + 0 + 0 ≤ 601024; omega, by show ss9 + 60 + 0 + 0 ≤ 7293034; omega⟩ (fun E ce q9 H1 locs1 hx9 _ _ _ _ _ => hx9.elim) (fun v H3 locs3 hv3 hk3 hS => ?_)
    obtain rfl : v = some (.int 1) := by rw [hv3, e27]
    have hP5 := hP4.old hk3
    have hM5 := hM3.old hk3
    have ho5 := ho3.kept (hk3.2 _ ho3.lt (Nat.not_le.mpr ho3.lt))
    refine lv_iload hx hb dL_law_1686 (lv_at hl 1 rfl) ?_
    refine lv_icmp_eq (tgt := 1693) hx hb dL_law_1688 (by decide) (fun c_1688_4 => ?_) (fun c_1688_4 => ?_)
    · refine lv_iload hx hb dL_law_1693 (lv_at hl 1 rfl) ?_
      refine lv_if_ne (tgt := 1710) hx hb dL_law_1695 (by decide) (fun c_1695_5 => ?_) (fun c_1695_5 => ?_)
      · refine lv_goto (tgt := 1851) hx hb dL_law_1710 (by decide) ?_
        exact kk H3 locs3 ls _ _ (show cc9 + 4 + 0 + 0 ≤ cc9 + 10 by omega) (show ss9 + 60 + 0 + 0 ≤ ss9 + 300 by omega) hS ⟨ad', σ', τ', qs', nT', nW', f', D', _, ea, hP5, hM5, ho5, hR2, hI2⟩ (lv_sub hl [2, 3, 4, 5, 6] rfl)
      · exact absurd c_1695_5 (by decide)
    · exact absurd c_1688_4 (by decide)
set_option maxHeartbeats 4000000 in
set_option maxRecDepth 100000 in
theorem LC_money (l : Launch) (hl9 : l.stackTraces = false) {p : Program} {e : Env} {s : State} {m : MethodId} {below : List Frame} {meth : Method} {c : Code} {b L : Nat} {xs : Nat → Int32} {G : GE} {o a0 : Nat} {adm : Nat → Nat} (C : CallFix p m c cL_law 7 s #[Value.ref b] gTb RL) (hE : EN (fun q => s.heap.size ≤ q) G s s.heap) (hN : NCX s) (hX : va_X b L xs s s.heap) (hbl : b < s.heap.size) (hF : LFX s.heap.size o adm) (hL : L ≤ 2048) {i N cc9 ss9 : Nat} {Qw : State → Prop} {H : Heap} {locs : List Loc} {ls : Array Slot} (hi : 4 * i + 4 ≤ L) (hcc : cc9 ≤ 100 + 10 * i) (hss : ss9 ≤ 2000 + 300 * i) (hN2 : N < 1000) (hS : va_S (fun q => s.heap.size ≤ q) s.heap H locs) (hV : LINV G s.heap.size o a0 adm N H) (hl : lv_has ls 7 [(4, .int (nI (4 * i))), (0, .ref b), (1, .ref a0), (2, .ref (adm 30)), (3, .ref o)])
    (kk : ∀ (H1 : Heap) (locs1 : List Loc) (ls1 : Array Slot) (cc1 ss1 : Nat), cc1 ≤ cc9 + 10 → ss1 ≤ ss9 + 300 → va_S (fun q => s.heap.size ≤ q) s.heap H1 locs1 → LINV G s.heap.size o a0 adm (N + 1) H1 → lv_has ls1 7 [(4, .int (nI (4 * i))), (0, .ref b), (1, .ref a0), (2, .ref (adm 30)), (3, .ref o)] → W p l e room_1 s m #[Value.ref b] below meth c H1 locs1 cc1 ss1 Qw (F0 m 1851 ls1 [])) : W p l e room_1 s m #[Value.ref b] below meth c H locs cc9 ss9 Qw (F0 m 1713 ls []) := by
  have hx := C.1
  have hb := C.2.1
  have hown := C.2.2.2.1
  have hts := C.2.2.2.2
  obtain ⟨ad, σ, τ, qs, nT, nW, f, D, y0, rfl, hP, hM, ho9, hR, hI⟩ := hV
  have h80 := hR.n80
  refine lv_aload_n hx hb dL_law_1713 rfl (lv_at hl 2 rfl) ?_
  refine lv_aload_n hx hb dL_law_1714 rfl (lv_at hl 1 rfl) ?_
  refine lv_iload hx hb dL_law_1715 (lv_at hl 0 rfl) ?_
  refine lv_iconst (v := 1) hx hb dL_law_1717 (by decide) ?_
  refine lv_iadd hx hb dL_law_1718 ?_
  rw [i4_1]
  refine va_sld hx hb hX hbl (Nat.not_le.mpr hbl) hS (vp_in_nI (show 4 * i + 1 < L by omega) (by omega)) dL_law_1719 ?_
  rw [nI_clamp (show 4 * i + 1 < 2 ^ 31 by omega)]
  refine lv_aload_n hx hb dL_law_1720 rfl (lv_at hl 4 rfl) ?_
  refine hcallH (n := 3) C hE hN (hL_money l G (AxL s.heap.size o adm) (fun q => AxL s.heap.size o adm q ∨ q = o) o (fun q h => Or.inl h) (Or.inr rfl) (fun h => h.2.1 rfl) ad σ qs nT nW hl9 (xs (4 * i + 1))) wML_L_186 wST_L_money wIN_L wCW_L_money (by decide) rfl ⟨Nat.le_of_ble_eq_true rfl, Nat.le_of_ble_eq_true rfl⟩ hS (fun q h => h.elim (fun h => h.1) (fun h => h ▸ hF.1)) (fun q h => Or.inl (AxL.new hM ho9 hS.1 q h)) ⟨hP, ⟨_, ho9⟩, fun q h => AxL.new hM ho9 hS.1 q h⟩ rfl hl.1 (Nat.le_of_ble_eq_true rfl) dL_law_1721 ⟨by show cc9 + 1 ≤ 601024; omega, by show ss9 + 6 ≤ 7293034; omega⟩ (fun v H1 locs1 hv hk hS => ?_)
  have hM1 : PM G (McL adm) adm τ H1 := hM.keptL hk (fun q hq h => h.elim (fun h => h.2.2 hq) (fun h => hF.2.1 (h ▸ hq)))
  rcases hv with ⟨x, H0, rfl, hq, ho2, z2, oq2⟩ | ⟨E, hx9, hcode, y2, ho2⟩
  · skip
    refine lv_istore (lv' := [(5, .int 0), (4, .int (nI (4 * i))), (0, .ref b), (1, .ref (ad 0 0)), (2, .ref (adm 30)), (3, .ref o)]) hx hb dL_law_1724 hl (by decide) rfl (fun ls hl => ?_)
    refine lv_aload_n hx hb dL_law_1726 rfl (lv_at hl 4 rfl) ?_
    refine lv_aload_n hx hb dL_law_1727 rfl (lv_at hl 2 rfl) ?_
    refine lv_iload hx hb dL_law_1728 (lv_at hl 1 rfl) ?_
    refine lv_iconst (v := 1) hx hb dL_law_1730 (by decide) ?_
    refine lv_iadd hx hb dL_law_1731 ?_
    rw [i4_1]
    refine va_sld hx hb hX hbl (Nat.not_le.mpr hbl) hS (vp_in_nI (show 4 * i + 1 < L by omega) (by omega)) dL_law_1732 ?_
    rw [nI_clamp (show 4 * i + 1 < 2 ^ 31 by omega)]
    refine hcallV (n := 1) C hE (kR_money l G (fun q => McL adm q ∨ H1.size ≤ q) adm τ (xs (4 * i + 1))) wML_L_188 wIM_X6_money wSE_X6_X6_money wIN_X6 wCO_X6_money (by decide) rfl ⟨Nat.le_of_ble_eq_true rfl, Nat.le_of_ble_eq_true rfl⟩ (orec hE hM1.main (show mcl[8]? = some (RX6, TX6, 30) from rfl)) hS (fun q h => h.elim (fun h => hF.2.2 q h) (fun h => Nat.le_trans hS.1 h)) (fun q h => Or.inr h) (hM1.any (fun q h => Or.inl h)) rfl hl.1 (Nat.le_of_ble_eq_true rfl) dL_law_1733 ⟨by show cc9 + 1 + 0 ≤ 601024; omega, by show ss9 + 6 + 0 ≤ 7293034; omega⟩ (fun E ce q9 H1 locs1 hx9 _ _ _ _ _ => hx9.elim) (fun v H2 locs2 hv2 hk2 hS => ?_)
    obtain ⟨x9, τ', rfl, hM2, hcm⟩ := hv2
    have hM3 : PM G (McL adm) adm τ' H2 := hM2.any (fun q h => h)
    have ho3 := ho2.kept (hk2.2 _ ho2.lt (fun h => h.elim hF.2.1 (fun h => absurd ho2.lt (Nat.not_lt.mpr h))))
    obtain ⟨e27, ex, ad', σ', qs', nT', nW', f', D', ea, hP2, hR2, hI2⟩ := st_money hR hI hq hcm
    obtain rfl : x = x9 := by cases ex; rfl
    have hP3 := hP2.kept (A1 := fun q => q = o) ⟨Nat.le_of_eq z2.symm, fun q _ hne => oq2 q hne⟩ (fun q h _ e => h.2.1 e)
    have hP4 := hP3.kept hk2 (fun q h hlt h2 => h2.elim h.2.2 (fun h3 => absurd hlt (Nat.not_lt.mpr h3)))
    refine lv_istore (lv' := [(6, .int x), (5, .int 0), (4, .int (nI (4 * i))), (0, .ref b), (1, .ref (ad 0 0)), (2, .ref (adm 30)), (3, .ref o)]) hx hb dL_law_1736 hl (by decide) rfl (fun ls hl => ?_)
    refine lv_aload_n hx hb dL_law_1738 rfl (lv_at hl 5 rfl) ?_
    refine hcallV (n := 0) C hE (kM_thrown l G (fun q => H2.size ≤ q) (McL adm) adm τ') wML_L_105 wIM_X6_thrown wSE_X6_X6_thrown wIN_X6 wCO_X6_thrown (by decide) rfl ⟨Nat.le_of_ble_eq_true rfl, Nat.le_of_ble_eq_true rfl⟩ (orec hE hM3.main (show mcl[8]? = some (RX6, TX6, 30) from rfl)) hS (fun q h => Nat.le_trans hS.1 h) (fun q h => h) hM3 rfl hl.1 (Nat.le_of_ble_eq_true rfl) dL_law_1739 ⟨by show cc9 + 1 + 0 + 0 ≤ 601024; omega, by show ss9 + 6 + 0 + 0 ≤ 7293034; omega⟩ (fun E ce q9 H1 locs1 hx9 _ _ _ _ _ => hx9.elim) (fun v H3 locs3 hv3 hk3 hS => ?_)
    obtain rfl : v = some (.int 0) := by rw [hv3, e27]
    have hP5 := hP4.old hk3
    have hM5 := hM3.old hk3
    have ho5 := ho3.kept (hk3.2 _ ho3.lt (Nat.not_le.mpr ho3.lt))
    refine lv_iload hx hb dL_law_1742 (lv_at hl 1 rfl) ?_
    refine lv_icmp_eq (tgt := 1749) hx hb dL_law_1744 (by decide) (fun c_1744_1 => ?_) (fun c_1744_1 => ?_)
    · refine lv_iload hx hb dL_law_1749 (lv_at hl 1 rfl) ?_
      refine lv_if_ne (tgt := 1766) hx hb dL_law_1751 (by decide) (fun c_1751_2 => ?_) (fun c_1751_2 => ?_)
      · exact absurd c_1751_2 (by decide)
      · refine lv_aload_n hx hb dL_law_1754 rfl (lv_at hl 6 rfl) ?_
        refine lv_iconst (v := 0) hx hb dL_law_1755 (by decide) ?_
        refine xlald hx hb hE.1.1 ho5 dL_law_1756 ?_
        refine lv_iload hx hb dL_law_1757 (lv_at hl 0 rfl) ?_
        refine lv_i2l hx hb dL_law_1759 rfl ?_
        refine W.lcmp hx hb dL_law_1760 ?_
        rw [lcmp0]
        refine lv_if_eq (tgt := 1766) hx hb dL_law_1761 (by decide) (fun c_1761_3 => ?_) (fun c_1761_3 => ?_)
        · refine lv_goto (tgt := 1851) hx hb dL_law_1766 (by decide) ?_
          exact kk H3 locs3 ls _ _ (show cc9 + 1 + 0 + 0 ≤ cc9 + 10 by omega) (show ss9 + 6 + 0 + 0 ≤ ss9 + 300 by omega) hS ⟨ad', σ', τ', qs', nT', nW', f', D', _, ea, hP5, hM5, ho5, hR2, hI2⟩ (lv_sub hl [2, 3, 4, 5, 6] rfl)
        · exact absurd c_1761_3 (by decide)
    · exact absurd c_1744_1 (by decide)
  · obtain ⟨eE, rfl⟩ := hcode
    refine lv_istore (lv' := [(5, .int 1), (4, .int (nI (4 * i))), (0, .ref b), (1, .ref (ad 0 0)), (2, .ref (adm 30)), (3, .ref o)]) hx hb dL_law_1724 hl (by decide) rfl (fun ls hl => ?_)
    refine lv_aload_n hx hb dL_law_1726 rfl (lv_at hl 4 rfl) ?_
    refine lv_aload_n hx hb dL_law_1727 rfl (lv_at hl 2 rfl) ?_
    refine lv_iload hx hb dL_law_1728 (lv_at hl 1 rfl) ?_
    refine lv_iconst (v := 1) hx hb dL_law_1730 (by decide) ?_
    refine lv_iadd hx hb dL_law_1731 ?_
    rw [i4_1]
    refine va_sld hx hb hX hbl (Nat.not_le.mpr hbl) hS (vp_in_nI (show 4 * i + 1 < L by omega) (by omega)) dL_law_1732 ?_
    rw [nI_clamp (show 4 * i + 1 < 2 ^ 31 by omega)]
    refine hcallV (n := 1) C hE (kR_money l G (fun q => McL adm q ∨ H1.size ≤ q) adm τ (xs (4 * i + 1))) wML_L_188 wIM_X6_money wSE_X6_X6_money wIN_X6 wCO_X6_money (by decide) rfl ⟨Nat.le_of_ble_eq_true rfl, Nat.le_of_ble_eq_true rfl⟩ (orec hE hM1.main (show mcl[8]? = some (RX6, TX6, 30) from rfl)) hS (fun q h => h.elim (fun h => hF.2.2 q h) (fun h => Nat.le_trans hS.1 h)) (fun q h => Or.inr h) (hM1.any (fun q h => Or.inl h)) rfl hl.1 (Nat.le_of_ble_eq_true rfl) dL_law_1733 ⟨by show cc9 + 1 + 0 ≤ 601024; omega, by show ss9 + 6 + 0 ≤ 7293034; omega⟩ (fun E ce q9 H1 locs1 hx9 _ _ _ _ _ => hx9.elim) (fun v H2 locs2 hv2 hk2 hS => ?_)
    obtain ⟨x9, τ', rfl, hM2, hcm⟩ := hv2
    have hM3 : PM G (McL adm) adm τ' H2 := hM2.any (fun q h => h)
    have ho3 := ho2.kept (hk2.2 _ ho2.lt (fun h => h.elim hF.2.1 (fun h => absurd ho2.lt (Nat.not_lt.mpr h))))
    have hex : EXT G (AxL s.heap.size o adm) ad H1 N 1 τ' := (sx_money hR hI hx9 hcm).2
    obtain ⟨e27, ad', σ', qs', nT', nW', f', D', ea, hP3, hR2, hI2⟩ := hex
    have hP4 := hP3.kept hk2 (fun q h hlt h2 => h2.elim h.2.2 (fun h3 => absurd hlt (Nat.not_lt.mpr h3)))
    refine lv_istore (lv' := [(6, .int x9), (5, .int 1), (4, .int (nI (4 * i))), (0, .ref b), (1, .ref (ad 0 0)), (2, .ref (adm 30)), (3, .ref o)]) hx hb dL_law_1736 hl (by decide) rfl (fun ls hl => ?_)
    refine lv_aload_n hx hb dL_law_1738 rfl (lv_at hl 5 rfl) ?_
    refine hcallV (n := 0) C hE (kM_thrown l G (fun q => H2.size ≤ q) (McL adm) adm τ') wML_L_105 wIM_X6_thrown wSE_X6_X6_thrown wIN_X6 wCO_X6_thrown (by decide) rfl ⟨Nat.le_of_ble_eq_true rfl, Nat.le_of_ble_eq_true rfl⟩ (orec hE hM3.main (show mcl[8]? = some (RX6, TX6, 30) from rfl)) hS (fun q h => Nat.le_trans hS.1 h) (fun q h => h) hM3 rfl hl.1 (Nat.le_of_ble_eq_true rfl) dL_law_1739 ⟨by show cc9 + 1 + 0 + 0 ≤ 601024; omega, by show ss9 + 6 + 0 + 0 ≤ 7293034; omega⟩ (fun E ce q9 H1 locs1 hx9 _ _ _ _ _ => hx9.elim) (fun v H3 locs3 hv3 hk3 hS => ?_)
    obtain rfl : v = some (.int 1) := by rw [hv3, e27]
    have hP5 := hP4.old hk3
    have hM5 := hM3.old hk3
    have ho5 := ho3.kept (hk3.2 _ ho3.lt (Nat.not_le.mpr ho3.lt))
    refine lv_iload hx hb dL_law_1742 (lv_at hl 1 rfl) ?_
    refine lv_icmp_eq (tgt := 1749) hx hb dL_law_1744 (by decide) (fun c_1744_4 => ?_) (fun c_1744_4 => ?_)
    · refine lv_iload hx hb dL_law_1749 (lv_at hl 1 rfl) ?_
      refine lv_if_ne (tgt := 1766) hx hb dL_law_1751 (by decide) (fun c_1751_5 => ?_) (fun c_1751_5 => ?_)
      · refine lv_goto (tgt := 1851) hx hb dL_law_1766 (by decide) ?_
        exact kk H3 locs3 ls _ _ (show cc9 + 1 + 0 + 0 ≤ cc9 + 10 by omega) (show ss9 + 6 + 0 + 0 ≤ ss9 + 300 by omega) hS ⟨ad', σ', τ', qs', nT', nW', f', D', _, ea, hP5, hM5, ho5, hR2, hI2⟩ (lv_sub hl [2, 3, 4, 5, 6] rfl)
      · exact absurd c_1751_5 (by decide)
    · exact absurd c_1744_4 (by decide)
set_option maxHeartbeats 4000000 in
set_option maxRecDepth 100000 in
theorem LC_moneyBySeen (l : Launch) (hl9 : l.stackTraces = false) {p : Program} {e : Env} {s : State} {m : MethodId} {below : List Frame} {meth : Method} {c : Code} {b L : Nat} {xs : Nat → Int32} {G : GE} {o a0 : Nat} {adm : Nat → Nat} (C : CallFix p m c cL_law 7 s #[Value.ref b] gTb RL) (hE : EN (fun q => s.heap.size ≤ q) G s s.heap) (hN : NCX s) (hX : va_X b L xs s s.heap) (hbl : b < s.heap.size) (hF : LFX s.heap.size o adm) (hL : L ≤ 2048) {i N cc9 ss9 : Nat} {Qw : State → Prop} {H : Heap} {locs : List Loc} {ls : Array Slot} (hi : 4 * i + 4 ≤ L) (hcc : cc9 ≤ 100 + 10 * i) (hss : ss9 ≤ 2000 + 300 * i) (hN2 : N < 1000) (hS : va_S (fun q => s.heap.size ≤ q) s.heap H locs) (hV : LINV G s.heap.size o a0 adm N H) (hl : lv_has ls 7 [(4, .int (nI (4 * i))), (0, .ref b), (1, .ref a0), (2, .ref (adm 30)), (3, .ref o)])
    (kk : ∀ (H1 : Heap) (locs1 : List Loc) (ls1 : Array Slot) (cc1 ss1 : Nat), cc1 ≤ cc9 + 10 → ss1 ≤ ss9 + 300 → va_S (fun q => s.heap.size ≤ q) s.heap H1 locs1 → LINV G s.heap.size o a0 adm (N + 1) H1 → lv_has ls1 7 [(4, .int (nI (4 * i))), (0, .ref b), (1, .ref a0), (2, .ref (adm 30)), (3, .ref o)] → W p l e room_1 s m #[Value.ref b] below meth c H1 locs1 cc1 ss1 Qw (F0 m 1851 ls1 [])) : W p l e room_1 s m #[Value.ref b] below meth c H locs cc9 ss9 Qw (F0 m 1769 ls []) := by
  have hx := C.1
  have hb := C.2.1
  have hown := C.2.2.2.1
  have hts := C.2.2.2.2
  obtain ⟨ad, σ, τ, qs, nT, nW, f, D, y0, rfl, hP, hM, ho9, hR, hI⟩ := hV
  have h80 := hR.n80
  refine lv_aload_n hx hb dL_law_1769 rfl (lv_at hl 2 rfl) ?_
  refine lv_aload_n hx hb dL_law_1770 rfl (lv_at hl 1 rfl) ?_
  refine lv_iload hx hb dL_law_1771 (lv_at hl 0 rfl) ?_
  refine lv_iconst (v := 1) hx hb dL_law_1773 (by decide) ?_
  refine lv_iadd hx hb dL_law_1774 ?_
  rw [i4_1]
  refine va_sld hx hb hX hbl (Nat.not_le.mpr hbl) hS (vp_in_nI (show 4 * i + 1 < L by omega) (by omega)) dL_law_1775 ?_
  rw [nI_clamp (show 4 * i + 1 < 2 ^ 31 by omega)]
  refine lv_aload_n hx hb dL_law_1776 rfl (lv_at hl 4 rfl) ?_
  refine hcallH (n := 3) C hE hN (hL_moneyBySeen l G (AxL s.heap.size o adm) (fun q => AxL s.heap.size o adm q ∨ q = o) o (fun q h => Or.inl h) (Or.inr rfl) (fun h => h.2.1 rfl) ad σ qs nT nW hl9 (xs (4 * i + 1)) f hR.1.1 h80.2.2 h80.1) wML_L_189 wST_L_moneyBySeen wIN_L wCW_L_moneyBySeen (by decide) rfl ⟨Nat.le_of_ble_eq_true rfl, Nat.le_of_ble_eq_true rfl⟩ hS (fun q h => h.elim (fun h => h.1) (fun h => h ▸ hF.1)) (fun q h => Or.inl (AxL.new hM ho9 hS.1 q h)) ⟨hP, ⟨_, ho9⟩, fun q h => AxL.new hM ho9 hS.1 q h⟩ rfl hl.1 (Nat.le_of_ble_eq_true rfl) dL_law_1777 ⟨by show cc9 + 2 ≤ 601024; omega, by show ss9 + 12 ≤ 7293034; omega⟩ (fun v H1 locs1 hv hk hS => ?_)
  have hM1 : PM G (McL adm) adm τ H1 := hM.keptL hk (fun q hq h => h.elim (fun h => h.2.2 hq) (fun h => hF.2.1 (h ▸ hq)))
  rcases hv with ⟨x, H0, rfl, hq, ho2, z2, oq2⟩ | ⟨E, hx9, hcode, y2, ho2⟩
  · skip
    refine lv_istore (lv' := [(5, .int 0), (4, .int (nI (4 * i))), (0, .ref b), (1, .ref (ad 0 0)), (2, .ref (adm 30)), (3, .ref o)]) hx hb dL_law_1780 hl (by decide) rfl (fun ls hl => ?_)
    refine lv_aload_n hx hb dL_law_1782 rfl (lv_at hl 4 rfl) ?_
    refine lv_aload_n hx hb dL_law_1783 rfl (lv_at hl 2 rfl) ?_
    refine lv_iload hx hb dL_law_1784 (lv_at hl 1 rfl) ?_
    refine lv_iconst (v := 1) hx hb dL_law_1786 (by decide) ?_
    refine lv_iadd hx hb dL_law_1787 ?_
    rw [i4_1]
    refine va_sld hx hb hX hbl (Nat.not_le.mpr hbl) hS (vp_in_nI (show 4 * i + 1 < L by omega) (by omega)) dL_law_1788 ?_
    rw [nI_clamp (show 4 * i + 1 < 2 ^ 31 by omega)]
    refine hcallV (n := 1) C hE (kR_moneyBySeen l G (fun q => McL adm q ∨ H1.size ≤ q) adm τ (xs (4 * i + 1))) wML_L_191 wIM_X6_moneyBySeen wSE_X6_X6_moneyBySeen wIN_X6 wCO_X6_moneyBySeen (by decide) rfl ⟨Nat.le_of_ble_eq_true rfl, Nat.le_of_ble_eq_true rfl⟩ (orec hE hM1.main (show mcl[8]? = some (RX6, TX6, 30) from rfl)) hS (fun q h => h.elim (fun h => hF.2.2 q h) (fun h => Nat.le_trans hS.1 h)) (fun q h => Or.inr h) (hM1.any (fun q h => Or.inl h)) rfl hl.1 (Nat.le_of_ble_eq_true rfl) dL_law_1789 ⟨by show cc9 + 2 + 0 ≤ 601024; omega, by show ss9 + 12 + 0 ≤ 7293034; omega⟩ (fun E ce q9 H1 locs1 hx9 _ _ _ _ _ => hx9.elim) (fun v H2 locs2 hv2 hk2 hS => ?_)
    obtain ⟨x9, τ', rfl, hM2, hcm⟩ := hv2
    have hM3 : PM G (McL adm) adm τ' H2 := hM2.any (fun q h => h)
    have ho3 := ho2.kept (hk2.2 _ ho2.lt (fun h => h.elim hF.2.1 (fun h => absurd ho2.lt (Nat.not_lt.mpr h))))
    obtain ⟨e27, ex, ad', σ', qs', nT', nW', f', D', ea, hP2, hR2, hI2⟩ := st_moneyBySeen hR hI hq hcm
    obtain rfl : x = x9 := by cases ex; rfl
    have hP3 := hP2.kept (A1 := fun q => q = o) ⟨Nat.le_of_eq z2.symm, fun q _ hne => oq2 q hne⟩ (fun q h _ e => h.2.1 e)
    have hP4 := hP3.kept hk2 (fun q h hlt h2 => h2.elim h.2.2 (fun h3 => absurd hlt (Nat.not_lt.mpr h3)))
    refine lv_istore (lv' := [(6, .int x), (5, .int 0), (4, .int (nI (4 * i))), (0, .ref b), (1, .ref (ad 0 0)), (2, .ref (adm 30)), (3, .ref o)]) hx hb dL_law_1792 hl (by decide) rfl (fun ls hl => ?_)
    refine lv_aload_n hx hb dL_law_1794 rfl (lv_at hl 5 rfl) ?_
    refine hcallV (n := 0) C hE (kM_thrown l G (fun q => H2.size ≤ q) (McL adm) adm τ') wML_L_105 wIM_X6_thrown wSE_X6_X6_thrown wIN_X6 wCO_X6_thrown (by decide) rfl ⟨Nat.le_of_ble_eq_true rfl, Nat.le_of_ble_eq_true rfl⟩ (orec hE hM3.main (show mcl[8]? = some (RX6, TX6, 30) from rfl)) hS (fun q h => Nat.le_trans hS.1 h) (fun q h => h) hM3 rfl hl.1 (Nat.le_of_ble_eq_true rfl) dL_law_1795 ⟨by show cc9 + 2 + 0 + 0 ≤ 601024; omega, by show ss9 + 12 + 0 + 0 ≤ 7293034; omega⟩ (fun E ce q9 H1 locs1 hx9 _ _ _ _ _ => hx9.elim) (fun v H3 locs3 hv3 hk3 hS => ?_)
    obtain rfl : v = some (.int 0) := by rw [hv3, e27]
    have hP5 := hP4.old hk3
    have hM5 := hM3.old hk3
    have ho5 := ho3.kept (hk3.2 _ ho3.lt (Nat.not_le.mpr ho3.lt))
    refine lv_iload hx hb dL_law_1798 (lv_at hl 1 rfl) ?_
    refine lv_icmp_eq (tgt := 1805) hx hb dL_law_1800 (by decide) (fun c_1800_1 => ?_) (fun c_1800_1 => ?_)
    · refine lv_iload hx hb dL_law_1805 (lv_at hl 1 rfl) ?_
      refine lv_if_ne (tgt := 1822) hx hb dL_law_1807 (by decide) (fun c_1807_2 => ?_) (fun c_1807_2 => ?_)
      · exact absurd c_1807_2 (by decide)
      · refine lv_aload_n hx hb dL_law_1810 rfl (lv_at hl 6 rfl) ?_
        refine lv_iconst (v := 0) hx hb dL_law_1811 (by decide) ?_
        refine xlald hx hb hE.1.1 ho5 dL_law_1812 ?_
        refine lv_iload hx hb dL_law_1813 (lv_at hl 0 rfl) ?_
        refine lv_i2l hx hb dL_law_1815 rfl ?_
        refine W.lcmp hx hb dL_law_1816 ?_
        rw [lcmp0]
        refine lv_if_eq (tgt := 1822) hx hb dL_law_1817 (by decide) (fun c_1817_3 => ?_) (fun c_1817_3 => ?_)
        · refine lv_goto (tgt := 1851) hx hb dL_law_1822 (by decide) ?_
          exact kk H3 locs3 ls _ _ (show cc9 + 2 + 0 + 0 ≤ cc9 + 10 by omega) (show ss9 + 12 + 0 + 0 ≤ ss9 + 300 by omega) hS ⟨ad', σ', τ', qs', nT', nW', f', D', _, ea, hP5, hM5, ho5, hR2, hI2⟩ (lv_sub hl [2, 3, 4, 5, 6] rfl)
        · exact absurd c_1817_3 (by decide)
    · exact absurd c_1800_1 (by decide)
  · obtain ⟨eE, rfl⟩ := hcode
    refine lv_istore (lv' := [(5, .int 1), (4, .int (nI (4 * i))), (0, .ref b), (1, .ref (ad 0 0)), (2, .ref (adm 30)), (3, .ref o)]) hx hb dL_law_1780 hl (by decide) rfl (fun ls hl => ?_)
    refine lv_aload_n hx hb dL_law_1782 rfl (lv_at hl 4 rfl) ?_
    refine lv_aload_n hx hb dL_law_1783 rfl (lv_at hl 2 rfl) ?_
    refine lv_iload hx hb dL_law_1784 (lv_at hl 1 rfl) ?_
    refine lv_iconst (v := 1) hx hb dL_law_1786 (by decide) ?_
    refine lv_iadd hx hb dL_law_1787 ?_
    rw [i4_1]
    refine va_sld hx hb hX hbl (Nat.not_le.mpr hbl) hS (vp_in_nI (show 4 * i + 1 < L by omega) (by omega)) dL_law_1788 ?_
    rw [nI_clamp (show 4 * i + 1 < 2 ^ 31 by omega)]
    refine hcallV (n := 1) C hE (kR_moneyBySeen l G (fun q => McL adm q ∨ H1.size ≤ q) adm τ (xs (4 * i + 1))) wML_L_191 wIM_X6_moneyBySeen wSE_X6_X6_moneyBySeen wIN_X6 wCO_X6_moneyBySeen (by decide) rfl ⟨Nat.le_of_ble_eq_true rfl, Nat.le_of_ble_eq_true rfl⟩ (orec hE hM1.main (show mcl[8]? = some (RX6, TX6, 30) from rfl)) hS (fun q h => h.elim (fun h => hF.2.2 q h) (fun h => Nat.le_trans hS.1 h)) (fun q h => Or.inr h) (hM1.any (fun q h => Or.inl h)) rfl hl.1 (Nat.le_of_ble_eq_true rfl) dL_law_1789 ⟨by show cc9 + 2 + 0 ≤ 601024; omega, by show ss9 + 12 + 0 ≤ 7293034; omega⟩ (fun E ce q9 H1 locs1 hx9 _ _ _ _ _ => hx9.elim) (fun v H2 locs2 hv2 hk2 hS => ?_)
    obtain ⟨x9, τ', rfl, hM2, hcm⟩ := hv2
    have hM3 : PM G (McL adm) adm τ' H2 := hM2.any (fun q h => h)
    have ho3 := ho2.kept (hk2.2 _ ho2.lt (fun h => h.elim hF.2.1 (fun h => absurd ho2.lt (Nat.not_lt.mpr h))))
    have hex : EXT G (AxL s.heap.size o adm) ad H1 N 1 τ' := (sx_moneyBySeen hR hI hx9 hcm).2
    obtain ⟨e27, ad', σ', qs', nT', nW', f', D', ea, hP3, hR2, hI2⟩ := hex
    have hP4 := hP3.kept hk2 (fun q h hlt h2 => h2.elim h.2.2 (fun h3 => absurd hlt (Nat.not_lt.mpr h3)))
    refine lv_istore (lv' := [(6, .int x9), (5, .int 1), (4, .int (nI (4 * i))), (0, .ref b), (1, .ref (ad 0 0)), (2, .ref (adm 30)), (3, .ref o)]) hx hb dL_law_1792 hl (by decide) rfl (fun ls hl => ?_)
    refine lv_aload_n hx hb dL_law_1794 rfl (lv_at hl 5 rfl) ?_
    refine hcallV (n := 0) C hE (kM_thrown l G (fun q => H2.size ≤ q) (McL adm) adm τ') wML_L_105 wIM_X6_thrown wSE_X6_X6_thrown wIN_X6 wCO_X6_thrown (by decide) rfl ⟨Nat.le_of_ble_eq_true rfl, Nat.le_of_ble_eq_true rfl⟩ (orec hE hM3.main (show mcl[8]? = some (RX6, TX6, 30) from rfl)) hS (fun q h => Nat.le_trans hS.1 h) (fun q h => h) hM3 rfl hl.1 (Nat.le_of_ble_eq_true rfl) dL_law_1795 ⟨by show cc9 + 2 + 0 + 0 ≤ 601024; omega, by show ss9 + 12 + 0 + 0 ≤ 7293034; omega⟩ (fun E ce q9 H1 locs1 hx9 _ _ _ _ _ => hx9.elim) (fun v H3 locs3 hv3 hk3 hS => ?_)
    obtain rfl : v = some (.int 1) := by rw [hv3, e27]
    have hP5 := hP4.old hk3
    have hM5 := hM3.old hk3
    have ho5 := ho3.kept (hk3.2 _ ho3.lt (Nat.not_le.mpr ho3.lt))
    refine lv_iload hx hb dL_law_1798 (lv_at hl 1 rfl) ?_
    refine lv_icmp_eq (tgt := 1805) hx hb dL_law_1800 (by decide) (fun c_1800_4 => ?_) (fun c_1800_4 => ?_)
    · refine lv_iload hx hb dL_law_1805 (lv_at hl 1 rfl) ?_
      refine lv_if_ne (tgt := 1822) hx hb dL_law_1807 (by decide) (fun c_1807_5 => ?_) (fun c_1807_5 => ?_)
      · refine lv_goto (tgt := 1851) hx hb dL_law_1822 (by decide) ?_
        exact kk H3 locs3 ls _ _ (show cc9 + 2 + 0 + 0 ≤ cc9 + 10 by omega) (show ss9 + 12 + 0 + 0 ≤ ss9 + 300 by omega) hS ⟨ad', σ', τ', qs', nT', nW', f', D', _, ea, hP5, hM5, ho5, hR2, hI2⟩ (lv_sub hl [2, 3, 4, 5, 6] rfl)
      · exact absurd c_1807_5 (by decide)
    · exact absurd c_1800_4 (by decide)
set_option maxHeartbeats 4000000 in
set_option maxRecDepth 100000 in
theorem LC_held (l : Launch) (hl9 : l.stackTraces = false) {p : Program} {e : Env} {s : State} {m : MethodId} {below : List Frame} {meth : Method} {c : Code} {b L : Nat} {xs : Nat → Int32} {G : GE} {o a0 : Nat} {adm : Nat → Nat} (C : CallFix p m c cL_law 7 s #[Value.ref b] gTb RL) (hE : EN (fun q => s.heap.size ≤ q) G s s.heap) (hN : NCX s) (hX : va_X b L xs s s.heap) (hbl : b < s.heap.size) (hF : LFX s.heap.size o adm) (hL : L ≤ 2048) {i N cc9 ss9 : Nat} {Qw : State → Prop} {H : Heap} {locs : List Loc} {ls : Array Slot} (hi : 4 * i + 4 ≤ L) (hcc : cc9 ≤ 100 + 10 * i) (hss : ss9 ≤ 2000 + 300 * i) (hN2 : N < 1000) (hS : va_S (fun q => s.heap.size ≤ q) s.heap H locs) (hV : LINV G s.heap.size o a0 adm N H) (hl : lv_has ls 7 [(4, .int (nI (4 * i))), (0, .ref b), (1, .ref a0), (2, .ref (adm 30)), (3, .ref o)])
    (kk : ∀ (H1 : Heap) (locs1 : List Loc) (ls1 : Array Slot) (cc1 ss1 : Nat), cc1 ≤ cc9 + 10 → ss1 ≤ ss9 + 300 → va_S (fun q => s.heap.size ≤ q) s.heap H1 locs1 → LINV G s.heap.size o a0 adm (N + 1) H1 → lv_has ls1 7 [(4, .int (nI (4 * i))), (0, .ref b), (1, .ref a0), (2, .ref (adm 30)), (3, .ref o)] → W p l e room_1 s m #[Value.ref b] below meth c H1 locs1 cc1 ss1 Qw (F0 m 1851 ls1 [])) : W p l e room_1 s m #[Value.ref b] below meth c H locs cc9 ss9 Qw (F0 m 1825 ls []) := by
  have hx := C.1
  have hb := C.2.1
  have hown := C.2.2.2.1
  have hts := C.2.2.2.2
  obtain ⟨ad, σ, τ, qs, nT, nW, f, D, y0, rfl, hP, hM, ho9, hR, hI⟩ := hV
  have h80 := hR.n80
  refine lv_aload_n hx hb dL_law_1825 rfl (lv_at hl 2 rfl) ?_
  refine hcallV (n := 0) C hE (kP_held l G (fun q => H.size ≤ q) (AxL s.heap.size o adm) ad σ qs nT nW hl9 f hR.1.1 h80.2.2 h80.1) wML_L_192 wIM_X5_held wSE_X5_X5_held wIN_X5 wCO_X5_held (by decide) rfl ⟨Nat.le_of_ble_eq_true rfl, Nat.le_of_ble_eq_true rfl⟩ (orec hE (hP.main rfl) (show mcl[7]? = some (RX5, TX5, 8) from rfl)) hS (fun q h => Nat.le_trans hS.1 h) (fun q h => h) hP rfl hl.1 (Nat.le_of_ble_eq_true rfl) dL_law_1826 ⟨by show cc9 + 0 ≤ 601024; omega, by show ss9 + 0 ≤ 7293034; omega⟩ (fun E ce q9 H1 locs1 hx9 _ _ _ _ _ => hx9.elim) (fun v H1 locs1 hv hk hS => ?_)
  subst hv
  have hP := hP.old hk
  have hM1 := hM.old hk
  have ho2 := ho9.kept (hk.2 _ ho9.lt (Nat.not_le.mpr ho9.lt))
  refine lv_aload_n hx hb dL_law_1829 rfl (lv_at hl 3 rfl) ?_
  refine hcallV (n := 0) C hE (kR_held l G (fun q => McL adm q ∨ H1.size ≤ q) adm τ nT hR.1.2.2.2.1 h80.1) wML_L_195 wIM_X6_held wSE_X6_X6_held wIN_X6 wCO_X6_held (by decide) rfl ⟨Nat.le_of_ble_eq_true rfl, Nat.le_of_ble_eq_true rfl⟩ (orec hE hM1.main (show mcl[8]? = some (RX6, TX6, 30) from rfl)) hS (fun q h => h.elim (fun h => hF.2.2 q h) (fun h => Nat.le_trans hS.1 h)) (fun q h => Or.inr h) (hM1.any (fun q h => Or.inl h)) rfl hl.1 (Nat.le_of_ble_eq_true rfl) dL_law_1830 ⟨by show cc9 + 0 + 0 ≤ 601024; omega, by show ss9 + 0 + 0 ≤ 7293034; omega⟩ (fun E ce q9 H1 locs1 hx9 _ _ _ _ _ => hx9.elim) (fun v H2 locs2 hv2 hk2 hS => ?_)
  obtain ⟨x9, τ', rfl, hM2, hcm⟩ := hv2
  have hM3 : PM G (McL adm) adm τ' H2 := hM2.any (fun q h => h)
  have ho3 := ho2.kept (hk2.2 _ ho2.lt (fun h => h.elim hF.2.1 (fun h => absurd ho2.lt (Nat.not_lt.mpr h))))
  obtain ⟨ev, rfl⟩ := hcm
  have hP4 := hP.kept hk2 (fun q h hlt h2 => h2.elim h.2.2 (fun h3 => absurd hlt (Nat.not_lt.mpr h3)))
  refine lv_icmp_eq (tgt := 1851) hx hb dL_law_1833 (by decide) (fun c_1833_1 => ?_) (fun c_1833_1 => ?_)
  · exact kk H2 locs2 ls _ _ (show cc9 + 0 + 0 ≤ cc9 + 10 by omega) (show ss9 + 0 + 0 ≤ ss9 + 300 by omega) hS ⟨ad, σ, _, qs, nT, nW, f, D, _, rfl, hP4, hM3, ho3, hR.th.more, hI.th⟩ (lv_sub hl [0, 1, 2, 3, 4] rfl)
  · exact absurd (by rw [ev]; exact held_eq hR.th) c_1833_1
set_option maxHeartbeats 4000000 in
set_option maxRecDepth 100000 in
theorem LC_takings (l : Launch) (hl9 : l.stackTraces = false) {p : Program} {e : Env} {s : State} {m : MethodId} {below : List Frame} {meth : Method} {c : Code} {b L : Nat} {xs : Nat → Int32} {G : GE} {o a0 : Nat} {adm : Nat → Nat} (C : CallFix p m c cL_law 7 s #[Value.ref b] gTb RL) (hE : EN (fun q => s.heap.size ≤ q) G s s.heap) (hN : NCX s) (hX : va_X b L xs s s.heap) (hbl : b < s.heap.size) (hF : LFX s.heap.size o adm) (hL : L ≤ 2048) {i N cc9 ss9 : Nat} {Qw : State → Prop} {H : Heap} {locs : List Loc} {ls : Array Slot} (hi : 4 * i + 4 ≤ L) (hcc : cc9 ≤ 100 + 10 * i) (hss : ss9 ≤ 2000 + 300 * i) (hN2 : N < 1000) (hS : va_S (fun q => s.heap.size ≤ q) s.heap H locs) (hV : LINV G s.heap.size o a0 adm N H) (hl : lv_has ls 7 [(4, .int (nI (4 * i))), (0, .ref b), (1, .ref a0), (2, .ref (adm 30)), (3, .ref o)])
    (kk : ∀ (H1 : Heap) (locs1 : List Loc) (ls1 : Array Slot) (cc1 ss1 : Nat), cc1 ≤ cc9 + 10 → ss1 ≤ ss9 + 300 → va_S (fun q => s.heap.size ≤ q) s.heap H1 locs1 → LINV G s.heap.size o a0 adm (N + 1) H1 → lv_has ls1 7 [(4, .int (nI (4 * i))), (0, .ref b), (1, .ref a0), (2, .ref (adm 30)), (3, .ref o)] → W p l e room_1 s m #[Value.ref b] below meth c H1 locs1 cc1 ss1 Qw (F0 m 1851 ls1 [])) : W p l e room_1 s m #[Value.ref b] below meth c H locs cc9 ss9 Qw (F0 m 1838 ls []) := by
  have hx := C.1
  have hb := C.2.1
  have hown := C.2.2.2.1
  have hts := C.2.2.2.2
  obtain ⟨ad, σ, τ, qs, nT, nW, f, D, y0, rfl, hP, hM, ho9, hR, hI⟩ := hV
  have h80 := hR.n80
  refine lv_aload_n hx hb dL_law_1838 rfl (lv_at hl 2 rfl) ?_
  refine hcallV (n := 0) C hE (kP_takings l G (fun q => H.size ≤ q) (AxL s.heap.size o adm) ad σ qs nT nW hl9) wML_L_196 wIM_X5_takings wSE_X5_X5_takings wIN_X5 wCO_X5_takings (by decide) rfl ⟨Nat.le_of_ble_eq_true rfl, Nat.le_of_ble_eq_true rfl⟩ (orec hE (hP.main rfl) (show mcl[7]? = some (RX5, TX5, 8) from rfl)) hS (fun q h => Nat.le_trans hS.1 h) (fun q h => h) hP rfl hl.1 (Nat.le_of_ble_eq_true rfl) dL_law_1839 ⟨by show cc9 + 0 ≤ 601024; omega, by show ss9 + 0 ≤ 7293034; omega⟩ (fun E ce q9 H1 locs1 hx9 _ _ _ _ _ => hx9.elim) (fun v H1 locs1 hv hk hS => ?_)
  subst hv
  have hP := hP.old hk
  have hM1 := hM.old hk
  have ho2 := ho9.kept (hk.2 _ ho9.lt (Nat.not_le.mpr ho9.lt))
  refine lv_aload_n hx hb dL_law_1842 rfl (lv_at hl 3 rfl) ?_
  refine hcallV (n := 0) C hE (kR_takings l G (fun q => McL adm q ∨ H1.size ≤ q) adm τ ) wML_L_199 wIM_X6_takings wSE_X6_X6_takings wIN_X6 wCO_X6_takings (by decide) rfl ⟨Nat.le_of_ble_eq_true rfl, Nat.le_of_ble_eq_true rfl⟩ (orec hE hM1.main (show mcl[8]? = some (RX6, TX6, 30) from rfl)) hS (fun q h => h.elim (fun h => hF.2.2 q h) (fun h => Nat.le_trans hS.1 h)) (fun q h => Or.inr h) (hM1.any (fun q h => Or.inl h)) rfl hl.1 (Nat.le_of_ble_eq_true rfl) dL_law_1843 ⟨by show cc9 + 0 + 0 ≤ 601024; omega, by show ss9 + 0 + 0 ≤ 7293034; omega⟩ (fun E ce q9 H1 locs1 hx9 _ _ _ _ _ => hx9.elim) (fun v H2 locs2 hv2 hk2 hS => ?_)
  obtain ⟨x9, τ', rfl, hM2, hcm⟩ := hv2
  have hM3 : PM G (McL adm) adm τ' H2 := hM2.any (fun q h => h)
  have ho3 := ho2.kept (hk2.2 _ ho2.lt (fun h => h.elim hF.2.1 (fun h => absurd ho2.lt (Nat.not_lt.mpr h))))
  obtain ⟨ev, rfl⟩ := hcm
  have hP4 := hP.kept hk2 (fun q h hlt h2 => h2.elim h.2.2 (fun h3 => absurd hlt (Nat.not_lt.mpr h3)))
  refine lv_icmp_eq (tgt := 1851) hx hb dL_law_1846 (by decide) (fun c_1846_1 => ?_) (fun c_1846_1 => ?_)
  · exact kk H2 locs2 ls _ _ (show cc9 + 0 + 0 ≤ cc9 + 10 by omega) (show ss9 + 0 + 0 ≤ ss9 + 300 by omega) hS ⟨ad, σ, _, qs, nT, nW, f, D, _, rfl, hP4, hM3, ho3, hR.th.more, hI.th⟩ (lv_sub hl [0, 1, 2, 3, 4] rfl)
  · exact absurd (by rw [ev, thr_o (by decide), hR.1.2.2.2.2.2.2.2.2.2]) c_1846_1
