section LHYP
variable {σ τ : SG} {qs : Nat → List Nat} {nT nW f D N : Nat}
theorem L_wf (hR : RR0 σ qs nT nW f τ D N) : WFw σ nW := fun w hw => (hR.2.2.2.2.2.2.2.1 w hw).1
theorem L_wr (hR : RR0 σ qs nT nW f τ D N) : ∀ u, u < nW → ∃ b, b < 12 ∧ σ 19 u = nI b := fun w hw => (hR.2.2.2.2.2.2.2.1 w hw).2.1
theorem L_fe (hR : RR0 σ qs nT nW f τ D N) : ∀ u, u < nW → ∃ fe, fe ≤ 1000 ∧ σ 21 u = nI fe := fun w hw => (hR.2.2.2.2.2.2.2.1 w hw).2.2
theorem L_wfm (hR : RR0 σ qs nT nW f τ D N) : WFm τ nW := fun w hw => by rw [(wk7 hR hw).1]; exact L_wf hR w hw
theorem L_hg (hR : RR0 σ qs nT nW f τ D N) : ∀ u, u < nW → ∃ b, b < 12 ∧ τ 18 u = nI b := fun w hw => by rw [(wk7 hR hw).2.1]; exact L_wr hR w hw
theorem L_fem (hR : RR0 σ qs nT nW f τ D N) : ∀ u, u < nW → ∃ fe, fe ≤ 1000 ∧ τ 20 u = nI fe := fun w hw => by rw [(wk7 hR hw).2.2.2.1]; exact L_fe hR w hw
theorem L_pl (hR : RR0 σ qs nT nW f τ D N) : ∀ t, t < nT → σ 16 t = -1 ∨ ∃ r, r < 12 ∧ σ 16 t = nI r := fun t ht => by
  obtain ⟨hN, hP, hM, hT, hZ, hD, hW, hB, hA, hRR, hV, hO, -⟩ := hR
  rcases (hO t ht).1 with ⟨a1, -, -⟩ | ⟨r, hr, a1, -⟩
  · exact Or.inl a1
  · exact Or.inr ⟨r, hr, a1⟩
theorem L_plm (hR : RR0 σ qs nT nW f τ D N) : ∀ t, t < nT → τ 10 t = -1 ∨ ∃ r, r < 12 ∧ (τ 10 t = nI r ∨ τ 10 t = 100 + nI r) := fun t ht => by
  obtain ⟨hN, hP, hM, hT, hZ, hD, hW, hB, hA, hRR, hV, hO, -⟩ := hR
  rcases (hO t ht).1 with ⟨-, -, a1⟩ | ⟨r, hr, -, ⟨-, a1⟩ | ⟨-, a1⟩⟩
  · exact Or.inl a1
  · exact Or.inr ⟨r, hr, Or.inl a1⟩
  · exact Or.inr ⟨r, hr, Or.inr a1⟩
theorem L_V100 (hR : RR0 σ qs nT nW f τ D N) : ∀ r, r < 12 → ∃ v, v ≤ 100 ∧ σ 7 r = nI v := fun r hr => ⟨_, by have := in_le (τ := τ) (r := r) (nT := nT); have := hR.n80; omega, hR.k.2.2.2.2.2.2.2.2.1 r hr⟩
theorem L_free (hR : RR0 σ qs nT nW f τ D N) : ∀ r, r < 12 → ∃ c v, freeN σ r c v := fun r hr => by
  obtain ⟨-, -, c, hc, e⟩ := hR.2.2.2.2.2.2.2.2.2.1 r hr
  obtain ⟨v, hv, e2⟩ := L_V100 hR r hr
  exact ⟨c, v, e, e2, by omega, by omega⟩
theorem L_len (hR : RR0 σ qs nT nW f τ D N) {n : Nat} (hn : 80 ≤ n) : ∀ r, r < 12 → (qs r).length ≤ n := fun r hr => by
  have := q_len hR.k.2.2.2.2.2.2.2.2.2.2.1 hr
  have := hR.n80
  omega
theorem L_v1 (hR : RR0 σ qs nT nW f τ D N) : ∀ t r, t < nT → r < 12 → σ 16 t = nI r → σ 17 t = 0 → ∀ c v, freeN σ r c v → v ≠ 0 := fun t r ht hr a1 a2 c v h => (pr_outR hR ht hr a1 a2 h.1 h.2.2.1 h.2.1 h.2.2.2).2.1
end LHYP
set_option maxHeartbeats 4000000 in
set_option maxRecDepth 100000 in
theorem LC_setPrice (l : Launch) (hl9 : l.stackTraces = false) {p : Program} {e : Env} {s : State} {m : MethodId} {below : List Frame} {meth : Method} {c : Code} {b L : Nat} {xs : Nat → Int32} {G : GE} {o a0 : Nat} {adm : Nat → Nat} (C : CallFix p m c cL_law 7 s #[Value.ref b] gTb RL) (hE : EN (fun q => s.heap.size ≤ q) G s s.heap) (hN : NCX s) (hX : va_X b L xs s s.heap) (hbl : b < s.heap.size) (hF : LFX s.heap.size o adm) (hL : L ≤ 2048) {i N cc9 ss9 : Nat} {Qw : State → Prop} {H : Heap} {locs : List Loc} {ls : Array Slot} (hi : 4 * i + 4 ≤ L) (hcc : cc9 ≤ 100 + 10 * i) (hss : ss9 ≤ 2000 + 300 * i) (hN2 : N < 1000) (hS : va_S (fun q => s.heap.size ≤ q) s.heap H locs) (hV : LINV G s.heap.size o a0 adm N H) (hl : lv_has ls 7 [(4, .int (nI (4 * i))), (0, .ref b), (1, .ref a0), (2, .ref (adm 30)), (3, .ref o)])
    (kk : ∀ (H1 : Heap) (locs1 : List Loc) (ls1 : Array Slot) (cc1 ss1 : Nat), cc1 ≤ cc9 + 10 → ss1 ≤ ss9 + 300 → va_S (fun q => s.heap.size ≤ q) s.heap H1 locs1 → LINV G s.heap.size o a0 adm (N + 1) H1 → lv_has ls1 7 [(4, .int (nI (4 * i))), (0, .ref b), (1, .ref a0), (2, .ref (adm 30)), (3, .ref o)] → W p l e room_1 s m #[Value.ref b] below meth c H1 locs1 cc1 ss1 Qw (F0 m 1851 ls1 [])) : W p l e room_1 s m #[Value.ref b] below meth c H locs cc9 ss9 Qw (F0 m 168 ls []) := by
  have hx := C.1
  have hb := C.2.1
  have hown := C.2.2.2.1
  have hts := C.2.2.2.2
  obtain ⟨ad, σ, τ, qs, nT, nW, f, D, y0, rfl, hP, hM, ho9, hR, hI⟩ := hV
  have h80 := hR.n80
  refine lv_aload_n hx hb dL_law_168 rfl (lv_at hl 2 rfl) ?_
  refine lv_aload_n hx hb dL_law_169 rfl (lv_at hl 1 rfl) ?_
  refine lv_iload hx hb dL_law_170 (lv_at hl 0 rfl) ?_
  refine lv_iconst (v := 1) hx hb dL_law_172 (by decide) ?_
  refine lv_iadd hx hb dL_law_173 ?_
  rw [i4_1]
  refine va_sld hx hb hX hbl (Nat.not_le.mpr hbl) hS (vp_in_nI (show 4 * i + 1 < L by omega) (by omega)) dL_law_174 ?_
  rw [nI_clamp (show 4 * i + 1 < 2 ^ 31 by omega)]
  refine lv_aload_n hx hb dL_law_175 rfl (lv_at hl 1 rfl) ?_
  refine lv_iload hx hb dL_law_176 (lv_at hl 0 rfl) ?_
  refine lv_iconst (v := 2) hx hb dL_law_178 (by decide) ?_
  refine lv_iadd hx hb dL_law_179 ?_
  rw [i4_2]
  refine va_sld hx hb hX hbl (Nat.not_le.mpr hbl) hS (vp_in_nI (show 4 * i + 2 < L by omega) (by omega)) dL_law_180 ?_
  rw [nI_clamp (show 4 * i + 2 < 2 ^ 31 by omega)]
  refine lv_aload_n hx hb dL_law_181 rfl (lv_at hl 4 rfl) ?_
  refine hcallH (n := 4) C hE hN (hL_setPrice l G (AxL s.heap.size o adm) (fun q => AxL s.heap.size o adm q ∨ q = o) o (fun q h => Or.inl h) (Or.inr rfl) (fun h => h.2.1 rfl) ad σ qs nT nW hl9 (xs (4 * i + 1)) (xs (4 * i + 2))) wML_L_99 wST_L_setPrice wIN_L wCW_L_setPrice (by decide) rfl ⟨Nat.le_of_ble_eq_true rfl, Nat.le_of_ble_eq_true rfl⟩ hS (fun q h => h.elim (fun h => h.1) (fun h => h ▸ hF.1)) (fun q h => Or.inl (AxL.new hM ho9 hS.1 q h)) ⟨hP, ⟨_, ho9⟩, fun q h => AxL.new hM ho9 hS.1 q h⟩ rfl hl.1 (Nat.le_of_ble_eq_true rfl) dL_law_182 ⟨by show cc9 + 2 ≤ 601024; omega, by show ss9 + 12 ≤ 7293034; omega⟩ (fun v H1 locs1 hv hk hS => ?_)
  have hM1 : PM G (McL adm) adm τ H1 := hM.keptL hk (fun q hq h => h.elim (fun h => h.2.2 hq) (fun h => hF.2.1 (h ▸ hq)))
  rcases hv with ⟨x, H0, rfl, hq, ho2, z2, oq2⟩ | ⟨E, hx9, hcode, y2, ho2⟩
  · skip
    refine lv_istore (lv' := [(5, .int 0), (4, .int (nI (4 * i))), (0, .ref b), (1, .ref (ad 0 0)), (2, .ref (adm 30)), (3, .ref o)]) hx hb dL_law_185 hl (by decide) rfl (fun ls hl => ?_)
    refine lv_aload_n hx hb dL_law_187 rfl (lv_at hl 4 rfl) ?_
    refine lv_aload_n hx hb dL_law_188 rfl (lv_at hl 2 rfl) ?_
    refine lv_iload hx hb dL_law_189 (lv_at hl 1 rfl) ?_
    refine lv_iconst (v := 1) hx hb dL_law_191 (by decide) ?_
    refine lv_iadd hx hb dL_law_192 ?_
    rw [i4_1]
    refine va_sld hx hb hX hbl (Nat.not_le.mpr hbl) hS (vp_in_nI (show 4 * i + 1 < L by omega) (by omega)) dL_law_193 ?_
    rw [nI_clamp (show 4 * i + 1 < 2 ^ 31 by omega)]
    refine lv_aload_n hx hb dL_law_194 rfl (lv_at hl 2 rfl) ?_
    refine lv_iload hx hb dL_law_195 (lv_at hl 1 rfl) ?_
    refine lv_iconst (v := 2) hx hb dL_law_197 (by decide) ?_
    refine lv_iadd hx hb dL_law_198 ?_
    rw [i4_2]
    refine va_sld hx hb hX hbl (Nat.not_le.mpr hbl) hS (vp_in_nI (show 4 * i + 2 < L by omega) (by omega)) dL_law_199 ?_
    rw [nI_clamp (show 4 * i + 2 < 2 ^ 31 by omega)]
    refine hcallV (n := 2) C hE (kR_setPrice l G (fun q => McL adm q ∨ H1.size ≤ q) adm τ (xs (4 * i + 1)) (xs (4 * i + 2))) wML_L_104 wIM_X6_setPrice wSE_X6_X6_setPrice wIN_X6 wCO_X6_setPrice (by decide) rfl ⟨Nat.le_of_ble_eq_true rfl, Nat.le_of_ble_eq_true rfl⟩ (orec hE hM1.main (show mcl[8]? = some (RX6, TX6, 30) from rfl)) hS (fun q h => h.elim (fun h => hF.2.2 q h) (fun h => Nat.le_trans hS.1 h)) (fun q h => Or.inr h) (hM1.any (fun q h => Or.inl h)) rfl hl.1 (Nat.le_of_ble_eq_true rfl) dL_law_200 ⟨by show cc9 + 2 + 0 ≤ 601024; omega, by show ss9 + 12 + 0 ≤ 7293034; omega⟩ (fun E ce q9 H1 locs1 hx9 _ _ _ _ _ => hx9.elim) (fun v H2 locs2 hv2 hk2 hS => ?_)
    obtain ⟨x9, τ', rfl, hM2, hcm⟩ := hv2
    have hM3 : PM G (McL adm) adm τ' H2 := hM2.any (fun q h => h)
    have ho3 := ho2.kept (hk2.2 _ ho2.lt (fun h => h.elim hF.2.1 (fun h => absurd ho2.lt (Nat.not_lt.mpr h))))
    obtain ⟨e27, ex, ad', σ', qs', nT', nW', f', D', ea, hP2, hR2, hI2⟩ := st_setPrice hR hI hq hcm
    obtain rfl : x = x9 := by cases ex; rfl
    have hP3 := hP2.kept (A1 := fun q => q = o) ⟨Nat.le_of_eq z2.symm, fun q _ hne => oq2 q hne⟩ (fun q h _ e => h.2.1 e)
    have hP4 := hP3.kept hk2 (fun q h hlt h2 => h2.elim h.2.2 (fun h3 => absurd hlt (Nat.not_lt.mpr h3)))
    refine lv_istore (lv' := [(6, .int x), (5, .int 0), (4, .int (nI (4 * i))), (0, .ref b), (1, .ref (ad 0 0)), (2, .ref (adm 30)), (3, .ref o)]) hx hb dL_law_203 hl (by decide) rfl (fun ls hl => ?_)
    refine lv_aload_n hx hb dL_law_205 rfl (lv_at hl 5 rfl) ?_
    refine hcallV (n := 0) C hE (kM_thrown l G (fun q => H2.size ≤ q) (McL adm) adm τ') wML_L_105 wIM_X6_thrown wSE_X6_X6_thrown wIN_X6 wCO_X6_thrown (by decide) rfl ⟨Nat.le_of_ble_eq_true rfl, Nat.le_of_ble_eq_true rfl⟩ (orec hE hM3.main (show mcl[8]? = some (RX6, TX6, 30) from rfl)) hS (fun q h => Nat.le_trans hS.1 h) (fun q h => h) hM3 rfl hl.1 (Nat.le_of_ble_eq_true rfl) dL_law_206 ⟨by show cc9 + 2 + 0 + 0 ≤ 601024; omega, by show ss9 + 12 + 0 + 0 ≤ 7293034; omega⟩ (fun E ce q9 H1 locs1 hx9 _ _ _ _ _ => hx9.elim) (fun v H3 locs3 hv3 hk3 hS => ?_)
    obtain rfl : v = some (.int 0) := by rw [hv3, e27]
    have hP5 := hP4.old hk3
    have hM5 := hM3.old hk3
    have ho5 := ho3.kept (hk3.2 _ ho3.lt (Nat.not_le.mpr ho3.lt))
    refine lv_iload hx hb dL_law_209 (lv_at hl 1 rfl) ?_
    refine lv_icmp_eq (tgt := 216) hx hb dL_law_211 (by decide) (fun c_211_1 => ?_) (fun c_211_1 => ?_)
    · refine lv_iload hx hb dL_law_216 (lv_at hl 1 rfl) ?_
      refine lv_if_ne (tgt := 233) hx hb dL_law_218 (by decide) (fun c_218_2 => ?_) (fun c_218_2 => ?_)
      · exact absurd c_218_2 (by decide)
      · refine lv_aload_n hx hb dL_law_221 rfl (lv_at hl 6 rfl) ?_
        refine lv_iconst (v := 0) hx hb dL_law_222 (by decide) ?_
        refine xlald hx hb hE.1.1 ho5 dL_law_223 ?_
        refine lv_iload hx hb dL_law_224 (lv_at hl 0 rfl) ?_
        refine lv_i2l hx hb dL_law_226 rfl ?_
        refine W.lcmp hx hb dL_law_227 ?_
        rw [lcmp0]
        refine lv_if_eq (tgt := 233) hx hb dL_law_228 (by decide) (fun c_228_3 => ?_) (fun c_228_3 => ?_)
        · refine lv_goto (tgt := 1851) hx hb dL_law_233 (by decide) ?_
          exact kk H3 locs3 ls _ _ (show cc9 + 2 + 0 + 0 ≤ cc9 + 10 by omega) (show ss9 + 12 + 0 + 0 ≤ ss9 + 300 by omega) hS ⟨ad', σ', τ', qs', nT', nW', f', D', _, ea, hP5, hM5, ho5, hR2, hI2⟩ (lv_sub hl [2, 3, 4, 5, 6] rfl)
        · exact absurd c_228_3 (by decide)
    · exact absurd c_211_1 (by decide)
  · rcases hcode with ⟨eE, rfl⟩ | ⟨eE, rfl⟩
    · skip
      refine lv_istore (lv' := [(5, .int 1), (4, .int (nI (4 * i))), (0, .ref b), (1, .ref (ad 0 0)), (2, .ref (adm 30)), (3, .ref o)]) hx hb dL_law_185 hl (by decide) rfl (fun ls hl => ?_)
      refine lv_aload_n hx hb dL_law_187 rfl (lv_at hl 4 rfl) ?_
      refine lv_aload_n hx hb dL_law_188 rfl (lv_at hl 2 rfl) ?_
      refine lv_iload hx hb dL_law_189 (lv_at hl 1 rfl) ?_
      refine lv_iconst (v := 1) hx hb dL_law_191 (by decide) ?_
      refine lv_iadd hx hb dL_law_192 ?_
      rw [i4_1]
      refine va_sld hx hb hX hbl (Nat.not_le.mpr hbl) hS (vp_in_nI (show 4 * i + 1 < L by omega) (by omega)) dL_law_193 ?_
      rw [nI_clamp (show 4 * i + 1 < 2 ^ 31 by omega)]
      refine lv_aload_n hx hb dL_law_194 rfl (lv_at hl 2 rfl) ?_
      refine lv_iload hx hb dL_law_195 (lv_at hl 1 rfl) ?_
      refine lv_iconst (v := 2) hx hb dL_law_197 (by decide) ?_
      refine lv_iadd hx hb dL_law_198 ?_
      rw [i4_2]
      refine va_sld hx hb hX hbl (Nat.not_le.mpr hbl) hS (vp_in_nI (show 4 * i + 2 < L by omega) (by omega)) dL_law_199 ?_
      rw [nI_clamp (show 4 * i + 2 < 2 ^ 31 by omega)]
      refine hcallV (n := 2) C hE (kR_setPrice l G (fun q => McL adm q ∨ H1.size ≤ q) adm τ (xs (4 * i + 1)) (xs (4 * i + 2))) wML_L_104 wIM_X6_setPrice wSE_X6_X6_setPrice wIN_X6 wCO_X6_setPrice (by decide) rfl ⟨Nat.le_of_ble_eq_true rfl, Nat.le_of_ble_eq_true rfl⟩ (orec hE hM1.main (show mcl[8]? = some (RX6, TX6, 30) from rfl)) hS (fun q h => h.elim (fun h => hF.2.2 q h) (fun h => Nat.le_trans hS.1 h)) (fun q h => Or.inr h) (hM1.any (fun q h => Or.inl h)) rfl hl.1 (Nat.le_of_ble_eq_true rfl) dL_law_200 ⟨by show cc9 + 2 + 0 ≤ 601024; omega, by show ss9 + 12 + 0 ≤ 7293034; omega⟩ (fun E ce q9 H1 locs1 hx9 _ _ _ _ _ => hx9.elim) (fun v H2 locs2 hv2 hk2 hS => ?_)
      obtain ⟨x9, τ', rfl, hM2, hcm⟩ := hv2
      have hM3 : PM G (McL adm) adm τ' H2 := hM2.any (fun q h => h)
      have ho3 := ho2.kept (hk2.2 _ ho2.lt (fun h => h.elim hF.2.1 (fun h => absurd ho2.lt (Nat.not_lt.mpr h))))
      have hex : EXT G (AxL s.heap.size o adm) ad H1 N 1 τ' := by
        rcases sx_setPrice hR hI hx9 hcm with ⟨e1, z⟩ | ⟨e1, z⟩
        · exact z
        · exact absurd (eE.symm.trans e1) (by decide)
      obtain ⟨e27, ad', σ', qs', nT', nW', f', D', ea, hP3, hR2, hI2⟩ := hex
      have hP4 := hP3.kept hk2 (fun q h hlt h2 => h2.elim h.2.2 (fun h3 => absurd hlt (Nat.not_lt.mpr h3)))
      refine lv_istore (lv' := [(6, .int x9), (5, .int 1), (4, .int (nI (4 * i))), (0, .ref b), (1, .ref (ad 0 0)), (2, .ref (adm 30)), (3, .ref o)]) hx hb dL_law_203 hl (by decide) rfl (fun ls hl => ?_)
      refine lv_aload_n hx hb dL_law_205 rfl (lv_at hl 5 rfl) ?_
      refine hcallV (n := 0) C hE (kM_thrown l G (fun q => H2.size ≤ q) (McL adm) adm τ') wML_L_105 wIM_X6_thrown wSE_X6_X6_thrown wIN_X6 wCO_X6_thrown (by decide) rfl ⟨Nat.le_of_ble_eq_true rfl, Nat.le_of_ble_eq_true rfl⟩ (orec hE hM3.main (show mcl[8]? = some (RX6, TX6, 30) from rfl)) hS (fun q h => Nat.le_trans hS.1 h) (fun q h => h) hM3 rfl hl.1 (Nat.le_of_ble_eq_true rfl) dL_law_206 ⟨by show cc9 + 2 + 0 + 0 ≤ 601024; omega, by show ss9 + 12 + 0 + 0 ≤ 7293034; omega⟩ (fun E ce q9 H1 locs1 hx9 _ _ _ _ _ => hx9.elim) (fun v H3 locs3 hv3 hk3 hS => ?_)
      obtain rfl : v = some (.int 1) := by rw [hv3, e27]
      have hP5 := hP4.old hk3
      have hM5 := hM3.old hk3
      have ho5 := ho3.kept (hk3.2 _ ho3.lt (Nat.not_le.mpr ho3.lt))
      refine lv_iload hx hb dL_law_209 (lv_at hl 1 rfl) ?_
      refine lv_icmp_eq (tgt := 216) hx hb dL_law_211 (by decide) (fun c_211_4 => ?_) (fun c_211_4 => ?_)
      · refine lv_iload hx hb dL_law_216 (lv_at hl 1 rfl) ?_
        refine lv_if_ne (tgt := 233) hx hb dL_law_218 (by decide) (fun c_218_5 => ?_) (fun c_218_5 => ?_)
        · refine lv_goto (tgt := 1851) hx hb dL_law_233 (by decide) ?_
          exact kk H3 locs3 ls _ _ (show cc9 + 2 + 0 + 0 ≤ cc9 + 10 by omega) (show ss9 + 12 + 0 + 0 ≤ ss9 + 300 by omega) hS ⟨ad', σ', τ', qs', nT', nW', f', D', _, ea, hP5, hM5, ho5, hR2, hI2⟩ (lv_sub hl [2, 3, 4, 5, 6] rfl)
        · exact absurd c_218_5 (by decide)
      · exact absurd c_211_4 (by decide)
    · skip
      refine lv_istore (lv' := [(5, .int 2), (4, .int (nI (4 * i))), (0, .ref b), (1, .ref (ad 0 0)), (2, .ref (adm 30)), (3, .ref o)]) hx hb dL_law_185 hl (by decide) rfl (fun ls hl => ?_)
      refine lv_aload_n hx hb dL_law_187 rfl (lv_at hl 4 rfl) ?_
      refine lv_aload_n hx hb dL_law_188 rfl (lv_at hl 2 rfl) ?_
      refine lv_iload hx hb dL_law_189 (lv_at hl 1 rfl) ?_
      refine lv_iconst (v := 1) hx hb dL_law_191 (by decide) ?_
      refine lv_iadd hx hb dL_law_192 ?_
      rw [i4_1]
      refine va_sld hx hb hX hbl (Nat.not_le.mpr hbl) hS (vp_in_nI (show 4 * i + 1 < L by omega) (by omega)) dL_law_193 ?_
      rw [nI_clamp (show 4 * i + 1 < 2 ^ 31 by omega)]
      refine lv_aload_n hx hb dL_law_194 rfl (lv_at hl 2 rfl) ?_
      refine lv_iload hx hb dL_law_195 (lv_at hl 1 rfl) ?_
      refine lv_iconst (v := 2) hx hb dL_law_197 (by decide) ?_
      refine lv_iadd hx hb dL_law_198 ?_
      rw [i4_2]
      refine va_sld hx hb hX hbl (Nat.not_le.mpr hbl) hS (vp_in_nI (show 4 * i + 2 < L by omega) (by omega)) dL_law_199 ?_
      rw [nI_clamp (show 4 * i + 2 < 2 ^ 31 by omega)]
      refine hcallV (n := 2) C hE (kR_setPrice l G (fun q => McL adm q ∨ H1.size ≤ q) adm τ (xs (4 * i + 1)) (xs (4 * i + 2))) wML_L_104 wIM_X6_setPrice wSE_X6_X6_setPrice wIN_X6 wCO_X6_setPrice (by decide) rfl ⟨Nat.le_of_ble_eq_true rfl, Nat.le_of_ble_eq_true rfl⟩ (orec hE hM1.main (show mcl[8]? = some (RX6, TX6, 30) from rfl)) hS (fun q h => h.elim (fun h => hF.2.2 q h) (fun h => Nat.le_trans hS.1 h)) (fun q h => Or.inr h) (hM1.any (fun q h => Or.inl h)) rfl hl.1 (Nat.le_of_ble_eq_true rfl) dL_law_200 ⟨by show cc9 + 2 + 0 ≤ 601024; omega, by show ss9 + 12 + 0 ≤ 7293034; omega⟩ (fun E ce q9 H1 locs1 hx9 _ _ _ _ _ => hx9.elim) (fun v H2 locs2 hv2 hk2 hS => ?_)
      obtain ⟨x9, τ', rfl, hM2, hcm⟩ := hv2
      have hM3 : PM G (McL adm) adm τ' H2 := hM2.any (fun q h => h)
      have ho3 := ho2.kept (hk2.2 _ ho2.lt (fun h => h.elim hF.2.1 (fun h => absurd ho2.lt (Nat.not_lt.mpr h))))
      have hex : EXT G (AxL s.heap.size o adm) ad H1 N 2 τ' := by
        rcases sx_setPrice hR hI hx9 hcm with ⟨e1, z⟩ | ⟨e1, z⟩
        · exact absurd (eE.symm.trans e1) (by decide)
        · exact z
      obtain ⟨e27, ad', σ', qs', nT', nW', f', D', ea, hP3, hR2, hI2⟩ := hex
      have hP4 := hP3.kept hk2 (fun q h hlt h2 => h2.elim h.2.2 (fun h3 => absurd hlt (Nat.not_lt.mpr h3)))
      refine lv_istore (lv' := [(6, .int x9), (5, .int 2), (4, .int (nI (4 * i))), (0, .ref b), (1, .ref (ad 0 0)), (2, .ref (adm 30)), (3, .ref o)]) hx hb dL_law_203 hl (by decide) rfl (fun ls hl => ?_)
      refine lv_aload_n hx hb dL_law_205 rfl (lv_at hl 5 rfl) ?_
      refine hcallV (n := 0) C hE (kM_thrown l G (fun q => H2.size ≤ q) (McL adm) adm τ') wML_L_105 wIM_X6_thrown wSE_X6_X6_thrown wIN_X6 wCO_X6_thrown (by decide) rfl ⟨Nat.le_of_ble_eq_true rfl, Nat.le_of_ble_eq_true rfl⟩ (orec hE hM3.main (show mcl[8]? = some (RX6, TX6, 30) from rfl)) hS (fun q h => Nat.le_trans hS.1 h) (fun q h => h) hM3 rfl hl.1 (Nat.le_of_ble_eq_true rfl) dL_law_206 ⟨by show cc9 + 2 + 0 + 0 ≤ 601024; omega, by show ss9 + 12 + 0 + 0 ≤ 7293034; omega⟩ (fun E ce q9 H1 locs1 hx9 _ _ _ _ _ => hx9.elim) (fun v H3 locs3 hv3 hk3 hS => ?_)
      obtain rfl : v = some (.int 2) := by rw [hv3, e27]
      have hP5 := hP4.old hk3
      have hM5 := hM3.old hk3
      have ho5 := ho3.kept (hk3.2 _ ho3.lt (Nat.not_le.mpr ho3.lt))
      refine lv_iload hx hb dL_law_209 (lv_at hl 1 rfl) ?_
      refine lv_icmp_eq (tgt := 216) hx hb dL_law_211 (by decide) (fun c_211_6 => ?_) (fun c_211_6 => ?_)
      · refine lv_iload hx hb dL_law_216 (lv_at hl 1 rfl) ?_
        refine lv_if_ne (tgt := 233) hx hb dL_law_218 (by decide) (fun c_218_7 => ?_) (fun c_218_7 => ?_)
        · refine lv_goto (tgt := 1851) hx hb dL_law_233 (by decide) ?_
          exact kk H3 locs3 ls _ _ (show cc9 + 2 + 0 + 0 ≤ cc9 + 10 by omega) (show ss9 + 12 + 0 + 0 ≤ ss9 + 300 by omega) hS ⟨ad', σ', τ', qs', nT', nW', f', D', _, ea, hP5, hM5, ho5, hR2, hI2⟩ (lv_sub hl [2, 3, 4, 5, 6] rfl)
        · exact absurd c_218_7 (by decide)
      · exact absurd c_211_6 (by decide)
set_option maxHeartbeats 4000000 in
set_option maxRecDepth 100000 in
theorem LC_buy (l : Launch) (hl9 : l.stackTraces = false) {p : Program} {e : Env} {s : State} {m : MethodId} {below : List Frame} {meth : Method} {c : Code} {b L : Nat} {xs : Nat → Int32} {G : GE} {o a0 : Nat} {adm : Nat → Nat} (C : CallFix p m c cL_law 7 s #[Value.ref b] gTb RL) (hE : EN (fun q => s.heap.size ≤ q) G s s.heap) (hN : NCX s) (hX : va_X b L xs s s.heap) (hbl : b < s.heap.size) (hF : LFX s.heap.size o adm) (hL : L ≤ 2048) {i N cc9 ss9 : Nat} {Qw : State → Prop} {H : Heap} {locs : List Loc} {ls : Array Slot} (hi : 4 * i + 4 ≤ L) (hcc : cc9 ≤ 100 + 10 * i) (hss : ss9 ≤ 2000 + 300 * i) (hN2 : N < 1000) (hS : va_S (fun q => s.heap.size ≤ q) s.heap H locs) (hV : LINV G s.heap.size o a0 adm N H) (hl : lv_has ls 7 [(4, .int (nI (4 * i))), (0, .ref b), (1, .ref a0), (2, .ref (adm 30)), (3, .ref o)])
    (kk : ∀ (H1 : Heap) (locs1 : List Loc) (ls1 : Array Slot) (cc1 ss1 : Nat), cc1 ≤ cc9 + 10 → ss1 ≤ ss9 + 300 → va_S (fun q => s.heap.size ≤ q) s.heap H1 locs1 → LINV G s.heap.size o a0 adm (N + 1) H1 → lv_has ls1 7 [(4, .int (nI (4 * i))), (0, .ref b), (1, .ref a0), (2, .ref (adm 30)), (3, .ref o)] → W p l e room_1 s m #[Value.ref b] below meth c H1 locs1 cc1 ss1 Qw (F0 m 1851 ls1 [])) : W p l e room_1 s m #[Value.ref b] below meth c H locs cc9 ss9 Qw (F0 m 236 ls []) := by
  have hx := C.1
  have hb := C.2.1
  have hown := C.2.2.2.1
  have hts := C.2.2.2.2
  obtain ⟨ad, σ, τ, qs, nT, nW, f, D, y0, rfl, hP, hM, ho9, hR, hI⟩ := hV
  have h80 := hR.n80
  refine lv_aload_n hx hb dL_law_236 rfl (lv_at hl 2 rfl) ?_
  refine lv_aload_n hx hb dL_law_237 rfl (lv_at hl 1 rfl) ?_
  refine lv_iload hx hb dL_law_238 (lv_at hl 0 rfl) ?_
  refine lv_iconst (v := 1) hx hb dL_law_240 (by decide) ?_
  refine lv_iadd hx hb dL_law_241 ?_
  rw [i4_1]
  refine va_sld hx hb hX hbl (Nat.not_le.mpr hbl) hS (vp_in_nI (show 4 * i + 1 < L by omega) (by omega)) dL_law_242 ?_
  rw [nI_clamp (show 4 * i + 1 < 2 ^ 31 by omega)]
  refine lv_aload_n hx hb dL_law_243 rfl (lv_at hl 4 rfl) ?_
  refine hcallH (n := 3) C hE hN (hL_buy l G (AxL s.heap.size o adm) (fun q => AxL s.heap.size o adm q ∨ q = o) o (fun q h => Or.inl h) (Or.inr rfl) (fun h => h.2.1 rfl) ad σ qs nT nW hl9 (xs (4 * i + 1)) h80.1) wML_L_109 wST_L_buy wIN_L wCW_L_buy (by decide) rfl ⟨Nat.le_of_ble_eq_true rfl, Nat.le_of_ble_eq_true rfl⟩ hS (fun q h => h.elim (fun h => h.1) (fun h => h ▸ hF.1)) (fun q h => Or.inl (AxL.new hM ho9 hS.1 q h)) ⟨hP, ⟨_, ho9⟩, fun q h => AxL.new hM ho9 hS.1 q h⟩ rfl hl.1 (Nat.le_of_ble_eq_true rfl) dL_law_244 ⟨by show cc9 + 6 ≤ 601024; omega, by show ss9 + 250 ≤ 7293034; omega⟩ (fun v H1 locs1 hv hk hS => ?_)
  have hM1 : PM G (McL adm) adm τ H1 := hM.keptL hk (fun q hq h => h.elim (fun h => h.2.2 hq) (fun h => hF.2.1 (h ▸ hq)))
  rcases hv with ⟨x, H0, rfl, hq, ho2, z2, oq2⟩ | ⟨E, hx9, hcode, y2, ho2⟩
  · skip
    refine lv_istore (lv' := [(5, .int 0), (4, .int (nI (4 * i))), (0, .ref b), (1, .ref (ad 0 0)), (2, .ref (adm 30)), (3, .ref o)]) hx hb dL_law_247 hl (by decide) rfl (fun ls hl => ?_)
    refine lv_aload_n hx hb dL_law_249 rfl (lv_at hl 4 rfl) ?_
    refine lv_aload_n hx hb dL_law_250 rfl (lv_at hl 2 rfl) ?_
    refine lv_iload hx hb dL_law_251 (lv_at hl 1 rfl) ?_
    refine lv_iconst (v := 1) hx hb dL_law_253 (by decide) ?_
    refine lv_iadd hx hb dL_law_254 ?_
    rw [i4_1]
    refine va_sld hx hb hX hbl (Nat.not_le.mpr hbl) hS (vp_in_nI (show 4 * i + 1 < L by omega) (by omega)) dL_law_255 ?_
    rw [nI_clamp (show 4 * i + 1 < 2 ^ 31 by omega)]
    refine hcallV (n := 1) C hE (kR_buy l G (fun q => McL adm q ∨ H1.size ≤ q) adm τ (xs (4 * i + 1)) nT hR.1.2.2.2.1 h80.1) wML_L_112 wIM_X6_buy wSE_X6_X6_buy wIN_X6 wCO_X6_buy (by decide) rfl ⟨Nat.le_of_ble_eq_true rfl, Nat.le_of_ble_eq_true rfl⟩ (orec hE hM1.main (show mcl[8]? = some (RX6, TX6, 30) from rfl)) hS (fun q h => h.elim (fun h => hF.2.2 q h) (fun h => Nat.le_trans hS.1 h)) (fun q h => Or.inr h) (hM1.any (fun q h => Or.inl h)) rfl hl.1 (Nat.le_of_ble_eq_true rfl) dL_law_256 ⟨by show cc9 + 6 + 0 ≤ 601024; omega, by show ss9 + 250 + 0 ≤ 7293034; omega⟩ (fun E ce q9 H1 locs1 hx9 _ _ _ _ _ => hx9.elim) (fun v H2 locs2 hv2 hk2 hS => ?_)
    obtain ⟨x9, τ', rfl, hM2, hcm⟩ := hv2
    have hM3 : PM G (McL adm) adm τ' H2 := hM2.any (fun q h => h)
    have ho3 := ho2.kept (hk2.2 _ ho2.lt (fun h => h.elim hF.2.1 (fun h => absurd ho2.lt (Nat.not_lt.mpr h))))
    obtain ⟨e27, ex, ad', σ', qs', nT', nW', f', D', ea, hP2, hR2, hI2⟩ := st_buy hR hI hq hcm
    obtain rfl : x = x9 := by cases ex; rfl
    have hP3 := hP2.kept (A1 := fun q => q = o) ⟨Nat.le_of_eq z2.symm, fun q _ hne => oq2 q hne⟩ (fun q h _ e => h.2.1 e)
    have hP4 := hP3.kept hk2 (fun q h hlt h2 => h2.elim h.2.2 (fun h3 => absurd hlt (Nat.not_lt.mpr h3)))
    refine lv_istore (lv' := [(6, .int x), (5, .int 0), (4, .int (nI (4 * i))), (0, .ref b), (1, .ref (ad 0 0)), (2, .ref (adm 30)), (3, .ref o)]) hx hb dL_law_259 hl (by decide) rfl (fun ls hl => ?_)
    refine lv_aload_n hx hb dL_law_261 rfl (lv_at hl 5 rfl) ?_
    refine hcallV (n := 0) C hE (kM_thrown l G (fun q => H2.size ≤ q) (McL adm) adm τ') wML_L_105 wIM_X6_thrown wSE_X6_X6_thrown wIN_X6 wCO_X6_thrown (by decide) rfl ⟨Nat.le_of_ble_eq_true rfl, Nat.le_of_ble_eq_true rfl⟩ (orec hE hM3.main (show mcl[8]? = some (RX6, TX6, 30) from rfl)) hS (fun q h => Nat.le_trans hS.1 h) (fun q h => h) hM3 rfl hl.1 (Nat.le_of_ble_eq_true rfl) dL_law_262 ⟨by show cc9 + 6 + 0 + 0 ≤ 601024; omega, by show ss9 + 250 + 0 + 0 ≤ 7293034; omega⟩ (fun E ce q9 H1 locs1 hx9 _ _ _ _ _ => hx9.elim) (fun v H3 locs3 hv3 hk3 hS => ?_)
    obtain rfl : v = some (.int 0) := by rw [hv3, e27]
    have hP5 := hP4.old hk3
    have hM5 := hM3.old hk3
    have ho5 := ho3.kept (hk3.2 _ ho3.lt (Nat.not_le.mpr ho3.lt))
    refine lv_iload hx hb dL_law_265 (lv_at hl 1 rfl) ?_
    refine lv_icmp_eq (tgt := 272) hx hb dL_law_267 (by decide) (fun c_267_1 => ?_) (fun c_267_1 => ?_)
    · refine lv_iload hx hb dL_law_272 (lv_at hl 1 rfl) ?_
      refine lv_if_ne (tgt := 289) hx hb dL_law_274 (by decide) (fun c_274_2 => ?_) (fun c_274_2 => ?_)
      · exact absurd c_274_2 (by decide)
      · refine lv_aload_n hx hb dL_law_277 rfl (lv_at hl 6 rfl) ?_
        refine lv_iconst (v := 0) hx hb dL_law_278 (by decide) ?_
        refine xlald hx hb hE.1.1 ho5 dL_law_279 ?_
        refine lv_iload hx hb dL_law_280 (lv_at hl 0 rfl) ?_
        refine lv_i2l hx hb dL_law_282 rfl ?_
        refine W.lcmp hx hb dL_law_283 ?_
        rw [lcmp0]
        refine lv_if_eq (tgt := 289) hx hb dL_law_284 (by decide) (fun c_284_3 => ?_) (fun c_284_3 => ?_)
        · refine lv_goto (tgt := 1851) hx hb dL_law_289 (by decide) ?_
          exact kk H3 locs3 ls _ _ (show cc9 + 6 + 0 + 0 ≤ cc9 + 10 by omega) (show ss9 + 250 + 0 + 0 ≤ ss9 + 300 by omega) hS ⟨ad', σ', τ', qs', nT', nW', f', D', _, ea, hP5, hM5, ho5, hR2, hI2⟩ (lv_sub hl [2, 3, 4, 5, 6] rfl)
        · exact absurd c_284_3 (by decide)
    · exact absurd c_267_1 (by decide)
  · rcases hcode with ⟨eE, rfl⟩ | ⟨eE, rfl⟩
    · skip
      refine lv_istore (lv' := [(5, .int 1), (4, .int (nI (4 * i))), (0, .ref b), (1, .ref (ad 0 0)), (2, .ref (adm 30)), (3, .ref o)]) hx hb dL_law_247 hl (by decide) rfl (fun ls hl => ?_)
      refine lv_aload_n hx hb dL_law_249 rfl (lv_at hl 4 rfl) ?_
      refine lv_aload_n hx hb dL_law_250 rfl (lv_at hl 2 rfl) ?_
      refine lv_iload hx hb dL_law_251 (lv_at hl 1 rfl) ?_
      refine lv_iconst (v := 1) hx hb dL_law_253 (by decide) ?_
      refine lv_iadd hx hb dL_law_254 ?_
      rw [i4_1]
      refine va_sld hx hb hX hbl (Nat.not_le.mpr hbl) hS (vp_in_nI (show 4 * i + 1 < L by omega) (by omega)) dL_law_255 ?_
      rw [nI_clamp (show 4 * i + 1 < 2 ^ 31 by omega)]
      refine hcallV (n := 1) C hE (kR_buy l G (fun q => McL adm q ∨ H1.size ≤ q) adm τ (xs (4 * i + 1)) nT hR.1.2.2.2.1 h80.1) wML_L_112 wIM_X6_buy wSE_X6_X6_buy wIN_X6 wCO_X6_buy (by decide) rfl ⟨Nat.le_of_ble_eq_true rfl, Nat.le_of_ble_eq_true rfl⟩ (orec hE hM1.main (show mcl[8]? = some (RX6, TX6, 30) from rfl)) hS (fun q h => h.elim (fun h => hF.2.2 q h) (fun h => Nat.le_trans hS.1 h)) (fun q h => Or.inr h) (hM1.any (fun q h => Or.inl h)) rfl hl.1 (Nat.le_of_ble_eq_true rfl) dL_law_256 ⟨by show cc9 + 6 + 0 ≤ 601024; omega, by show ss9 + 250 + 0 ≤ 7293034; omega⟩ (fun E ce q9 H1 locs1 hx9 _ _ _ _ _ => hx9.elim) (fun v H2 locs2 hv2 hk2 hS => ?_)
      obtain ⟨x9, τ', rfl, hM2, hcm⟩ := hv2
      have hM3 : PM G (McL adm) adm τ' H2 := hM2.any (fun q h => h)
      have ho3 := ho2.kept (hk2.2 _ ho2.lt (fun h => h.elim hF.2.1 (fun h => absurd ho2.lt (Nat.not_lt.mpr h))))
      have hex : EXT G (AxL s.heap.size o adm) ad H1 N 1 τ' := by
        rcases sx_buy hR hI hx9 hcm with ⟨e1, z⟩ | ⟨e1, z⟩
        · exact z
        · exact absurd (eE.symm.trans e1) (by decide)
      obtain ⟨e27, ad', σ', qs', nT', nW', f', D', ea, hP3, hR2, hI2⟩ := hex
      have hP4 := hP3.kept hk2 (fun q h hlt h2 => h2.elim h.2.2 (fun h3 => absurd hlt (Nat.not_lt.mpr h3)))
      refine lv_istore (lv' := [(6, .int x9), (5, .int 1), (4, .int (nI (4 * i))), (0, .ref b), (1, .ref (ad 0 0)), (2, .ref (adm 30)), (3, .ref o)]) hx hb dL_law_259 hl (by decide) rfl (fun ls hl => ?_)
      refine lv_aload_n hx hb dL_law_261 rfl (lv_at hl 5 rfl) ?_
      refine hcallV (n := 0) C hE (kM_thrown l G (fun q => H2.size ≤ q) (McL adm) adm τ') wML_L_105 wIM_X6_thrown wSE_X6_X6_thrown wIN_X6 wCO_X6_thrown (by decide) rfl ⟨Nat.le_of_ble_eq_true rfl, Nat.le_of_ble_eq_true rfl⟩ (orec hE hM3.main (show mcl[8]? = some (RX6, TX6, 30) from rfl)) hS (fun q h => Nat.le_trans hS.1 h) (fun q h => h) hM3 rfl hl.1 (Nat.le_of_ble_eq_true rfl) dL_law_262 ⟨by show cc9 + 6 + 0 + 0 ≤ 601024; omega, by show ss9 + 250 + 0 + 0 ≤ 7293034; omega⟩ (fun E ce q9 H1 locs1 hx9 _ _ _ _ _ => hx9.elim) (fun v H3 locs3 hv3 hk3 hS => ?_)
      obtain rfl : v = some (.int 1) := by rw [hv3, e27]
      have hP5 := hP4.old hk3
      have hM5 := hM3.old hk3
      have ho5 := ho3.kept (hk3.2 _ ho3.lt (Nat.not_le.mpr ho3.lt))
      refine lv_iload hx hb dL_law_265 (lv_at hl 1 rfl) ?_
      refine lv_icmp_eq (tgt := 272) hx hb dL_law_267 (by decide) (fun c_267_4 => ?_) (fun c_267_4 => ?_)
      · refine lv_iload hx hb dL_law_272 (lv_at hl 1 rfl) ?_
        refine lv_if_ne (tgt := 289) hx hb dL_law_274 (by decide) (fun c_274_5 => ?_) (fun c_274_5 => ?_)
        · refine lv_goto (tgt := 1851) hx hb dL_law_289 (by decide) ?_
          exact kk H3 locs3 ls _ _ (show cc9 + 6 + 0 + 0 ≤ cc9 + 10 by omega) (show ss9 + 250 + 0 + 0 ≤ ss9 + 300 by omega) hS ⟨ad', σ', τ', qs', nT', nW', f', D', _, ea, hP5, hM5, ho5, hR2, hI2⟩ (lv_sub hl [2, 3, 4, 5, 6] rfl)
        · exact absurd c_274_5 (by decide)
      · exact absurd c_267_4 (by decide)
    · skip
      refine lv_istore (lv' := [(5, .int 2), (4, .int (nI (4 * i))), (0, .ref b), (1, .ref (ad 0 0)), (2, .ref (adm 30)), (3, .ref o)]) hx hb dL_law_247 hl (by decide) rfl (fun ls hl => ?_)
      refine lv_aload_n hx hb dL_law_249 rfl (lv_at hl 4 rfl) ?_
      refine lv_aload_n hx hb dL_law_250 rfl (lv_at hl 2 rfl) ?_
      refine lv_iload hx hb dL_law_251 (lv_at hl 1 rfl) ?_
      refine lv_iconst (v := 1) hx hb dL_law_253 (by decide) ?_
      refine lv_iadd hx hb dL_law_254 ?_
      rw [i4_1]
      refine va_sld hx hb hX hbl (Nat.not_le.mpr hbl) hS (vp_in_nI (show 4 * i + 1 < L by omega) (by omega)) dL_law_255 ?_
      rw [nI_clamp (show 4 * i + 1 < 2 ^ 31 by omega)]
      refine hcallV (n := 1) C hE (kR_buy l G (fun q => McL adm q ∨ H1.size ≤ q) adm τ (xs (4 * i + 1)) nT hR.1.2.2.2.1 h80.1) wML_L_112 wIM_X6_buy wSE_X6_X6_buy wIN_X6 wCO_X6_buy (by decide) rfl ⟨Nat.le_of_ble_eq_true rfl, Nat.le_of_ble_eq_true rfl⟩ (orec hE hM1.main (show mcl[8]? = some (RX6, TX6, 30) from rfl)) hS (fun q h => h.elim (fun h => hF.2.2 q h) (fun h => Nat.le_trans hS.1 h)) (fun q h => Or.inr h) (hM1.any (fun q h => Or.inl h)) rfl hl.1 (Nat.le_of_ble_eq_true rfl) dL_law_256 ⟨by show cc9 + 6 + 0 ≤ 601024; omega, by show ss9 + 250 + 0 ≤ 7293034; omega⟩ (fun E ce q9 H1 locs1 hx9 _ _ _ _ _ => hx9.elim) (fun v H2 locs2 hv2 hk2 hS => ?_)
      obtain ⟨x9, τ', rfl, hM2, hcm⟩ := hv2
      have hM3 : PM G (McL adm) adm τ' H2 := hM2.any (fun q h => h)
      have ho3 := ho2.kept (hk2.2 _ ho2.lt (fun h => h.elim hF.2.1 (fun h => absurd ho2.lt (Nat.not_lt.mpr h))))
      have hex : EXT G (AxL s.heap.size o adm) ad H1 N 2 τ' := by
        rcases sx_buy hR hI hx9 hcm with ⟨e1, z⟩ | ⟨e1, z⟩
        · exact absurd (eE.symm.trans e1) (by decide)
        · exact z
      obtain ⟨e27, ad', σ', qs', nT', nW', f', D', ea, hP3, hR2, hI2⟩ := hex
      have hP4 := hP3.kept hk2 (fun q h hlt h2 => h2.elim h.2.2 (fun h3 => absurd hlt (Nat.not_lt.mpr h3)))
      refine lv_istore (lv' := [(6, .int x9), (5, .int 2), (4, .int (nI (4 * i))), (0, .ref b), (1, .ref (ad 0 0)), (2, .ref (adm 30)), (3, .ref o)]) hx hb dL_law_259 hl (by decide) rfl (fun ls hl => ?_)
      refine lv_aload_n hx hb dL_law_261 rfl (lv_at hl 5 rfl) ?_
      refine hcallV (n := 0) C hE (kM_thrown l G (fun q => H2.size ≤ q) (McL adm) adm τ') wML_L_105 wIM_X6_thrown wSE_X6_X6_thrown wIN_X6 wCO_X6_thrown (by decide) rfl ⟨Nat.le_of_ble_eq_true rfl, Nat.le_of_ble_eq_true rfl⟩ (orec hE hM3.main (show mcl[8]? = some (RX6, TX6, 30) from rfl)) hS (fun q h => Nat.le_trans hS.1 h) (fun q h => h) hM3 rfl hl.1 (Nat.le_of_ble_eq_true rfl) dL_law_262 ⟨by show cc9 + 6 + 0 + 0 ≤ 601024; omega, by show ss9 + 250 + 0 + 0 ≤ 7293034; omega⟩ (fun E ce q9 H1 locs1 hx9 _ _ _ _ _ => hx9.elim) (fun v H3 locs3 hv3 hk3 hS => ?_)
      obtain rfl : v = some (.int 2) := by rw [hv3, e27]
      have hP5 := hP4.old hk3
      have hM5 := hM3.old hk3
      have ho5 := ho3.kept (hk3.2 _ ho3.lt (Nat.not_le.mpr ho3.lt))
      refine lv_iload hx hb dL_law_265 (lv_at hl 1 rfl) ?_
      refine lv_icmp_eq (tgt := 272) hx hb dL_law_267 (by decide) (fun c_267_6 => ?_) (fun c_267_6 => ?_)
      · refine lv_iload hx hb dL_law_272 (lv_at hl 1 rfl) ?_
        refine lv_if_ne (tgt := 289) hx hb dL_law_274 (by decide) (fun c_274_7 => ?_) (fun c_274_7 => ?_)
        · refine lv_goto (tgt := 1851) hx hb dL_law_289 (by decide) ?_
          exact kk H3 locs3 ls _ _ (show cc9 + 6 + 0 + 0 ≤ cc9 + 10 by omega) (show ss9 + 250 + 0 + 0 ≤ ss9 + 300 by omega) hS ⟨ad', σ', τ', qs', nT', nW', f', D', _, ea, hP5, hM5, ho5, hR2, hI2⟩ (lv_sub hl [2, 3, 4, 5, 6] rfl)
        · exact absurd c_274_7 (by decide)
      · exact absurd c_267_6 (by decide)
set_option maxHeartbeats 4000000 in
set_option maxRecDepth 100000 in
theorem LC_admit (l : Launch) (hl9 : l.stackTraces = false) {p : Program} {e : Env} {s : State} {m : MethodId} {below : List Frame} {meth : Method} {c : Code} {b L : Nat} {xs : Nat → Int32} {G : GE} {o a0 : Nat} {adm : Nat → Nat} (C : CallFix p m c cL_law 7 s #[Value.ref b] gTb RL) (hE : EN (fun q => s.heap.size ≤ q) G s s.heap) (hN : NCX s) (hX : va_X b L xs s s.heap) (hbl : b < s.heap.size) (hF : LFX s.heap.size o adm) (hL : L ≤ 2048) {i N cc9 ss9 : Nat} {Qw : State → Prop} {H : Heap} {locs : List Loc} {ls : Array Slot} (hi : 4 * i + 4 ≤ L) (hcc : cc9 ≤ 100 + 10 * i) (hss : ss9 ≤ 2000 + 300 * i) (hN2 : N < 1000) (hS : va_S (fun q => s.heap.size ≤ q) s.heap H locs) (hV : LINV G s.heap.size o a0 adm N H) (hl : lv_has ls 7 [(4, .int (nI (4 * i))), (0, .ref b), (1, .ref a0), (2, .ref (adm 30)), (3, .ref o)])
    (kk : ∀ (H1 : Heap) (locs1 : List Loc) (ls1 : Array Slot) (cc1 ss1 : Nat), cc1 ≤ cc9 + 10 → ss1 ≤ ss9 + 300 → va_S (fun q => s.heap.size ≤ q) s.heap H1 locs1 → LINV G s.heap.size o a0 adm (N + 1) H1 → lv_has ls1 7 [(4, .int (nI (4 * i))), (0, .ref b), (1, .ref a0), (2, .ref (adm 30)), (3, .ref o)] → W p l e room_1 s m #[Value.ref b] below meth c H1 locs1 cc1 ss1 Qw (F0 m 1851 ls1 [])) : W p l e room_1 s m #[Value.ref b] below meth c H locs cc9 ss9 Qw (F0 m 292 ls []) := by
  have hx := C.1
  have hb := C.2.1
  have hown := C.2.2.2.1
  have hts := C.2.2.2.2
  obtain ⟨ad, σ, τ, qs, nT, nW, f, D, y0, rfl, hP, hM, ho9, hR, hI⟩ := hV
  have h80 := hR.n80
  refine lv_aload_n hx hb dL_law_292 rfl (lv_at hl 2 rfl) ?_
  refine lv_aload_n hx hb dL_law_293 rfl (lv_at hl 1 rfl) ?_
  refine lv_iload hx hb dL_law_294 (lv_at hl 0 rfl) ?_
  refine lv_iconst (v := 1) hx hb dL_law_296 (by decide) ?_
  refine lv_iadd hx hb dL_law_297 ?_
  rw [i4_1]
  refine va_sld hx hb hX hbl (Nat.not_le.mpr hbl) hS (vp_in_nI (show 4 * i + 1 < L by omega) (by omega)) dL_law_298 ?_
  rw [nI_clamp (show 4 * i + 1 < 2 ^ 31 by omega)]
  refine lv_aload_n hx hb dL_law_299 rfl (lv_at hl 1 rfl) ?_
  refine lv_iload hx hb dL_law_300 (lv_at hl 0 rfl) ?_
  refine lv_iconst (v := 2) hx hb dL_law_302 (by decide) ?_
  refine lv_iadd hx hb dL_law_303 ?_
  rw [i4_2]
  refine va_sld hx hb hX hbl (Nat.not_le.mpr hbl) hS (vp_in_nI (show 4 * i + 2 < L by omega) (by omega)) dL_law_304 ?_
  rw [nI_clamp (show 4 * i + 2 < 2 ^ 31 by omega)]
  refine lv_if_eq (tgt := 312) hx hb dL_law_305 (by decide) (fun c_305_1 => ?_) (fun c_305_1 => ?_)
  · refine lv_iconst (v := 0) hx hb dL_law_312 (by decide) ?_
    refine lv_aload_n hx hb dL_law_313 rfl (lv_at hl 4 rfl) ?_
    refine hcallH (n := 4) C hE hN (hL_admitM l G (AxL s.heap.size o adm) (fun q => AxL s.heap.size o adm q ∨ q = o) o (fun q h => Or.inl h) (Or.inr rfl) (fun h => h.2.1 rfl) ad σ qs nT nW hl9 (xs (4 * i + 1)) f hR.1.1 h80.2.2 h80.1) wML_L_113 wST_L_admit wIN_L wCW_L_admit (by decide) rfl ⟨Nat.le_of_ble_eq_true rfl, Nat.le_of_ble_eq_true rfl⟩ hS (fun q h => h.elim (fun h => h.1) (fun h => h ▸ hF.1)) (fun q h => Or.inl (AxL.new hM ho9 hS.1 q h)) ⟨hP, ⟨_, ho9⟩, fun q h => AxL.new hM ho9 hS.1 q h⟩ rfl hl.1 (Nat.le_of_ble_eq_true rfl) dL_law_314 ⟨by show cc9 + 6 ≤ 601024; omega, by show ss9 + 250 ≤ 7293034; omega⟩ (fun v H1 locs1 hv hk hS => ?_)
    have hM1 : PM G (McL adm) adm τ H1 := hM.keptL hk (fun q hq h => h.elim (fun h => h.2.2 hq) (fun h => hF.2.1 (h ▸ hq)))
    rcases hv with ⟨x, H0, rfl, hq, ho2, z2, oq2⟩ | ⟨E, hx9, hcode, y2, ho2⟩
    · skip
      refine lv_istore (lv' := [(5, .int 0), (4, .int (nI (4 * i))), (0, .ref b), (1, .ref (ad 0 0)), (2, .ref (adm 30)), (3, .ref o)]) hx hb dL_law_317 hl (by decide) rfl (fun ls hl => ?_)
      refine lv_aload_n hx hb dL_law_319 rfl (lv_at hl 4 rfl) ?_
      refine lv_aload_n hx hb dL_law_320 rfl (lv_at hl 2 rfl) ?_
      refine lv_iload hx hb dL_law_321 (lv_at hl 1 rfl) ?_
      refine lv_iconst (v := 1) hx hb dL_law_323 (by decide) ?_
      refine lv_iadd hx hb dL_law_324 ?_
      rw [i4_1]
      refine va_sld hx hb hX hbl (Nat.not_le.mpr hbl) hS (vp_in_nI (show 4 * i + 1 < L by omega) (by omega)) dL_law_325 ?_
      rw [nI_clamp (show 4 * i + 1 < 2 ^ 31 by omega)]
      refine lv_aload_n hx hb dL_law_326 rfl (lv_at hl 2 rfl) ?_
      refine lv_iload hx hb dL_law_327 (lv_at hl 1 rfl) ?_
      refine lv_iconst (v := 2) hx hb dL_law_329 (by decide) ?_
      refine lv_iadd hx hb dL_law_330 ?_
      rw [i4_2]
      refine va_sld hx hb hX hbl (Nat.not_le.mpr hbl) hS (vp_in_nI (show 4 * i + 2 < L by omega) (by omega)) dL_law_331 ?_
      rw [nI_clamp (show 4 * i + 2 < 2 ^ 31 by omega)]
      refine lv_if_eq (tgt := 339) hx hb dL_law_332 (by decide) (fun c_332_2 => ?_) (fun c_332_2 => ?_)
      · refine lv_iconst (v := 0) hx hb dL_law_339 (by decide) ?_
        refine hcallV (n := 2) C hE (kR_admitM l G (fun q => McL adm q ∨ H1.size ≤ q) adm τ (xs (4 * i + 1)) nT hR.1.2.2.2.1 h80.1) wML_L_116 wIM_X6_admit wSE_X6_X6_admit wIN_X6 wCO_X6_admit (by decide) rfl ⟨Nat.le_of_ble_eq_true rfl, Nat.le_of_ble_eq_true rfl⟩ (orec hE hM1.main (show mcl[8]? = some (RX6, TX6, 30) from rfl)) hS (fun q h => h.elim (fun h => hF.2.2 q h) (fun h => Nat.le_trans hS.1 h)) (fun q h => Or.inr h) (hM1.any (fun q h => Or.inl h)) rfl hl.1 (Nat.le_of_ble_eq_true rfl) dL_law_340 ⟨by show cc9 + 6 + 0 ≤ 601024; omega, by show ss9 + 250 + 0 ≤ 7293034; omega⟩ (fun E ce q9 H1 locs1 hx9 _ _ _ _ _ => hx9.elim) (fun v H2 locs2 hv2 hk2 hS => ?_)
        obtain ⟨x9, τ', rfl, hM2, hcm⟩ := hv2
        have hM3 : PM G (McL adm) adm τ' H2 := hM2.any (fun q h => h)
        have ho3 := ho2.kept (hk2.2 _ ho2.lt (fun h => h.elim hF.2.1 (fun h => absurd ho2.lt (Nat.not_lt.mpr h))))
        obtain ⟨e27, ex, ad', σ', qs', nT', nW', f', D', ea, hP2, hR2, hI2⟩ := st_admitM hR hI hq hcm
        obtain rfl : x = x9 := by cases ex; rfl
        have hP3 := hP2.kept (A1 := fun q => q = o) ⟨Nat.le_of_eq z2.symm, fun q _ hne => oq2 q hne⟩ (fun q h _ e => h.2.1 e)
        have hP4 := hP3.kept hk2 (fun q h hlt h2 => h2.elim h.2.2 (fun h3 => absurd hlt (Nat.not_lt.mpr h3)))
        refine lv_istore (lv' := [(6, .int x), (5, .int 0), (4, .int (nI (4 * i))), (0, .ref b), (1, .ref (ad 0 0)), (2, .ref (adm 30)), (3, .ref o)]) hx hb dL_law_343 hl (by decide) rfl (fun ls hl => ?_)
        refine lv_aload_n hx hb dL_law_345 rfl (lv_at hl 5 rfl) ?_
        refine hcallV (n := 0) C hE (kM_thrown l G (fun q => H2.size ≤ q) (McL adm) adm τ') wML_L_105 wIM_X6_thrown wSE_X6_X6_thrown wIN_X6 wCO_X6_thrown (by decide) rfl ⟨Nat.le_of_ble_eq_true rfl, Nat.le_of_ble_eq_true rfl⟩ (orec hE hM3.main (show mcl[8]? = some (RX6, TX6, 30) from rfl)) hS (fun q h => Nat.le_trans hS.1 h) (fun q h => h) hM3 rfl hl.1 (Nat.le_of_ble_eq_true rfl) dL_law_346 ⟨by show cc9 + 6 + 0 + 0 ≤ 601024; omega, by show ss9 + 250 + 0 + 0 ≤ 7293034; omega⟩ (fun E ce q9 H1 locs1 hx9 _ _ _ _ _ => hx9.elim) (fun v H3 locs3 hv3 hk3 hS => ?_)
        obtain rfl : v = some (.int 0) := by rw [hv3, e27]
        have hP5 := hP4.old hk3
        have hM5 := hM3.old hk3
        have ho5 := ho3.kept (hk3.2 _ ho3.lt (Nat.not_le.mpr ho3.lt))
        refine lv_iload hx hb dL_law_349 (lv_at hl 1 rfl) ?_
        refine lv_icmp_eq (tgt := 356) hx hb dL_law_351 (by decide) (fun c_351_3 => ?_) (fun c_351_3 => ?_)
        · refine lv_iload hx hb dL_law_356 (lv_at hl 1 rfl) ?_
          refine lv_if_ne (tgt := 373) hx hb dL_law_358 (by decide) (fun c_358_4 => ?_) (fun c_358_4 => ?_)
          · exact absurd c_358_4 (by decide)
          · refine lv_aload_n hx hb dL_law_361 rfl (lv_at hl 6 rfl) ?_
            refine lv_iconst (v := 0) hx hb dL_law_362 (by decide) ?_
            refine xlald hx hb hE.1.1 ho5 dL_law_363 ?_
            refine lv_iload hx hb dL_law_364 (lv_at hl 0 rfl) ?_
            refine lv_i2l hx hb dL_law_366 rfl ?_
            refine W.lcmp hx hb dL_law_367 ?_
            rw [lcmp0]
            refine lv_if_eq (tgt := 373) hx hb dL_law_368 (by decide) (fun c_368_5 => ?_) (fun c_368_5 => ?_)
            · refine lv_goto (tgt := 1851) hx hb dL_law_373 (by decide) ?_
              exact kk H3 locs3 ls _ _ (show cc9 + 6 + 0 + 0 ≤ cc9 + 10 by omega) (show ss9 + 250 + 0 + 0 ≤ ss9 + 300 by omega) hS ⟨ad', σ', τ', qs', nT', nW', f', D', _, ea, hP5, hM5, ho5, hR2, hI2⟩ (lv_sub hl [2, 3, 4, 5, 6] rfl)
            · exact absurd c_368_5 (by decide)
        · exact absurd c_351_3 (by decide)
      · exact absurd c_305_1 c_332_2
    · rcases hcode with ⟨eE, rfl⟩ | ⟨eE, rfl⟩
      · skip
        refine lv_istore (lv' := [(5, .int 1), (4, .int (nI (4 * i))), (0, .ref b), (1, .ref (ad 0 0)), (2, .ref (adm 30)), (3, .ref o)]) hx hb dL_law_317 hl (by decide) rfl (fun ls hl => ?_)
        refine lv_aload_n hx hb dL_law_319 rfl (lv_at hl 4 rfl) ?_
        refine lv_aload_n hx hb dL_law_320 rfl (lv_at hl 2 rfl) ?_
        refine lv_iload hx hb dL_law_321 (lv_at hl 1 rfl) ?_
        refine lv_iconst (v := 1) hx hb dL_law_323 (by decide) ?_
        refine lv_iadd hx hb dL_law_324 ?_
        rw [i4_1]
        refine va_sld hx hb hX hbl (Nat.not_le.mpr hbl) hS (vp_in_nI (show 4 * i + 1 < L by omega) (by omega)) dL_law_325 ?_
        rw [nI_clamp (show 4 * i + 1 < 2 ^ 31 by omega)]
        refine lv_aload_n hx hb dL_law_326 rfl (lv_at hl 2 rfl) ?_
        refine lv_iload hx hb dL_law_327 (lv_at hl 1 rfl) ?_
        refine lv_iconst (v := 2) hx hb dL_law_329 (by decide) ?_
        refine lv_iadd hx hb dL_law_330 ?_
        rw [i4_2]
        refine va_sld hx hb hX hbl (Nat.not_le.mpr hbl) hS (vp_in_nI (show 4 * i + 2 < L by omega) (by omega)) dL_law_331 ?_
        rw [nI_clamp (show 4 * i + 2 < 2 ^ 31 by omega)]
        refine lv_if_eq (tgt := 339) hx hb dL_law_332 (by decide) (fun c_332_6 => ?_) (fun c_332_6 => ?_)
        · refine lv_iconst (v := 0) hx hb dL_law_339 (by decide) ?_
          refine hcallV (n := 2) C hE (kR_admitM l G (fun q => McL adm q ∨ H1.size ≤ q) adm τ (xs (4 * i + 1)) nT hR.1.2.2.2.1 h80.1) wML_L_116 wIM_X6_admit wSE_X6_X6_admit wIN_X6 wCO_X6_admit (by decide) rfl ⟨Nat.le_of_ble_eq_true rfl, Nat.le_of_ble_eq_true rfl⟩ (orec hE hM1.main (show mcl[8]? = some (RX6, TX6, 30) from rfl)) hS (fun q h => h.elim (fun h => hF.2.2 q h) (fun h => Nat.le_trans hS.1 h)) (fun q h => Or.inr h) (hM1.any (fun q h => Or.inl h)) rfl hl.1 (Nat.le_of_ble_eq_true rfl) dL_law_340 ⟨by show cc9 + 6 + 0 ≤ 601024; omega, by show ss9 + 250 + 0 ≤ 7293034; omega⟩ (fun E ce q9 H1 locs1 hx9 _ _ _ _ _ => hx9.elim) (fun v H2 locs2 hv2 hk2 hS => ?_)
          obtain ⟨x9, τ', rfl, hM2, hcm⟩ := hv2
          have hM3 : PM G (McL adm) adm τ' H2 := hM2.any (fun q h => h)
          have ho3 := ho2.kept (hk2.2 _ ho2.lt (fun h => h.elim hF.2.1 (fun h => absurd ho2.lt (Nat.not_lt.mpr h))))
          have hex : EXT G (AxL s.heap.size o adm) ad H1 N 1 τ' := by
            rcases sx_admitM hR hI hx9 hcm with ⟨e1, z⟩ | ⟨e1, z⟩
            · exact z
            · exact absurd (eE.symm.trans e1) (by decide)
          obtain ⟨e27, ad', σ', qs', nT', nW', f', D', ea, hP3, hR2, hI2⟩ := hex
          have hP4 := hP3.kept hk2 (fun q h hlt h2 => h2.elim h.2.2 (fun h3 => absurd hlt (Nat.not_lt.mpr h3)))
          refine lv_istore (lv' := [(6, .int x9), (5, .int 1), (4, .int (nI (4 * i))), (0, .ref b), (1, .ref (ad 0 0)), (2, .ref (adm 30)), (3, .ref o)]) hx hb dL_law_343 hl (by decide) rfl (fun ls hl => ?_)
          refine lv_aload_n hx hb dL_law_345 rfl (lv_at hl 5 rfl) ?_
          refine hcallV (n := 0) C hE (kM_thrown l G (fun q => H2.size ≤ q) (McL adm) adm τ') wML_L_105 wIM_X6_thrown wSE_X6_X6_thrown wIN_X6 wCO_X6_thrown (by decide) rfl ⟨Nat.le_of_ble_eq_true rfl, Nat.le_of_ble_eq_true rfl⟩ (orec hE hM3.main (show mcl[8]? = some (RX6, TX6, 30) from rfl)) hS (fun q h => Nat.le_trans hS.1 h) (fun q h => h) hM3 rfl hl.1 (Nat.le_of_ble_eq_true rfl) dL_law_346 ⟨by show cc9 + 6 + 0 + 0 ≤ 601024; omega, by show ss9 + 250 + 0 + 0 ≤ 7293034; omega⟩ (fun E ce q9 H1 locs1 hx9 _ _ _ _ _ => hx9.elim) (fun v H3 locs3 hv3 hk3 hS => ?_)
          obtain rfl : v = some (.int 1) := by rw [hv3, e27]
          have hP5 := hP4.old hk3
          have hM5 := hM3.old hk3
          have ho5 := ho3.kept (hk3.2 _ ho3.lt (Nat.not_le.mpr ho3.lt))
          refine lv_iload hx hb dL_law_349 (lv_at hl 1 rfl) ?_
          refine lv_icmp_eq (tgt := 356) hx hb dL_law_351 (by decide) (fun c_351_7 => ?_) (fun c_351_7 => ?_)
          · refine lv_iload hx hb dL_law_356 (lv_at hl 1 rfl) ?_
            refine lv_if_ne (tgt := 373) hx hb dL_law_358 (by decide) (fun c_358_8 => ?_) (fun c_358_8 => ?_)
            · refine lv_goto (tgt := 1851) hx hb dL_law_373 (by decide) ?_
              exact kk H3 locs3 ls _ _ (show cc9 + 6 + 0 + 0 ≤ cc9 + 10 by omega) (show ss9 + 250 + 0 + 0 ≤ ss9 + 300 by omega) hS ⟨ad', σ', τ', qs', nT', nW', f', D', _, ea, hP5, hM5, ho5, hR2, hI2⟩ (lv_sub hl [2, 3, 4, 5, 6] rfl)
            · exact absurd c_358_8 (by decide)
          · exact absurd c_351_7 (by decide)
        · exact absurd c_305_1 c_332_6
      · skip
        refine lv_istore (lv' := [(5, .int 2), (4, .int (nI (4 * i))), (0, .ref b), (1, .ref (ad 0 0)), (2, .ref (adm 30)), (3, .ref o)]) hx hb dL_law_317 hl (by decide) rfl (fun ls hl => ?_)
        refine lv_aload_n hx hb dL_law_319 rfl (lv_at hl 4 rfl) ?_
        refine lv_aload_n hx hb dL_law_320 rfl (lv_at hl 2 rfl) ?_
        refine lv_iload hx hb dL_law_321 (lv_at hl 1 rfl) ?_
        refine lv_iconst (v := 1) hx hb dL_law_323 (by decide) ?_
        refine lv_iadd hx hb dL_law_324 ?_
        rw [i4_1]
        refine va_sld hx hb hX hbl (Nat.not_le.mpr hbl) hS (vp_in_nI (show 4 * i + 1 < L by omega) (by omega)) dL_law_325 ?_
        rw [nI_clamp (show 4 * i + 1 < 2 ^ 31 by omega)]
        refine lv_aload_n hx hb dL_law_326 rfl (lv_at hl 2 rfl) ?_
        refine lv_iload hx hb dL_law_327 (lv_at hl 1 rfl) ?_
        refine lv_iconst (v := 2) hx hb dL_law_329 (by decide) ?_
        refine lv_iadd hx hb dL_law_330 ?_
        rw [i4_2]
        refine va_sld hx hb hX hbl (Nat.not_le.mpr hbl) hS (vp_in_nI (show 4 * i + 2 < L by omega) (by omega)) dL_law_331 ?_
        rw [nI_clamp (show 4 * i + 2 < 2 ^ 31 by omega)]
        refine lv_if_eq (tgt := 339) hx hb dL_law_332 (by decide) (fun c_332_9 => ?_) (fun c_332_9 => ?_)
        · refine lv_iconst (v := 0) hx hb dL_law_339 (by decide) ?_
          refine hcallV (n := 2) C hE (kR_admitM l G (fun q => McL adm q ∨ H1.size ≤ q) adm τ (xs (4 * i + 1)) nT hR.1.2.2.2.1 h80.1) wML_L_116 wIM_X6_admit wSE_X6_X6_admit wIN_X6 wCO_X6_admit (by decide) rfl ⟨Nat.le_of_ble_eq_true rfl, Nat.le_of_ble_eq_true rfl⟩ (orec hE hM1.main (show mcl[8]? = some (RX6, TX6, 30) from rfl)) hS (fun q h => h.elim (fun h => hF.2.2 q h) (fun h => Nat.le_trans hS.1 h)) (fun q h => Or.inr h) (hM1.any (fun q h => Or.inl h)) rfl hl.1 (Nat.le_of_ble_eq_true rfl) dL_law_340 ⟨by show cc9 + 6 + 0 ≤ 601024; omega, by show ss9 + 250 + 0 ≤ 7293034; omega⟩ (fun E ce q9 H1 locs1 hx9 _ _ _ _ _ => hx9.elim) (fun v H2 locs2 hv2 hk2 hS => ?_)
          obtain ⟨x9, τ', rfl, hM2, hcm⟩ := hv2
          have hM3 : PM G (McL adm) adm τ' H2 := hM2.any (fun q h => h)
          have ho3 := ho2.kept (hk2.2 _ ho2.lt (fun h => h.elim hF.2.1 (fun h => absurd ho2.lt (Nat.not_lt.mpr h))))
          have hex : EXT G (AxL s.heap.size o adm) ad H1 N 2 τ' := by
            rcases sx_admitM hR hI hx9 hcm with ⟨e1, z⟩ | ⟨e1, z⟩
            · exact absurd (eE.symm.trans e1) (by decide)
            · exact z
          obtain ⟨e27, ad', σ', qs', nT', nW', f', D', ea, hP3, hR2, hI2⟩ := hex
          have hP4 := hP3.kept hk2 (fun q h hlt h2 => h2.elim h.2.2 (fun h3 => absurd hlt (Nat.not_lt.mpr h3)))
          refine lv_istore (lv' := [(6, .int x9), (5, .int 2), (4, .int (nI (4 * i))), (0, .ref b), (1, .ref (ad 0 0)), (2, .ref (adm 30)), (3, .ref o)]) hx hb dL_law_343 hl (by decide) rfl (fun ls hl => ?_)
          refine lv_aload_n hx hb dL_law_345 rfl (lv_at hl 5 rfl) ?_
          refine hcallV (n := 0) C hE (kM_thrown l G (fun q => H2.size ≤ q) (McL adm) adm τ') wML_L_105 wIM_X6_thrown wSE_X6_X6_thrown wIN_X6 wCO_X6_thrown (by decide) rfl ⟨Nat.le_of_ble_eq_true rfl, Nat.le_of_ble_eq_true rfl⟩ (orec hE hM3.main (show mcl[8]? = some (RX6, TX6, 30) from rfl)) hS (fun q h => Nat.le_trans hS.1 h) (fun q h => h) hM3 rfl hl.1 (Nat.le_of_ble_eq_true rfl) dL_law_346 ⟨by show cc9 + 6 + 0 + 0 ≤ 601024; omega, by show ss9 + 250 + 0 + 0 ≤ 7293034; omega⟩ (fun E ce q9 H1 locs1 hx9 _ _ _ _ _ => hx9.elim) (fun v H3 locs3 hv3 hk3 hS => ?_)
          obtain rfl : v = some (.int 2) := by rw [hv3, e27]
          have hP5 := hP4.old hk3
          have hM5 := hM3.old hk3
          have ho5 := ho3.kept (hk3.2 _ ho3.lt (Nat.not_le.mpr ho3.lt))
          refine lv_iload hx hb dL_law_349 (lv_at hl 1 rfl) ?_
          refine lv_icmp_eq (tgt := 356) hx hb dL_law_351 (by decide) (fun c_351_10 => ?_) (fun c_351_10 => ?_)
          · refine lv_iload hx hb dL_law_356 (lv_at hl 1 rfl) ?_
            refine lv_if_ne (tgt := 373) hx hb dL_law_358 (by decide) (fun c_358_11 => ?_) (fun c_358_11 => ?_)
            · refine lv_goto (tgt := 1851) hx hb dL_law_373 (by decide) ?_
              exact kk H3 locs3 ls _ _ (show cc9 + 6 + 0 + 0 ≤ cc9 + 10 by omega) (show ss9 + 250 + 0 + 0 ≤ ss9 + 300 by omega) hS ⟨ad', σ', τ', qs', nT', nW', f', D', _, ea, hP5, hM5, ho5, hR2, hI2⟩ (lv_sub hl [2, 3, 4, 5, 6] rfl)
            · exact absurd c_358_11 (by decide)
          · exact absurd c_351_10 (by decide)
        · exact absurd c_305_1 c_332_9
  · refine lv_iconst (v := 1) hx hb dL_law_308 (by decide) ?_
    refine lv_goto (tgt := 313) hx hb dL_law_309 (by decide) ?_
    refine lv_aload_n hx hb dL_law_313 rfl (lv_at hl 4 rfl) ?_
    refine hcallH (n := 4) C hE hN (hL_admitG l G (AxL s.heap.size o adm) (fun q => AxL s.heap.size o adm q ∨ q = o) o (fun q h => Or.inl h) (Or.inr rfl) (fun h => h.2.1 rfl) ad σ qs nT nW hl9 (xs (4 * i + 1)) f hR.1.1 h80.2.2 h80.1) wML_L_113 wST_L_admit wIN_L wCW_L_admit (by decide) rfl ⟨Nat.le_of_ble_eq_true rfl, Nat.le_of_ble_eq_true rfl⟩ hS (fun q h => h.elim (fun h => h.1) (fun h => h ▸ hF.1)) (fun q h => Or.inl (AxL.new hM ho9 hS.1 q h)) ⟨hP, ⟨_, ho9⟩, fun q h => AxL.new hM ho9 hS.1 q h⟩ rfl hl.1 (Nat.le_of_ble_eq_true rfl) dL_law_314 ⟨by show cc9 + 6 ≤ 601024; omega, by show ss9 + 250 ≤ 7293034; omega⟩ (fun v H1 locs1 hv hk hS => ?_)
    have hM1 : PM G (McL adm) adm τ H1 := hM.keptL hk (fun q hq h => h.elim (fun h => h.2.2 hq) (fun h => hF.2.1 (h ▸ hq)))
    rcases hv with ⟨x, H0, rfl, hq, ho2, z2, oq2⟩ | ⟨E, hx9, hcode, y2, ho2⟩
    · skip
      refine lv_istore (lv' := [(5, .int 0), (4, .int (nI (4 * i))), (0, .ref b), (1, .ref (ad 0 0)), (2, .ref (adm 30)), (3, .ref o)]) hx hb dL_law_317 hl (by decide) rfl (fun ls hl => ?_)
      refine lv_aload_n hx hb dL_law_319 rfl (lv_at hl 4 rfl) ?_
      refine lv_aload_n hx hb dL_law_320 rfl (lv_at hl 2 rfl) ?_
      refine lv_iload hx hb dL_law_321 (lv_at hl 1 rfl) ?_
      refine lv_iconst (v := 1) hx hb dL_law_323 (by decide) ?_
      refine lv_iadd hx hb dL_law_324 ?_
      rw [i4_1]
      refine va_sld hx hb hX hbl (Nat.not_le.mpr hbl) hS (vp_in_nI (show 4 * i + 1 < L by omega) (by omega)) dL_law_325 ?_
      rw [nI_clamp (show 4 * i + 1 < 2 ^ 31 by omega)]
      refine lv_aload_n hx hb dL_law_326 rfl (lv_at hl 2 rfl) ?_
      refine lv_iload hx hb dL_law_327 (lv_at hl 1 rfl) ?_
      refine lv_iconst (v := 2) hx hb dL_law_329 (by decide) ?_
      refine lv_iadd hx hb dL_law_330 ?_
      rw [i4_2]
      refine va_sld hx hb hX hbl (Nat.not_le.mpr hbl) hS (vp_in_nI (show 4 * i + 2 < L by omega) (by omega)) dL_law_331 ?_
      rw [nI_clamp (show 4 * i + 2 < 2 ^ 31 by omega)]
      refine lv_if_eq (tgt := 339) hx hb dL_law_332 (by decide) (fun c_332_12 => ?_) (fun c_332_12 => ?_)
      · exact absurd c_332_12 c_305_1
      · refine lv_iconst (v := 1) hx hb dL_law_335 (by decide) ?_
        refine lv_goto (tgt := 340) hx hb dL_law_336 (by decide) ?_
        refine hcallV (n := 2) C hE (kR_admitG l G (fun q => McL adm q ∨ H1.size ≤ q) adm τ (xs (4 * i + 1)) nT hR.1.2.2.2.1 h80.1) wML_L_116 wIM_X6_admit wSE_X6_X6_admit wIN_X6 wCO_X6_admit (by decide) rfl ⟨Nat.le_of_ble_eq_true rfl, Nat.le_of_ble_eq_true rfl⟩ (orec hE hM1.main (show mcl[8]? = some (RX6, TX6, 30) from rfl)) hS (fun q h => h.elim (fun h => hF.2.2 q h) (fun h => Nat.le_trans hS.1 h)) (fun q h => Or.inr h) (hM1.any (fun q h => Or.inl h)) rfl hl.1 (Nat.le_of_ble_eq_true rfl) dL_law_340 ⟨by show cc9 + 6 + 0 ≤ 601024; omega, by show ss9 + 250 + 0 ≤ 7293034; omega⟩ (fun E ce q9 H1 locs1 hx9 _ _ _ _ _ => hx9.elim) (fun v H2 locs2 hv2 hk2 hS => ?_)
        obtain ⟨x9, τ', rfl, hM2, hcm⟩ := hv2
        have hM3 : PM G (McL adm) adm τ' H2 := hM2.any (fun q h => h)
        have ho3 := ho2.kept (hk2.2 _ ho2.lt (fun h => h.elim hF.2.1 (fun h => absurd ho2.lt (Nat.not_lt.mpr h))))
        obtain ⟨e27, ex, ad', σ', qs', nT', nW', f', D', ea, hP2, hR2, hI2⟩ := st_admitG hR hI hq hcm
        obtain rfl : x = x9 := by cases ex; rfl
        have hP3 := hP2.kept (A1 := fun q => q = o) ⟨Nat.le_of_eq z2.symm, fun q _ hne => oq2 q hne⟩ (fun q h _ e => h.2.1 e)
        have hP4 := hP3.kept hk2 (fun q h hlt h2 => h2.elim h.2.2 (fun h3 => absurd hlt (Nat.not_lt.mpr h3)))
        refine lv_istore (lv' := [(6, .int x), (5, .int 0), (4, .int (nI (4 * i))), (0, .ref b), (1, .ref (ad 0 0)), (2, .ref (adm 30)), (3, .ref o)]) hx hb dL_law_343 hl (by decide) rfl (fun ls hl => ?_)
        refine lv_aload_n hx hb dL_law_345 rfl (lv_at hl 5 rfl) ?_
        refine hcallV (n := 0) C hE (kM_thrown l G (fun q => H2.size ≤ q) (McL adm) adm τ') wML_L_105 wIM_X6_thrown wSE_X6_X6_thrown wIN_X6 wCO_X6_thrown (by decide) rfl ⟨Nat.le_of_ble_eq_true rfl, Nat.le_of_ble_eq_true rfl⟩ (orec hE hM3.main (show mcl[8]? = some (RX6, TX6, 30) from rfl)) hS (fun q h => Nat.le_trans hS.1 h) (fun q h => h) hM3 rfl hl.1 (Nat.le_of_ble_eq_true rfl) dL_law_346 ⟨by show cc9 + 6 + 0 + 0 ≤ 601024; omega, by show ss9 + 250 + 0 + 0 ≤ 7293034; omega⟩ (fun E ce q9 H1 locs1 hx9 _ _ _ _ _ => hx9.elim) (fun v H3 locs3 hv3 hk3 hS => ?_)
        obtain rfl : v = some (.int 0) := by rw [hv3, e27]
        have hP5 := hP4.old hk3
        have hM5 := hM3.old hk3
        have ho5 := ho3.kept (hk3.2 _ ho3.lt (Nat.not_le.mpr ho3.lt))
        refine lv_iload hx hb dL_law_349 (lv_at hl 1 rfl) ?_
        refine lv_icmp_eq (tgt := 356) hx hb dL_law_351 (by decide) (fun c_351_13 => ?_) (fun c_351_13 => ?_)
        · refine lv_iload hx hb dL_law_356 (lv_at hl 1 rfl) ?_
          refine lv_if_ne (tgt := 373) hx hb dL_law_358 (by decide) (fun c_358_14 => ?_) (fun c_358_14 => ?_)
          · exact absurd c_358_14 (by decide)
          · refine lv_aload_n hx hb dL_law_361 rfl (lv_at hl 6 rfl) ?_
            refine lv_iconst (v := 0) hx hb dL_law_362 (by decide) ?_
            refine xlald hx hb hE.1.1 ho5 dL_law_363 ?_
            refine lv_iload hx hb dL_law_364 (lv_at hl 0 rfl) ?_
            refine lv_i2l hx hb dL_law_366 rfl ?_
            refine W.lcmp hx hb dL_law_367 ?_
            rw [lcmp0]
            refine lv_if_eq (tgt := 373) hx hb dL_law_368 (by decide) (fun c_368_15 => ?_) (fun c_368_15 => ?_)
            · refine lv_goto (tgt := 1851) hx hb dL_law_373 (by decide) ?_
              exact kk H3 locs3 ls _ _ (show cc9 + 6 + 0 + 0 ≤ cc9 + 10 by omega) (show ss9 + 250 + 0 + 0 ≤ ss9 + 300 by omega) hS ⟨ad', σ', τ', qs', nT', nW', f', D', _, ea, hP5, hM5, ho5, hR2, hI2⟩ (lv_sub hl [2, 3, 4, 5, 6] rfl)
            · exact absurd c_368_15 (by decide)
        · exact absurd c_351_13 (by decide)
    · rcases hcode with ⟨eE, rfl⟩ | ⟨eE, rfl⟩
      · skip
        refine lv_istore (lv' := [(5, .int 1), (4, .int (nI (4 * i))), (0, .ref b), (1, .ref (ad 0 0)), (2, .ref (adm 30)), (3, .ref o)]) hx hb dL_law_317 hl (by decide) rfl (fun ls hl => ?_)
        refine lv_aload_n hx hb dL_law_319 rfl (lv_at hl 4 rfl) ?_
        refine lv_aload_n hx hb dL_law_320 rfl (lv_at hl 2 rfl) ?_
        refine lv_iload hx hb dL_law_321 (lv_at hl 1 rfl) ?_
        refine lv_iconst (v := 1) hx hb dL_law_323 (by decide) ?_
        refine lv_iadd hx hb dL_law_324 ?_
        rw [i4_1]
        refine va_sld hx hb hX hbl (Nat.not_le.mpr hbl) hS (vp_in_nI (show 4 * i + 1 < L by omega) (by omega)) dL_law_325 ?_
        rw [nI_clamp (show 4 * i + 1 < 2 ^ 31 by omega)]
        refine lv_aload_n hx hb dL_law_326 rfl (lv_at hl 2 rfl) ?_
        refine lv_iload hx hb dL_law_327 (lv_at hl 1 rfl) ?_
        refine lv_iconst (v := 2) hx hb dL_law_329 (by decide) ?_
        refine lv_iadd hx hb dL_law_330 ?_
        rw [i4_2]
        refine va_sld hx hb hX hbl (Nat.not_le.mpr hbl) hS (vp_in_nI (show 4 * i + 2 < L by omega) (by omega)) dL_law_331 ?_
        rw [nI_clamp (show 4 * i + 2 < 2 ^ 31 by omega)]
        refine lv_if_eq (tgt := 339) hx hb dL_law_332 (by decide) (fun c_332_16 => ?_) (fun c_332_16 => ?_)
        · exact absurd c_332_16 c_305_1
        · refine lv_iconst (v := 1) hx hb dL_law_335 (by decide) ?_
          refine lv_goto (tgt := 340) hx hb dL_law_336 (by decide) ?_
          refine hcallV (n := 2) C hE (kR_admitG l G (fun q => McL adm q ∨ H1.size ≤ q) adm τ (xs (4 * i + 1)) nT hR.1.2.2.2.1 h80.1) wML_L_116 wIM_X6_admit wSE_X6_X6_admit wIN_X6 wCO_X6_admit (by decide) rfl ⟨Nat.le_of_ble_eq_true rfl, Nat.le_of_ble_eq_true rfl⟩ (orec hE hM1.main (show mcl[8]? = some (RX6, TX6, 30) from rfl)) hS (fun q h => h.elim (fun h => hF.2.2 q h) (fun h => Nat.le_trans hS.1 h)) (fun q h => Or.inr h) (hM1.any (fun q h => Or.inl h)) rfl hl.1 (Nat.le_of_ble_eq_true rfl) dL_law_340 ⟨by show cc9 + 6 + 0 ≤ 601024; omega, by show ss9 + 250 + 0 ≤ 7293034; omega⟩ (fun E ce q9 H1 locs1 hx9 _ _ _ _ _ => hx9.elim) (fun v H2 locs2 hv2 hk2 hS => ?_)
          obtain ⟨x9, τ', rfl, hM2, hcm⟩ := hv2
          have hM3 : PM G (McL adm) adm τ' H2 := hM2.any (fun q h => h)
          have ho3 := ho2.kept (hk2.2 _ ho2.lt (fun h => h.elim hF.2.1 (fun h => absurd ho2.lt (Nat.not_lt.mpr h))))
          have hex : EXT G (AxL s.heap.size o adm) ad H1 N 1 τ' := by
            rcases sx_admitG hR hI hx9 hcm with ⟨e1, z⟩ | ⟨e1, z⟩
            · exact z
            · exact absurd (eE.symm.trans e1) (by decide)
          obtain ⟨e27, ad', σ', qs', nT', nW', f', D', ea, hP3, hR2, hI2⟩ := hex
          have hP4 := hP3.kept hk2 (fun q h hlt h2 => h2.elim h.2.2 (fun h3 => absurd hlt (Nat.not_lt.mpr h3)))
          refine lv_istore (lv' := [(6, .int x9), (5, .int 1), (4, .int (nI (4 * i))), (0, .ref b), (1, .ref (ad 0 0)), (2, .ref (adm 30)), (3, .ref o)]) hx hb dL_law_343 hl (by decide) rfl (fun ls hl => ?_)
          refine lv_aload_n hx hb dL_law_345 rfl (lv_at hl 5 rfl) ?_
          refine hcallV (n := 0) C hE (kM_thrown l G (fun q => H2.size ≤ q) (McL adm) adm τ') wML_L_105 wIM_X6_thrown wSE_X6_X6_thrown wIN_X6 wCO_X6_thrown (by decide) rfl ⟨Nat.le_of_ble_eq_true rfl, Nat.le_of_ble_eq_true rfl⟩ (orec hE hM3.main (show mcl[8]? = some (RX6, TX6, 30) from rfl)) hS (fun q h => Nat.le_trans hS.1 h) (fun q h => h) hM3 rfl hl.1 (Nat.le_of_ble_eq_true rfl) dL_law_346 ⟨by show cc9 + 6 + 0 + 0 ≤ 601024; omega, by show ss9 + 250 + 0 + 0 ≤ 7293034; omega⟩ (fun E ce q9 H1 locs1 hx9 _ _ _ _ _ => hx9.elim) (fun v H3 locs3 hv3 hk3 hS => ?_)
          obtain rfl : v = some (.int 1) := by rw [hv3, e27]
          have hP5 := hP4.old hk3
          have hM5 := hM3.old hk3
          have ho5 := ho3.kept (hk3.2 _ ho3.lt (Nat.not_le.mpr ho3.lt))
          refine lv_iload hx hb dL_law_349 (lv_at hl 1 rfl) ?_
          refine lv_icmp_eq (tgt := 356) hx hb dL_law_351 (by decide) (fun c_351_17 => ?_) (fun c_351_17 => ?_)
          · refine lv_iload hx hb dL_law_356 (lv_at hl 1 rfl) ?_
            refine lv_if_ne (tgt := 373) hx hb dL_law_358 (by decide) (fun c_358_18 => ?_) (fun c_358_18 => ?_)
            · refine lv_goto (tgt := 1851) hx hb dL_law_373 (by decide) ?_
              exact kk H3 locs3 ls _ _ (show cc9 + 6 + 0 + 0 ≤ cc9 + 10 by omega) (show ss9 + 250 + 0 + 0 ≤ ss9 + 300 by omega) hS ⟨ad', σ', τ', qs', nT', nW', f', D', _, ea, hP5, hM5, ho5, hR2, hI2⟩ (lv_sub hl [2, 3, 4, 5, 6] rfl)
            · exact absurd c_358_18 (by decide)
          · exact absurd c_351_17 (by decide)
      · skip
        refine lv_istore (lv' := [(5, .int 2), (4, .int (nI (4 * i))), (0, .ref b), (1, .ref (ad 0 0)), (2, .ref (adm 30)), (3, .ref o)]) hx hb dL_law_317 hl (by decide) rfl (fun ls hl => ?_)
        refine lv_aload_n hx hb dL_law_319 rfl (lv_at hl 4 rfl) ?_
        refine lv_aload_n hx hb dL_law_320 rfl (lv_at hl 2 rfl) ?_
        refine lv_iload hx hb dL_law_321 (lv_at hl 1 rfl) ?_
        refine lv_iconst (v := 1) hx hb dL_law_323 (by decide) ?_
        refine lv_iadd hx hb dL_law_324 ?_
        rw [i4_1]
        refine va_sld hx hb hX hbl (Nat.not_le.mpr hbl) hS (vp_in_nI (show 4 * i + 1 < L by omega) (by omega)) dL_law_325 ?_
        rw [nI_clamp (show 4 * i + 1 < 2 ^ 31 by omega)]
        refine lv_aload_n hx hb dL_law_326 rfl (lv_at hl 2 rfl) ?_
        refine lv_iload hx hb dL_law_327 (lv_at hl 1 rfl) ?_
        refine lv_iconst (v := 2) hx hb dL_law_329 (by decide) ?_
        refine lv_iadd hx hb dL_law_330 ?_
        rw [i4_2]
        refine va_sld hx hb hX hbl (Nat.not_le.mpr hbl) hS (vp_in_nI (show 4 * i + 2 < L by omega) (by omega)) dL_law_331 ?_
        rw [nI_clamp (show 4 * i + 2 < 2 ^ 31 by omega)]
        refine lv_if_eq (tgt := 339) hx hb dL_law_332 (by decide) (fun c_332_19 => ?_) (fun c_332_19 => ?_)
        · exact absurd c_332_19 c_305_1
        · refine lv_iconst (v := 1) hx hb dL_law_335 (by decide) ?_
          refine lv_goto (tgt := 340) hx hb dL_law_336 (by decide) ?_
          refine hcallV (n := 2) C hE (kR_admitG l G (fun q => McL adm q ∨ H1.size ≤ q) adm τ (xs (4 * i + 1)) nT hR.1.2.2.2.1 h80.1) wML_L_116 wIM_X6_admit wSE_X6_X6_admit wIN_X6 wCO_X6_admit (by decide) rfl ⟨Nat.le_of_ble_eq_true rfl, Nat.le_of_ble_eq_true rfl⟩ (orec hE hM1.main (show mcl[8]? = some (RX6, TX6, 30) from rfl)) hS (fun q h => h.elim (fun h => hF.2.2 q h) (fun h => Nat.le_trans hS.1 h)) (fun q h => Or.inr h) (hM1.any (fun q h => Or.inl h)) rfl hl.1 (Nat.le_of_ble_eq_true rfl) dL_law_340 ⟨by show cc9 + 6 + 0 ≤ 601024; omega, by show ss9 + 250 + 0 ≤ 7293034; omega⟩ (fun E ce q9 H1 locs1 hx9 _ _ _ _ _ => hx9.elim) (fun v H2 locs2 hv2 hk2 hS => ?_)
          obtain ⟨x9, τ', rfl, hM2, hcm⟩ := hv2
          have hM3 : PM G (McL adm) adm τ' H2 := hM2.any (fun q h => h)
          have ho3 := ho2.kept (hk2.2 _ ho2.lt (fun h => h.elim hF.2.1 (fun h => absurd ho2.lt (Nat.not_lt.mpr h))))
          have hex : EXT G (AxL s.heap.size o adm) ad H1 N 2 τ' := by
            rcases sx_admitG hR hI hx9 hcm with ⟨e1, z⟩ | ⟨e1, z⟩
            · exact absurd (eE.symm.trans e1) (by decide)
            · exact z
          obtain ⟨e27, ad', σ', qs', nT', nW', f', D', ea, hP3, hR2, hI2⟩ := hex
          have hP4 := hP3.kept hk2 (fun q h hlt h2 => h2.elim h.2.2 (fun h3 => absurd hlt (Nat.not_lt.mpr h3)))
          refine lv_istore (lv' := [(6, .int x9), (5, .int 2), (4, .int (nI (4 * i))), (0, .ref b), (1, .ref (ad 0 0)), (2, .ref (adm 30)), (3, .ref o)]) hx hb dL_law_343 hl (by decide) rfl (fun ls hl => ?_)
          refine lv_aload_n hx hb dL_law_345 rfl (lv_at hl 5 rfl) ?_
          refine hcallV (n := 0) C hE (kM_thrown l G (fun q => H2.size ≤ q) (McL adm) adm τ') wML_L_105 wIM_X6_thrown wSE_X6_X6_thrown wIN_X6 wCO_X6_thrown (by decide) rfl ⟨Nat.le_of_ble_eq_true rfl, Nat.le_of_ble_eq_true rfl⟩ (orec hE hM3.main (show mcl[8]? = some (RX6, TX6, 30) from rfl)) hS (fun q h => Nat.le_trans hS.1 h) (fun q h => h) hM3 rfl hl.1 (Nat.le_of_ble_eq_true rfl) dL_law_346 ⟨by show cc9 + 6 + 0 + 0 ≤ 601024; omega, by show ss9 + 250 + 0 + 0 ≤ 7293034; omega⟩ (fun E ce q9 H1 locs1 hx9 _ _ _ _ _ => hx9.elim) (fun v H3 locs3 hv3 hk3 hS => ?_)
          obtain rfl : v = some (.int 2) := by rw [hv3, e27]
          have hP5 := hP4.old hk3
          have hM5 := hM3.old hk3
          have ho5 := ho3.kept (hk3.2 _ ho3.lt (Nat.not_le.mpr ho3.lt))
          refine lv_iload hx hb dL_law_349 (lv_at hl 1 rfl) ?_
          refine lv_icmp_eq (tgt := 356) hx hb dL_law_351 (by decide) (fun c_351_20 => ?_) (fun c_351_20 => ?_)
          · refine lv_iload hx hb dL_law_356 (lv_at hl 1 rfl) ?_
            refine lv_if_ne (tgt := 373) hx hb dL_law_358 (by decide) (fun c_358_21 => ?_) (fun c_358_21 => ?_)
            · refine lv_goto (tgt := 1851) hx hb dL_law_373 (by decide) ?_
              exact kk H3 locs3 ls _ _ (show cc9 + 6 + 0 + 0 ≤ cc9 + 10 by omega) (show ss9 + 250 + 0 + 0 ≤ ss9 + 300 by omega) hS ⟨ad', σ', τ', qs', nT', nW', f', D', _, ea, hP5, hM5, ho5, hR2, hI2⟩ (lv_sub hl [2, 3, 4, 5, 6] rfl)
            · exact absurd c_358_21 (by decide)
          · exact absurd c_351_20 (by decide)
set_option maxHeartbeats 4000000 in
set_option maxRecDepth 100000 in
theorem LC_giveBack (l : Launch) (hl9 : l.stackTraces = false) {p : Program} {e : Env} {s : State} {m : MethodId} {below : List Frame} {meth : Method} {c : Code} {b L : Nat} {xs : Nat → Int32} {G : GE} {o a0 : Nat} {adm : Nat → Nat} (C : CallFix p m c cL_law 7 s #[Value.ref b] gTb RL) (hE : EN (fun q => s.heap.size ≤ q) G s s.heap) (hN : NCX s) (hX : va_X b L xs s s.heap) (hbl : b < s.heap.size) (hF : LFX s.heap.size o adm) (hL : L ≤ 2048) {i N cc9 ss9 : Nat} {Qw : State → Prop} {H : Heap} {locs : List Loc} {ls : Array Slot} (hi : 4 * i + 4 ≤ L) (hcc : cc9 ≤ 100 + 10 * i) (hss : ss9 ≤ 2000 + 300 * i) (hN2 : N < 1000) (hS : va_S (fun q => s.heap.size ≤ q) s.heap H locs) (hV : LINV G s.heap.size o a0 adm N H) (hl : lv_has ls 7 [(4, .int (nI (4 * i))), (0, .ref b), (1, .ref a0), (2, .ref (adm 30)), (3, .ref o)])
    (kk : ∀ (H1 : Heap) (locs1 : List Loc) (ls1 : Array Slot) (cc1 ss1 : Nat), cc1 ≤ cc9 + 10 → ss1 ≤ ss9 + 300 → va_S (fun q => s.heap.size ≤ q) s.heap H1 locs1 → LINV G s.heap.size o a0 adm (N + 1) H1 → lv_has ls1 7 [(4, .int (nI (4 * i))), (0, .ref b), (1, .ref a0), (2, .ref (adm 30)), (3, .ref o)] → W p l e room_1 s m #[Value.ref b] below meth c H1 locs1 cc1 ss1 Qw (F0 m 1851 ls1 [])) : W p l e room_1 s m #[Value.ref b] below meth c H locs cc9 ss9 Qw (F0 m 376 ls []) := by
  have hx := C.1
  have hb := C.2.1
  have hown := C.2.2.2.1
  have hts := C.2.2.2.2
  obtain ⟨ad, σ, τ, qs, nT, nW, f, D, y0, rfl, hP, hM, ho9, hR, hI⟩ := hV
  have h80 := hR.n80
  refine lv_aload_n hx hb dL_law_376 rfl (lv_at hl 2 rfl) ?_
  refine lv_aload_n hx hb dL_law_377 rfl (lv_at hl 1 rfl) ?_
  refine lv_iload hx hb dL_law_378 (lv_at hl 0 rfl) ?_
  refine lv_iconst (v := 1) hx hb dL_law_380 (by decide) ?_
  refine lv_iadd hx hb dL_law_381 ?_
  rw [i4_1]
  refine va_sld hx hb hX hbl (Nat.not_le.mpr hbl) hS (vp_in_nI (show 4 * i + 1 < L by omega) (by omega)) dL_law_382 ?_
  rw [nI_clamp (show 4 * i + 1 < 2 ^ 31 by omega)]
  refine lv_aload_n hx hb dL_law_383 rfl (lv_at hl 4 rfl) ?_
  refine hcallH (n := 3) C hE hN (hL_giveBack l G (AxL s.heap.size o adm) (fun q => AxL s.heap.size o adm q ∨ q = o) o (fun q h => Or.inl h) (Or.inr rfl) (fun h => h.2.1 rfl) ad σ qs nT nW hl9 (xs (4 * i + 1)) h80.1) wML_L_117 wST_L_giveBack wIN_L wCW_L_giveBack (by decide) rfl ⟨Nat.le_of_ble_eq_true rfl, Nat.le_of_ble_eq_true rfl⟩ hS (fun q h => h.elim (fun h => h.1) (fun h => h ▸ hF.1)) (fun q h => Or.inl (AxL.new hM ho9 hS.1 q h)) ⟨hP, ⟨_, ho9⟩, fun q h => AxL.new hM ho9 hS.1 q h⟩ rfl hl.1 (Nat.le_of_ble_eq_true rfl) dL_law_384 ⟨by show cc9 + 3 ≤ 601024; omega, by show ss9 + 18 ≤ 7293034; omega⟩ (fun v H1 locs1 hv hk hS => ?_)
  have hM1 : PM G (McL adm) adm τ H1 := hM.keptL hk (fun q hq h => h.elim (fun h => h.2.2 hq) (fun h => hF.2.1 (h ▸ hq)))
  rcases hv with ⟨x, H0, rfl, hq, ho2, z2, oq2⟩ | ⟨E, hx9, hcode, y2, ho2⟩
  · skip
    refine lv_istore (lv' := [(5, .int 0), (4, .int (nI (4 * i))), (0, .ref b), (1, .ref (ad 0 0)), (2, .ref (adm 30)), (3, .ref o)]) hx hb dL_law_387 hl (by decide) rfl (fun ls hl => ?_)
    refine lv_aload_n hx hb dL_law_389 rfl (lv_at hl 4 rfl) ?_
    refine lv_aload_n hx hb dL_law_390 rfl (lv_at hl 2 rfl) ?_
    refine lv_iload hx hb dL_law_391 (lv_at hl 1 rfl) ?_
    refine lv_iconst (v := 1) hx hb dL_law_393 (by decide) ?_
    refine lv_iadd hx hb dL_law_394 ?_
    rw [i4_1]
    refine va_sld hx hb hX hbl (Nat.not_le.mpr hbl) hS (vp_in_nI (show 4 * i + 1 < L by omega) (by omega)) dL_law_395 ?_
    rw [nI_clamp (show 4 * i + 1 < 2 ^ 31 by omega)]
    refine hcallV (n := 1) C hE (kR_giveBack l G (fun q => McL adm q ∨ H1.size ≤ q) adm τ (xs (4 * i + 1)) nT hR.1.2.2.2.1 h80.1) wML_L_119 wIM_X6_giveBack wSE_X6_X6_giveBack wIN_X6 wCO_X6_giveBack (by decide) rfl ⟨Nat.le_of_ble_eq_true rfl, Nat.le_of_ble_eq_true rfl⟩ (orec hE hM1.main (show mcl[8]? = some (RX6, TX6, 30) from rfl)) hS (fun q h => h.elim (fun h => hF.2.2 q h) (fun h => Nat.le_trans hS.1 h)) (fun q h => Or.inr h) (hM1.any (fun q h => Or.inl h)) rfl hl.1 (Nat.le_of_ble_eq_true rfl) dL_law_396 ⟨by show cc9 + 3 + 0 ≤ 601024; omega, by show ss9 + 18 + 0 ≤ 7293034; omega⟩ (fun E ce q9 H1 locs1 hx9 _ _ _ _ _ => hx9.elim) (fun v H2 locs2 hv2 hk2 hS => ?_)
    obtain ⟨x9, τ', rfl, hM2, hcm⟩ := hv2
    have hM3 : PM G (McL adm) adm τ' H2 := hM2.any (fun q h => h)
    have ho3 := ho2.kept (hk2.2 _ ho2.lt (fun h => h.elim hF.2.1 (fun h => absurd ho2.lt (Nat.not_lt.mpr h))))
    obtain ⟨e27, ex, ad', σ', qs', nT', nW', f', D', ea, hP2, hR2, hI2⟩ := st_giveBack hR hI hq hcm
    obtain rfl : x = x9 := by cases ex; rfl
    have hP3 := hP2.kept (A1 := fun q => q = o) ⟨Nat.le_of_eq z2.symm, fun q _ hne => oq2 q hne⟩ (fun q h _ e => h.2.1 e)
    have hP4 := hP3.kept hk2 (fun q h hlt h2 => h2.elim h.2.2 (fun h3 => absurd hlt (Nat.not_lt.mpr h3)))
    refine lv_istore (lv' := [(6, .int x), (5, .int 0), (4, .int (nI (4 * i))), (0, .ref b), (1, .ref (ad 0 0)), (2, .ref (adm 30)), (3, .ref o)]) hx hb dL_law_399 hl (by decide) rfl (fun ls hl => ?_)
    refine lv_aload_n hx hb dL_law_401 rfl (lv_at hl 5 rfl) ?_
    refine hcallV (n := 0) C hE (kM_thrown l G (fun q => H2.size ≤ q) (McL adm) adm τ') wML_L_105 wIM_X6_thrown wSE_X6_X6_thrown wIN_X6 wCO_X6_thrown (by decide) rfl ⟨Nat.le_of_ble_eq_true rfl, Nat.le_of_ble_eq_true rfl⟩ (orec hE hM3.main (show mcl[8]? = some (RX6, TX6, 30) from rfl)) hS (fun q h => Nat.le_trans hS.1 h) (fun q h => h) hM3 rfl hl.1 (Nat.le_of_ble_eq_true rfl) dL_law_402 ⟨by show cc9 + 3 + 0 + 0 ≤ 601024; omega, by show ss9 + 18 + 0 + 0 ≤ 7293034; omega⟩ (fun E ce q9 H1 locs1 hx9 _ _ _ _ _ => hx9.elim) (fun v H3 locs3 hv3 hk3 hS => ?_)
    obtain rfl : v = some (.int 0) := by rw [hv3, e27]
    have hP5 := hP4.old hk3
    have hM5 := hM3.old hk3
    have ho5 := ho3.kept (hk3.2 _ ho3.lt (Nat.not_le.mpr ho3.lt))
    refine lv_iload hx hb dL_law_405 (lv_at hl 1 rfl) ?_
    refine lv_icmp_eq (tgt := 412) hx hb dL_law_407 (by decide) (fun c_407_1 => ?_) (fun c_407_1 => ?_)
    · refine lv_iload hx hb dL_law_412 (lv_at hl 1 rfl) ?_
      refine lv_if_ne (tgt := 429) hx hb dL_law_414 (by decide) (fun c_414_2 => ?_) (fun c_414_2 => ?_)
      · exact absurd c_414_2 (by decide)
      · refine lv_aload_n hx hb dL_law_417 rfl (lv_at hl 6 rfl) ?_
        refine lv_iconst (v := 0) hx hb dL_law_418 (by decide) ?_
        refine xlald hx hb hE.1.1 ho5 dL_law_419 ?_
        refine lv_iload hx hb dL_law_420 (lv_at hl 0 rfl) ?_
        refine lv_i2l hx hb dL_law_422 rfl ?_
        refine W.lcmp hx hb dL_law_423 ?_
        rw [lcmp0]
        refine lv_if_eq (tgt := 429) hx hb dL_law_424 (by decide) (fun c_424_3 => ?_) (fun c_424_3 => ?_)
        · refine lv_goto (tgt := 1851) hx hb dL_law_429 (by decide) ?_
          exact kk H3 locs3 ls _ _ (show cc9 + 3 + 0 + 0 ≤ cc9 + 10 by omega) (show ss9 + 18 + 0 + 0 ≤ ss9 + 300 by omega) hS ⟨ad', σ', τ', qs', nT', nW', f', D', _, ea, hP5, hM5, ho5, hR2, hI2⟩ (lv_sub hl [2, 3, 4, 5, 6] rfl)
        · exact absurd c_424_3 (by decide)
    · exact absurd c_407_1 (by decide)
  · rcases hcode with ⟨eE, rfl⟩ | ⟨eE, rfl⟩
    · skip
      refine lv_istore (lv' := [(5, .int 1), (4, .int (nI (4 * i))), (0, .ref b), (1, .ref (ad 0 0)), (2, .ref (adm 30)), (3, .ref o)]) hx hb dL_law_387 hl (by decide) rfl (fun ls hl => ?_)
      refine lv_aload_n hx hb dL_law_389 rfl (lv_at hl 4 rfl) ?_
      refine lv_aload_n hx hb dL_law_390 rfl (lv_at hl 2 rfl) ?_
      refine lv_iload hx hb dL_law_391 (lv_at hl 1 rfl) ?_
      refine lv_iconst (v := 1) hx hb dL_law_393 (by decide) ?_
      refine lv_iadd hx hb dL_law_394 ?_
      rw [i4_1]
      refine va_sld hx hb hX hbl (Nat.not_le.mpr hbl) hS (vp_in_nI (show 4 * i + 1 < L by omega) (by omega)) dL_law_395 ?_
      rw [nI_clamp (show 4 * i + 1 < 2 ^ 31 by omega)]
      refine hcallV (n := 1) C hE (kR_giveBack l G (fun q => McL adm q ∨ H1.size ≤ q) adm τ (xs (4 * i + 1)) nT hR.1.2.2.2.1 h80.1) wML_L_119 wIM_X6_giveBack wSE_X6_X6_giveBack wIN_X6 wCO_X6_giveBack (by decide) rfl ⟨Nat.le_of_ble_eq_true rfl, Nat.le_of_ble_eq_true rfl⟩ (orec hE hM1.main (show mcl[8]? = some (RX6, TX6, 30) from rfl)) hS (fun q h => h.elim (fun h => hF.2.2 q h) (fun h => Nat.le_trans hS.1 h)) (fun q h => Or.inr h) (hM1.any (fun q h => Or.inl h)) rfl hl.1 (Nat.le_of_ble_eq_true rfl) dL_law_396 ⟨by show cc9 + 3 + 0 ≤ 601024; omega, by show ss9 + 18 + 0 ≤ 7293034; omega⟩ (fun E ce q9 H1 locs1 hx9 _ _ _ _ _ => hx9.elim) (fun v H2 locs2 hv2 hk2 hS => ?_)
      obtain ⟨x9, τ', rfl, hM2, hcm⟩ := hv2
      have hM3 : PM G (McL adm) adm τ' H2 := hM2.any (fun q h => h)
      have ho3 := ho2.kept (hk2.2 _ ho2.lt (fun h => h.elim hF.2.1 (fun h => absurd ho2.lt (Nat.not_lt.mpr h))))
      have hex : EXT G (AxL s.heap.size o adm) ad H1 N 1 τ' := by
        rcases sx_giveBack hR hI hx9 hcm with ⟨e1, z⟩ | ⟨e1, z⟩
        · exact z
        · exact absurd (eE.symm.trans e1) (by decide)
      obtain ⟨e27, ad', σ', qs', nT', nW', f', D', ea, hP3, hR2, hI2⟩ := hex
      have hP4 := hP3.kept hk2 (fun q h hlt h2 => h2.elim h.2.2 (fun h3 => absurd hlt (Nat.not_lt.mpr h3)))
      refine lv_istore (lv' := [(6, .int x9), (5, .int 1), (4, .int (nI (4 * i))), (0, .ref b), (1, .ref (ad 0 0)), (2, .ref (adm 30)), (3, .ref o)]) hx hb dL_law_399 hl (by decide) rfl (fun ls hl => ?_)
      refine lv_aload_n hx hb dL_law_401 rfl (lv_at hl 5 rfl) ?_
      refine hcallV (n := 0) C hE (kM_thrown l G (fun q => H2.size ≤ q) (McL adm) adm τ') wML_L_105 wIM_X6_thrown wSE_X6_X6_thrown wIN_X6 wCO_X6_thrown (by decide) rfl ⟨Nat.le_of_ble_eq_true rfl, Nat.le_of_ble_eq_true rfl⟩ (orec hE hM3.main (show mcl[8]? = some (RX6, TX6, 30) from rfl)) hS (fun q h => Nat.le_trans hS.1 h) (fun q h => h) hM3 rfl hl.1 (Nat.le_of_ble_eq_true rfl) dL_law_402 ⟨by show cc9 + 3 + 0 + 0 ≤ 601024; omega, by show ss9 + 18 + 0 + 0 ≤ 7293034; omega⟩ (fun E ce q9 H1 locs1 hx9 _ _ _ _ _ => hx9.elim) (fun v H3 locs3 hv3 hk3 hS => ?_)
      obtain rfl : v = some (.int 1) := by rw [hv3, e27]
      have hP5 := hP4.old hk3
      have hM5 := hM3.old hk3
      have ho5 := ho3.kept (hk3.2 _ ho3.lt (Nat.not_le.mpr ho3.lt))
      refine lv_iload hx hb dL_law_405 (lv_at hl 1 rfl) ?_
      refine lv_icmp_eq (tgt := 412) hx hb dL_law_407 (by decide) (fun c_407_4 => ?_) (fun c_407_4 => ?_)
      · refine lv_iload hx hb dL_law_412 (lv_at hl 1 rfl) ?_
        refine lv_if_ne (tgt := 429) hx hb dL_law_414 (by decide) (fun c_414_5 => ?_) (fun c_414_5 => ?_)
        · refine lv_goto (tgt := 1851) hx hb dL_law_429 (by decide) ?_
          exact kk H3 locs3 ls _ _ (show cc9 + 3 + 0 + 0 ≤ cc9 + 10 by omega) (show ss9 + 18 + 0 + 0 ≤ ss9 + 300 by omega) hS ⟨ad', σ', τ', qs', nT', nW', f', D', _, ea, hP5, hM5, ho5, hR2, hI2⟩ (lv_sub hl [2, 3, 4, 5, 6] rfl)
        · exact absurd c_414_5 (by decide)
      · exact absurd c_407_4 (by decide)
    · skip
      refine lv_istore (lv' := [(5, .int 2), (4, .int (nI (4 * i))), (0, .ref b), (1, .ref (ad 0 0)), (2, .ref (adm 30)), (3, .ref o)]) hx hb dL_law_387 hl (by decide) rfl (fun ls hl => ?_)
      refine lv_aload_n hx hb dL_law_389 rfl (lv_at hl 4 rfl) ?_
      refine lv_aload_n hx hb dL_law_390 rfl (lv_at hl 2 rfl) ?_
      refine lv_iload hx hb dL_law_391 (lv_at hl 1 rfl) ?_
      refine lv_iconst (v := 1) hx hb dL_law_393 (by decide) ?_
      refine lv_iadd hx hb dL_law_394 ?_
      rw [i4_1]
      refine va_sld hx hb hX hbl (Nat.not_le.mpr hbl) hS (vp_in_nI (show 4 * i + 1 < L by omega) (by omega)) dL_law_395 ?_
      rw [nI_clamp (show 4 * i + 1 < 2 ^ 31 by omega)]
      refine hcallV (n := 1) C hE (kR_giveBack l G (fun q => McL adm q ∨ H1.size ≤ q) adm τ (xs (4 * i + 1)) nT hR.1.2.2.2.1 h80.1) wML_L_119 wIM_X6_giveBack wSE_X6_X6_giveBack wIN_X6 wCO_X6_giveBack (by decide) rfl ⟨Nat.le_of_ble_eq_true rfl, Nat.le_of_ble_eq_true rfl⟩ (orec hE hM1.main (show mcl[8]? = some (RX6, TX6, 30) from rfl)) hS (fun q h => h.elim (fun h => hF.2.2 q h) (fun h => Nat.le_trans hS.1 h)) (fun q h => Or.inr h) (hM1.any (fun q h => Or.inl h)) rfl hl.1 (Nat.le_of_ble_eq_true rfl) dL_law_396 ⟨by show cc9 + 3 + 0 ≤ 601024; omega, by show ss9 + 18 + 0 ≤ 7293034; omega⟩ (fun E ce q9 H1 locs1 hx9 _ _ _ _ _ => hx9.elim) (fun v H2 locs2 hv2 hk2 hS => ?_)
      obtain ⟨x9, τ', rfl, hM2, hcm⟩ := hv2
      have hM3 : PM G (McL adm) adm τ' H2 := hM2.any (fun q h => h)
      have ho3 := ho2.kept (hk2.2 _ ho2.lt (fun h => h.elim hF.2.1 (fun h => absurd ho2.lt (Nat.not_lt.mpr h))))
      have hex : EXT G (AxL s.heap.size o adm) ad H1 N 2 τ' := by
        rcases sx_giveBack hR hI hx9 hcm with ⟨e1, z⟩ | ⟨e1, z⟩
        · exact absurd (eE.symm.trans e1) (by decide)
        · exact z
      obtain ⟨e27, ad', σ', qs', nT', nW', f', D', ea, hP3, hR2, hI2⟩ := hex
      have hP4 := hP3.kept hk2 (fun q h hlt h2 => h2.elim h.2.2 (fun h3 => absurd hlt (Nat.not_lt.mpr h3)))
      refine lv_istore (lv' := [(6, .int x9), (5, .int 2), (4, .int (nI (4 * i))), (0, .ref b), (1, .ref (ad 0 0)), (2, .ref (adm 30)), (3, .ref o)]) hx hb dL_law_399 hl (by decide) rfl (fun ls hl => ?_)
      refine lv_aload_n hx hb dL_law_401 rfl (lv_at hl 5 rfl) ?_
      refine hcallV (n := 0) C hE (kM_thrown l G (fun q => H2.size ≤ q) (McL adm) adm τ') wML_L_105 wIM_X6_thrown wSE_X6_X6_thrown wIN_X6 wCO_X6_thrown (by decide) rfl ⟨Nat.le_of_ble_eq_true rfl, Nat.le_of_ble_eq_true rfl⟩ (orec hE hM3.main (show mcl[8]? = some (RX6, TX6, 30) from rfl)) hS (fun q h => Nat.le_trans hS.1 h) (fun q h => h) hM3 rfl hl.1 (Nat.le_of_ble_eq_true rfl) dL_law_402 ⟨by show cc9 + 3 + 0 + 0 ≤ 601024; omega, by show ss9 + 18 + 0 + 0 ≤ 7293034; omega⟩ (fun E ce q9 H1 locs1 hx9 _ _ _ _ _ => hx9.elim) (fun v H3 locs3 hv3 hk3 hS => ?_)
      obtain rfl : v = some (.int 2) := by rw [hv3, e27]
      have hP5 := hP4.old hk3
      have hM5 := hM3.old hk3
      have ho5 := ho3.kept (hk3.2 _ ho3.lt (Nat.not_le.mpr ho3.lt))
      refine lv_iload hx hb dL_law_405 (lv_at hl 1 rfl) ?_
      refine lv_icmp_eq (tgt := 412) hx hb dL_law_407 (by decide) (fun c_407_6 => ?_) (fun c_407_6 => ?_)
      · refine lv_iload hx hb dL_law_412 (lv_at hl 1 rfl) ?_
        refine lv_if_ne (tgt := 429) hx hb dL_law_414 (by decide) (fun c_414_7 => ?_) (fun c_414_7 => ?_)
        · refine lv_goto (tgt := 1851) hx hb dL_law_429 (by decide) ?_
          exact kk H3 locs3 ls _ _ (show cc9 + 3 + 0 + 0 ≤ cc9 + 10 by omega) (show ss9 + 18 + 0 + 0 ≤ ss9 + 300 by omega) hS ⟨ad', σ', τ', qs', nT', nW', f', D', _, ea, hP5, hM5, ho5, hR2, hI2⟩ (lv_sub hl [2, 3, 4, 5, 6] rfl)
        · exact absurd c_414_7 (by decide)
      · exact absurd c_407_6 (by decide)
set_option maxHeartbeats 4000000 in
set_option maxRecDepth 100000 in
theorem LC_join (l : Launch) (hl9 : l.stackTraces = false) {p : Program} {e : Env} {s : State} {m : MethodId} {below : List Frame} {meth : Method} {c : Code} {b L : Nat} {xs : Nat → Int32} {G : GE} {o a0 : Nat} {adm : Nat → Nat} (C : CallFix p m c cL_law 7 s #[Value.ref b] gTb RL) (hE : EN (fun q => s.heap.size ≤ q) G s s.heap) (hN : NCX s) (hX : va_X b L xs s s.heap) (hbl : b < s.heap.size) (hF : LFX s.heap.size o adm) (hL : L ≤ 2048) {i N cc9 ss9 : Nat} {Qw : State → Prop} {H : Heap} {locs : List Loc} {ls : Array Slot} (hi : 4 * i + 4 ≤ L) (hcc : cc9 ≤ 100 + 10 * i) (hss : ss9 ≤ 2000 + 300 * i) (hN2 : N < 1000) (hS : va_S (fun q => s.heap.size ≤ q) s.heap H locs) (hV : LINV G s.heap.size o a0 adm N H) (hl : lv_has ls 7 [(4, .int (nI (4 * i))), (0, .ref b), (1, .ref a0), (2, .ref (adm 30)), (3, .ref o)])
    (kk : ∀ (H1 : Heap) (locs1 : List Loc) (ls1 : Array Slot) (cc1 ss1 : Nat), cc1 ≤ cc9 + 10 → ss1 ≤ ss9 + 300 → va_S (fun q => s.heap.size ≤ q) s.heap H1 locs1 → LINV G s.heap.size o a0 adm (N + 1) H1 → lv_has ls1 7 [(4, .int (nI (4 * i))), (0, .ref b), (1, .ref a0), (2, .ref (adm 30)), (3, .ref o)] → W p l e room_1 s m #[Value.ref b] below meth c H1 locs1 cc1 ss1 Qw (F0 m 1851 ls1 [])) : W p l e room_1 s m #[Value.ref b] below meth c H locs cc9 ss9 Qw (F0 m 432 ls []) := by
  have hx := C.1
  have hb := C.2.1
  have hown := C.2.2.2.1
  have hts := C.2.2.2.2
  obtain ⟨ad, σ, τ, qs, nT, nW, f, D, y0, rfl, hP, hM, ho9, hR, hI⟩ := hV
  have h80 := hR.n80
  refine lv_aload_n hx hb dL_law_432 rfl (lv_at hl 2 rfl) ?_
  refine lv_aload_n hx hb dL_law_433 rfl (lv_at hl 1 rfl) ?_
  refine lv_iload hx hb dL_law_434 (lv_at hl 0 rfl) ?_
  refine lv_iconst (v := 1) hx hb dL_law_436 (by decide) ?_
  refine lv_iadd hx hb dL_law_437 ?_
  rw [i4_1]
  refine va_sld hx hb hX hbl (Nat.not_le.mpr hbl) hS (vp_in_nI (show 4 * i + 1 < L by omega) (by omega)) dL_law_438 ?_
  rw [nI_clamp (show 4 * i + 1 < 2 ^ 31 by omega)]
  refine lv_aload_n hx hb dL_law_439 rfl (lv_at hl 4 rfl) ?_
  refine hcallH (n := 3) C hE hN (hL_join l G (AxL s.heap.size o adm) (fun q => AxL s.heap.size o adm q ∨ q = o) o (fun q h => Or.inl h) (Or.inr rfl) (fun h => h.2.1 rfl) ad σ qs nT nW hl9 (xs (4 * i + 1))) wML_L_120 wST_L_join wIN_L wCW_L_join (by decide) rfl ⟨Nat.le_of_ble_eq_true rfl, Nat.le_of_ble_eq_true rfl⟩ hS (fun q h => h.elim (fun h => h.1) (fun h => h ▸ hF.1)) (fun q h => Or.inl (AxL.new hM ho9 hS.1 q h)) ⟨hP, ⟨_, ho9⟩, fun q h => AxL.new hM ho9 hS.1 q h⟩ rfl hl.1 (Nat.le_of_ble_eq_true rfl) dL_law_440 ⟨by show cc9 + 2 ≤ 601024; omega, by show ss9 + 12 ≤ 7293034; omega⟩ (fun v H1 locs1 hv hk hS => ?_)
  have hM1 : PM G (McL adm) adm τ H1 := hM.keptL hk (fun q hq h => h.elim (fun h => h.2.2 hq) (fun h => hF.2.1 (h ▸ hq)))
  rcases hv with ⟨x, H0, rfl, hq, ho2, z2, oq2⟩ | ⟨E, hx9, hcode, y2, ho2⟩
  · skip
    refine lv_istore (lv' := [(5, .int 0), (4, .int (nI (4 * i))), (0, .ref b), (1, .ref (ad 0 0)), (2, .ref (adm 30)), (3, .ref o)]) hx hb dL_law_443 hl (by decide) rfl (fun ls hl => ?_)
    refine lv_aload_n hx hb dL_law_445 rfl (lv_at hl 4 rfl) ?_
    refine lv_aload_n hx hb dL_law_446 rfl (lv_at hl 2 rfl) ?_
    refine lv_iload hx hb dL_law_447 (lv_at hl 1 rfl) ?_
    refine lv_iconst (v := 1) hx hb dL_law_449 (by decide) ?_
    refine lv_iadd hx hb dL_law_450 ?_
    rw [i4_1]
    refine va_sld hx hb hX hbl (Nat.not_le.mpr hbl) hS (vp_in_nI (show 4 * i + 1 < L by omega) (by omega)) dL_law_451 ?_
    rw [nI_clamp (show 4 * i + 1 < 2 ^ 31 by omega)]
    refine hcallV (n := 1) C hE (kR_join l G (fun q => McL adm q ∨ H1.size ≤ q) adm τ (xs (4 * i + 1))) wML_L_122 wIM_X6_join wSE_X6_X6_join wIN_X6 wCO_X6_join (by decide) rfl ⟨Nat.le_of_ble_eq_true rfl, Nat.le_of_ble_eq_true rfl⟩ (orec hE hM1.main (show mcl[8]? = some (RX6, TX6, 30) from rfl)) hS (fun q h => h.elim (fun h => hF.2.2 q h) (fun h => Nat.le_trans hS.1 h)) (fun q h => Or.inr h) (hM1.any (fun q h => Or.inl h)) rfl hl.1 (Nat.le_of_ble_eq_true rfl) dL_law_452 ⟨by show cc9 + 2 + 0 ≤ 601024; omega, by show ss9 + 12 + 0 ≤ 7293034; omega⟩ (fun E ce q9 H1 locs1 hx9 _ _ _ _ _ => hx9.elim) (fun v H2 locs2 hv2 hk2 hS => ?_)
    obtain ⟨x9, τ', rfl, hM2, hcm⟩ := hv2
    have hM3 : PM G (McL adm) adm τ' H2 := hM2.any (fun q h => h)
    have ho3 := ho2.kept (hk2.2 _ ho2.lt (fun h => h.elim hF.2.1 (fun h => absurd ho2.lt (Nat.not_lt.mpr h))))
    obtain ⟨e27, ex, ad', σ', qs', nT', nW', f', D', ea, hP2, hR2, hI2⟩ := st_join hR hI hq hcm
    obtain rfl : x = x9 := by cases ex; rfl
    have hP3 := hP2.kept (A1 := fun q => q = o) ⟨Nat.le_of_eq z2.symm, fun q _ hne => oq2 q hne⟩ (fun q h _ e => h.2.1 e)
    have hP4 := hP3.kept hk2 (fun q h hlt h2 => h2.elim h.2.2 (fun h3 => absurd hlt (Nat.not_lt.mpr h3)))
    refine lv_istore (lv' := [(6, .int x), (5, .int 0), (4, .int (nI (4 * i))), (0, .ref b), (1, .ref (ad 0 0)), (2, .ref (adm 30)), (3, .ref o)]) hx hb dL_law_455 hl (by decide) rfl (fun ls hl => ?_)
    refine lv_aload_n hx hb dL_law_457 rfl (lv_at hl 5 rfl) ?_
    refine hcallV (n := 0) C hE (kM_thrown l G (fun q => H2.size ≤ q) (McL adm) adm τ') wML_L_105 wIM_X6_thrown wSE_X6_X6_thrown wIN_X6 wCO_X6_thrown (by decide) rfl ⟨Nat.le_of_ble_eq_true rfl, Nat.le_of_ble_eq_true rfl⟩ (orec hE hM3.main (show mcl[8]? = some (RX6, TX6, 30) from rfl)) hS (fun q h => Nat.le_trans hS.1 h) (fun q h => h) hM3 rfl hl.1 (Nat.le_of_ble_eq_true rfl) dL_law_458 ⟨by show cc9 + 2 + 0 + 0 ≤ 601024; omega, by show ss9 + 12 + 0 + 0 ≤ 7293034; omega⟩ (fun E ce q9 H1 locs1 hx9 _ _ _ _ _ => hx9.elim) (fun v H3 locs3 hv3 hk3 hS => ?_)
    obtain rfl : v = some (.int 0) := by rw [hv3, e27]
    have hP5 := hP4.old hk3
    have hM5 := hM3.old hk3
    have ho5 := ho3.kept (hk3.2 _ ho3.lt (Nat.not_le.mpr ho3.lt))
    refine lv_iload hx hb dL_law_461 (lv_at hl 1 rfl) ?_
    refine lv_icmp_eq (tgt := 468) hx hb dL_law_463 (by decide) (fun c_463_1 => ?_) (fun c_463_1 => ?_)
    · refine lv_iload hx hb dL_law_468 (lv_at hl 1 rfl) ?_
      refine lv_if_ne (tgt := 485) hx hb dL_law_470 (by decide) (fun c_470_2 => ?_) (fun c_470_2 => ?_)
      · exact absurd c_470_2 (by decide)
      · refine lv_aload_n hx hb dL_law_473 rfl (lv_at hl 6 rfl) ?_
        refine lv_iconst (v := 0) hx hb dL_law_474 (by decide) ?_
        refine xlald hx hb hE.1.1 ho5 dL_law_475 ?_
        refine lv_iload hx hb dL_law_476 (lv_at hl 0 rfl) ?_
        refine lv_i2l hx hb dL_law_478 rfl ?_
        refine W.lcmp hx hb dL_law_479 ?_
        rw [lcmp0]
        refine lv_if_eq (tgt := 485) hx hb dL_law_480 (by decide) (fun c_480_3 => ?_) (fun c_480_3 => ?_)
        · refine lv_goto (tgt := 1851) hx hb dL_law_485 (by decide) ?_
          exact kk H3 locs3 ls _ _ (show cc9 + 2 + 0 + 0 ≤ cc9 + 10 by omega) (show ss9 + 12 + 0 + 0 ≤ ss9 + 300 by omega) hS ⟨ad', σ', τ', qs', nT', nW', f', D', _, ea, hP5, hM5, ho5, hR2, hI2⟩ (lv_sub hl [2, 3, 4, 5, 6] rfl)
        · exact absurd c_480_3 (by decide)
    · exact absurd c_463_1 (by decide)
  · rcases hcode with ⟨eE, rfl⟩ | ⟨eE, rfl⟩
    · skip
      refine lv_istore (lv' := [(5, .int 1), (4, .int (nI (4 * i))), (0, .ref b), (1, .ref (ad 0 0)), (2, .ref (adm 30)), (3, .ref o)]) hx hb dL_law_443 hl (by decide) rfl (fun ls hl => ?_)
      refine lv_aload_n hx hb dL_law_445 rfl (lv_at hl 4 rfl) ?_
      refine lv_aload_n hx hb dL_law_446 rfl (lv_at hl 2 rfl) ?_
      refine lv_iload hx hb dL_law_447 (lv_at hl 1 rfl) ?_
      refine lv_iconst (v := 1) hx hb dL_law_449 (by decide) ?_
      refine lv_iadd hx hb dL_law_450 ?_
      rw [i4_1]
      refine va_sld hx hb hX hbl (Nat.not_le.mpr hbl) hS (vp_in_nI (show 4 * i + 1 < L by omega) (by omega)) dL_law_451 ?_
      rw [nI_clamp (show 4 * i + 1 < 2 ^ 31 by omega)]
      refine hcallV (n := 1) C hE (kR_join l G (fun q => McL adm q ∨ H1.size ≤ q) adm τ (xs (4 * i + 1))) wML_L_122 wIM_X6_join wSE_X6_X6_join wIN_X6 wCO_X6_join (by decide) rfl ⟨Nat.le_of_ble_eq_true rfl, Nat.le_of_ble_eq_true rfl⟩ (orec hE hM1.main (show mcl[8]? = some (RX6, TX6, 30) from rfl)) hS (fun q h => h.elim (fun h => hF.2.2 q h) (fun h => Nat.le_trans hS.1 h)) (fun q h => Or.inr h) (hM1.any (fun q h => Or.inl h)) rfl hl.1 (Nat.le_of_ble_eq_true rfl) dL_law_452 ⟨by show cc9 + 2 + 0 ≤ 601024; omega, by show ss9 + 12 + 0 ≤ 7293034; omega⟩ (fun E ce q9 H1 locs1 hx9 _ _ _ _ _ => hx9.elim) (fun v H2 locs2 hv2 hk2 hS => ?_)
      obtain ⟨x9, τ', rfl, hM2, hcm⟩ := hv2
      have hM3 : PM G (McL adm) adm τ' H2 := hM2.any (fun q h => h)
      have ho3 := ho2.kept (hk2.2 _ ho2.lt (fun h => h.elim hF.2.1 (fun h => absurd ho2.lt (Nat.not_lt.mpr h))))
      have hex : EXT G (AxL s.heap.size o adm) ad H1 N 1 τ' := by
        rcases sx_join hR hI hx9 hcm with ⟨e1, z⟩ | ⟨e1, z⟩
        · exact z
        · exact absurd (eE.symm.trans e1) (by decide)
      obtain ⟨e27, ad', σ', qs', nT', nW', f', D', ea, hP3, hR2, hI2⟩ := hex
      have hP4 := hP3.kept hk2 (fun q h hlt h2 => h2.elim h.2.2 (fun h3 => absurd hlt (Nat.not_lt.mpr h3)))
      refine lv_istore (lv' := [(6, .int x9), (5, .int 1), (4, .int (nI (4 * i))), (0, .ref b), (1, .ref (ad 0 0)), (2, .ref (adm 30)), (3, .ref o)]) hx hb dL_law_455 hl (by decide) rfl (fun ls hl => ?_)
      refine lv_aload_n hx hb dL_law_457 rfl (lv_at hl 5 rfl) ?_
      refine hcallV (n := 0) C hE (kM_thrown l G (fun q => H2.size ≤ q) (McL adm) adm τ') wML_L_105 wIM_X6_thrown wSE_X6_X6_thrown wIN_X6 wCO_X6_thrown (by decide) rfl ⟨Nat.le_of_ble_eq_true rfl, Nat.le_of_ble_eq_true rfl⟩ (orec hE hM3.main (show mcl[8]? = some (RX6, TX6, 30) from rfl)) hS (fun q h => Nat.le_trans hS.1 h) (fun q h => h) hM3 rfl hl.1 (Nat.le_of_ble_eq_true rfl) dL_law_458 ⟨by show cc9 + 2 + 0 + 0 ≤ 601024; omega, by show ss9 + 12 + 0 + 0 ≤ 7293034; omega⟩ (fun E ce q9 H1 locs1 hx9 _ _ _ _ _ => hx9.elim) (fun v H3 locs3 hv3 hk3 hS => ?_)
      obtain rfl : v = some (.int 1) := by rw [hv3, e27]
      have hP5 := hP4.old hk3
      have hM5 := hM3.old hk3
      have ho5 := ho3.kept (hk3.2 _ ho3.lt (Nat.not_le.mpr ho3.lt))
      refine lv_iload hx hb dL_law_461 (lv_at hl 1 rfl) ?_
      refine lv_icmp_eq (tgt := 468) hx hb dL_law_463 (by decide) (fun c_463_4 => ?_) (fun c_463_4 => ?_)
      · refine lv_iload hx hb dL_law_468 (lv_at hl 1 rfl) ?_
        refine lv_if_ne (tgt := 485) hx hb dL_law_470 (by decide) (fun c_470_5 => ?_) (fun c_470_5 => ?_)
        · refine lv_goto (tgt := 1851) hx hb dL_law_485 (by decide) ?_
          exact kk H3 locs3 ls _ _ (show cc9 + 2 + 0 + 0 ≤ cc9 + 10 by omega) (show ss9 + 12 + 0 + 0 ≤ ss9 + 300 by omega) hS ⟨ad', σ', τ', qs', nT', nW', f', D', _, ea, hP5, hM5, ho5, hR2, hI2⟩ (lv_sub hl [2, 3, 4, 5, 6] rfl)
        · exact absurd c_470_5 (by decide)
      · exact absurd c_463_4 (by decide)
    · skip
      refine lv_istore (lv' := [(5, .int 2), (4, .int (nI (4 * i))), (0, .ref b), (1, .ref (ad 0 0)), (2, .ref (adm 30)), (3, .ref o)]) hx hb dL_law_443 hl (by decide) rfl (fun ls hl => ?_)
      refine lv_aload_n hx hb dL_law_445 rfl (lv_at hl 4 rfl) ?_
      refine lv_aload_n hx hb dL_law_446 rfl (lv_at hl 2 rfl) ?_
      refine lv_iload hx hb dL_law_447 (lv_at hl 1 rfl) ?_
      refine lv_iconst (v := 1) hx hb dL_law_449 (by decide) ?_
      refine lv_iadd hx hb dL_law_450 ?_
      rw [i4_1]
      refine va_sld hx hb hX hbl (Nat.not_le.mpr hbl) hS (vp_in_nI (show 4 * i + 1 < L by omega) (by omega)) dL_law_451 ?_
      rw [nI_clamp (show 4 * i + 1 < 2 ^ 31 by omega)]
      refine hcallV (n := 1) C hE (kR_join l G (fun q => McL adm q ∨ H1.size ≤ q) adm τ (xs (4 * i + 1))) wML_L_122 wIM_X6_join wSE_X6_X6_join wIN_X6 wCO_X6_join (by decide) rfl ⟨Nat.le_of_ble_eq_true rfl, Nat.le_of_ble_eq_true rfl⟩ (orec hE hM1.main (show mcl[8]? = some (RX6, TX6, 30) from rfl)) hS (fun q h => h.elim (fun h => hF.2.2 q h) (fun h => Nat.le_trans hS.1 h)) (fun q h => Or.inr h) (hM1.any (fun q h => Or.inl h)) rfl hl.1 (Nat.le_of_ble_eq_true rfl) dL_law_452 ⟨by show cc9 + 2 + 0 ≤ 601024; omega, by show ss9 + 12 + 0 ≤ 7293034; omega⟩ (fun E ce q9 H1 locs1 hx9 _ _ _ _ _ => hx9.elim) (fun v H2 locs2 hv2 hk2 hS => ?_)
      obtain ⟨x9, τ', rfl, hM2, hcm⟩ := hv2
      have hM3 : PM G (McL adm) adm τ' H2 := hM2.any (fun q h => h)
      have ho3 := ho2.kept (hk2.2 _ ho2.lt (fun h => h.elim hF.2.1 (fun h => absurd ho2.lt (Nat.not_lt.mpr h))))
      have hex : EXT G (AxL s.heap.size o adm) ad H1 N 2 τ' := by
        rcases sx_join hR hI hx9 hcm with ⟨e1, z⟩ | ⟨e1, z⟩
        · exact absurd (eE.symm.trans e1) (by decide)
        · exact z
      obtain ⟨e27, ad', σ', qs', nT', nW', f', D', ea, hP3, hR2, hI2⟩ := hex
      have hP4 := hP3.kept hk2 (fun q h hlt h2 => h2.elim h.2.2 (fun h3 => absurd hlt (Nat.not_lt.mpr h3)))
      refine lv_istore (lv' := [(6, .int x9), (5, .int 2), (4, .int (nI (4 * i))), (0, .ref b), (1, .ref (ad 0 0)), (2, .ref (adm 30)), (3, .ref o)]) hx hb dL_law_455 hl (by decide) rfl (fun ls hl => ?_)
      refine lv_aload_n hx hb dL_law_457 rfl (lv_at hl 5 rfl) ?_
      refine hcallV (n := 0) C hE (kM_thrown l G (fun q => H2.size ≤ q) (McL adm) adm τ') wML_L_105 wIM_X6_thrown wSE_X6_X6_thrown wIN_X6 wCO_X6_thrown (by decide) rfl ⟨Nat.le_of_ble_eq_true rfl, Nat.le_of_ble_eq_true rfl⟩ (orec hE hM3.main (show mcl[8]? = some (RX6, TX6, 30) from rfl)) hS (fun q h => Nat.le_trans hS.1 h) (fun q h => h) hM3 rfl hl.1 (Nat.le_of_ble_eq_true rfl) dL_law_458 ⟨by show cc9 + 2 + 0 + 0 ≤ 601024; omega, by show ss9 + 12 + 0 + 0 ≤ 7293034; omega⟩ (fun E ce q9 H1 locs1 hx9 _ _ _ _ _ => hx9.elim) (fun v H3 locs3 hv3 hk3 hS => ?_)
      obtain rfl : v = some (.int 2) := by rw [hv3, e27]
      have hP5 := hP4.old hk3
      have hM5 := hM3.old hk3
      have ho5 := ho3.kept (hk3.2 _ ho3.lt (Nat.not_le.mpr ho3.lt))
      refine lv_iload hx hb dL_law_461 (lv_at hl 1 rfl) ?_
      refine lv_icmp_eq (tgt := 468) hx hb dL_law_463 (by decide) (fun c_463_6 => ?_) (fun c_463_6 => ?_)
      · refine lv_iload hx hb dL_law_468 (lv_at hl 1 rfl) ?_
        refine lv_if_ne (tgt := 485) hx hb dL_law_470 (by decide) (fun c_470_7 => ?_) (fun c_470_7 => ?_)
        · refine lv_goto (tgt := 1851) hx hb dL_law_485 (by decide) ?_
          exact kk H3 locs3 ls _ _ (show cc9 + 2 + 0 + 0 ≤ cc9 + 10 by omega) (show ss9 + 12 + 0 + 0 ≤ ss9 + 300 by omega) hS ⟨ad', σ', τ', qs', nT', nW', f', D', _, ea, hP5, hM5, ho5, hR2, hI2⟩ (lv_sub hl [2, 3, 4, 5, 6] rfl)
        · exact absurd c_470_7 (by decide)
      · exact absurd c_463_6 (by decide)
set_option maxHeartbeats 4000000 in
set_option maxRecDepth 100000 in
theorem LC_setCap (l : Launch) (hl9 : l.stackTraces = false) {p : Program} {e : Env} {s : State} {m : MethodId} {below : List Frame} {meth : Method} {c : Code} {b L : Nat} {xs : Nat → Int32} {G : GE} {o a0 : Nat} {adm : Nat → Nat} (C : CallFix p m c cL_law 7 s #[Value.ref b] gTb RL) (hE : EN (fun q => s.heap.size ≤ q) G s s.heap) (hN : NCX s) (hX : va_X b L xs s s.heap) (hbl : b < s.heap.size) (hF : LFX s.heap.size o adm) (hL : L ≤ 2048) {i N cc9 ss9 : Nat} {Qw : State → Prop} {H : Heap} {locs : List Loc} {ls : Array Slot} (hi : 4 * i + 4 ≤ L) (hcc : cc9 ≤ 100 + 10 * i) (hss : ss9 ≤ 2000 + 300 * i) (hN2 : N < 1000) (hS : va_S (fun q => s.heap.size ≤ q) s.heap H locs) (hV : LINV G s.heap.size o a0 adm N H) (hl : lv_has ls 7 [(4, .int (nI (4 * i))), (0, .ref b), (1, .ref a0), (2, .ref (adm 30)), (3, .ref o)])
    (kk : ∀ (H1 : Heap) (locs1 : List Loc) (ls1 : Array Slot) (cc1 ss1 : Nat), cc1 ≤ cc9 + 10 → ss1 ≤ ss9 + 300 → va_S (fun q => s.heap.size ≤ q) s.heap H1 locs1 → LINV G s.heap.size o a0 adm (N + 1) H1 → lv_has ls1 7 [(4, .int (nI (4 * i))), (0, .ref b), (1, .ref a0), (2, .ref (adm 30)), (3, .ref o)] → W p l e room_1 s m #[Value.ref b] below meth c H1 locs1 cc1 ss1 Qw (F0 m 1851 ls1 [])) : W p l e room_1 s m #[Value.ref b] below meth c H locs cc9 ss9 Qw (F0 m 488 ls []) := by
  have hx := C.1
  have hb := C.2.1
  have hown := C.2.2.2.1
  have hts := C.2.2.2.2
  obtain ⟨ad, σ, τ, qs, nT, nW, f, D, y0, rfl, hP, hM, ho9, hR, hI⟩ := hV
  have h80 := hR.n80
  refine lv_aload_n hx hb dL_law_488 rfl (lv_at hl 2 rfl) ?_
  refine lv_aload_n hx hb dL_law_489 rfl (lv_at hl 1 rfl) ?_
  refine lv_iload hx hb dL_law_490 (lv_at hl 0 rfl) ?_
  refine lv_iconst (v := 1) hx hb dL_law_492 (by decide) ?_
  refine lv_iadd hx hb dL_law_493 ?_
  rw [i4_1]
  refine va_sld hx hb hX hbl (Nat.not_le.mpr hbl) hS (vp_in_nI (show 4 * i + 1 < L by omega) (by omega)) dL_law_494 ?_
  rw [nI_clamp (show 4 * i + 1 < 2 ^ 31 by omega)]
  refine lv_aload_n hx hb dL_law_495 rfl (lv_at hl 1 rfl) ?_
  refine lv_iload hx hb dL_law_496 (lv_at hl 0 rfl) ?_
  refine lv_iconst (v := 2) hx hb dL_law_498 (by decide) ?_
  refine lv_iadd hx hb dL_law_499 ?_
  rw [i4_2]
  refine va_sld hx hb hX hbl (Nat.not_le.mpr hbl) hS (vp_in_nI (show 4 * i + 2 < L by omega) (by omega)) dL_law_500 ?_
  rw [nI_clamp (show 4 * i + 2 < 2 ^ 31 by omega)]
  refine lv_aload_n hx hb dL_law_501 rfl (lv_at hl 4 rfl) ?_
  refine hcallH (n := 4) C hE hN (hL_setCap l G (AxL s.heap.size o adm) (fun q => AxL s.heap.size o adm q ∨ q = o) o (fun q h => Or.inl h) (Or.inr rfl) (fun h => h.2.1 rfl) ad σ qs nT nW hl9 (xs (4 * i + 1)) (xs (4 * i + 2)) h80.2.1 (L_wf hR) (L_V100 hR) (L_len hR (by decide))) wML_L_123 wST_L_setCap wIN_L wCW_L_setCap (by decide) rfl ⟨Nat.le_of_ble_eq_true rfl, Nat.le_of_ble_eq_true rfl⟩ hS (fun q h => h.elim (fun h => h.1) (fun h => h ▸ hF.1)) (fun q h => Or.inl (AxL.new hM ho9 hS.1 q h)) ⟨hP, ⟨_, ho9⟩, fun q h => AxL.new hM ho9 hS.1 q h⟩ rfl hl.1 (Nat.le_of_ble_eq_true rfl) dL_law_502 ⟨by show cc9 + 2 ≤ 601024; omega, by show ss9 + 12 ≤ 7293034; omega⟩ (fun v H1 locs1 hv hk hS => ?_)
  have hM1 : PM G (McL adm) adm τ H1 := hM.keptL hk (fun q hq h => h.elim (fun h => h.2.2 hq) (fun h => hF.2.1 (h ▸ hq)))
  rcases hv with ⟨x, H0, rfl, hq, ho2, z2, oq2⟩ | ⟨E, hx9, hcode, y2, ho2⟩
  · skip
    refine lv_istore (lv' := [(5, .int 0), (4, .int (nI (4 * i))), (0, .ref b), (1, .ref (ad 0 0)), (2, .ref (adm 30)), (3, .ref o)]) hx hb dL_law_505 hl (by decide) rfl (fun ls hl => ?_)
    refine lv_aload_n hx hb dL_law_507 rfl (lv_at hl 4 rfl) ?_
    refine lv_aload_n hx hb dL_law_508 rfl (lv_at hl 2 rfl) ?_
    refine lv_iload hx hb dL_law_509 (lv_at hl 1 rfl) ?_
    refine lv_iconst (v := 1) hx hb dL_law_511 (by decide) ?_
    refine lv_iadd hx hb dL_law_512 ?_
    rw [i4_1]
    refine va_sld hx hb hX hbl (Nat.not_le.mpr hbl) hS (vp_in_nI (show 4 * i + 1 < L by omega) (by omega)) dL_law_513 ?_
    rw [nI_clamp (show 4 * i + 1 < 2 ^ 31 by omega)]
    refine lv_aload_n hx hb dL_law_514 rfl (lv_at hl 2 rfl) ?_
    refine lv_iload hx hb dL_law_515 (lv_at hl 1 rfl) ?_
    refine lv_iconst (v := 2) hx hb dL_law_517 (by decide) ?_
    refine lv_iadd hx hb dL_law_518 ?_
    rw [i4_2]
    refine va_sld hx hb hX hbl (Nat.not_le.mpr hbl) hS (vp_in_nI (show 4 * i + 2 < L by omega) (by omega)) dL_law_519 ?_
    rw [nI_clamp (show 4 * i + 2 < 2 ^ 31 by omega)]
    refine hcallV (n := 2) C hE (kR_setCap l G (fun q => McL adm q ∨ H1.size ≤ q) adm τ (xs (4 * i + 1)) (xs (4 * i + 2)) nT hR.1.2.2.2.1 h80.1 nW hR.1.2.2.2.2.1 h80.2.1 (L_wfm hR)) wML_L_125 wIM_X6_setCap wSE_X6_X6_setCap wIN_X6 wCO_X6_setCap (by decide) rfl ⟨Nat.le_of_ble_eq_true rfl, Nat.le_of_ble_eq_true rfl⟩ (orec hE hM1.main (show mcl[8]? = some (RX6, TX6, 30) from rfl)) hS (fun q h => h.elim (fun h => hF.2.2 q h) (fun h => Nat.le_trans hS.1 h)) (fun q h => Or.inr h) (hM1.any (fun q h => Or.inl h)) rfl hl.1 (Nat.le_of_ble_eq_true rfl) dL_law_520 ⟨by show cc9 + 2 + 0 ≤ 601024; omega, by show ss9 + 12 + 0 ≤ 7293034; omega⟩ (fun E ce q9 H1 locs1 hx9 _ _ _ _ _ => hx9.elim) (fun v H2 locs2 hv2 hk2 hS => ?_)
    obtain ⟨x9, τ', rfl, hM2, hcm⟩ := hv2
    have hM3 : PM G (McL adm) adm τ' H2 := hM2.any (fun q h => h)
    have ho3 := ho2.kept (hk2.2 _ ho2.lt (fun h => h.elim hF.2.1 (fun h => absurd ho2.lt (Nat.not_lt.mpr h))))
    obtain ⟨e27, ex, ad', σ', qs', nT', nW', f', D', ea, hP2, hR2, hI2⟩ := st_setCap hR hI hq hcm
    obtain rfl : x = x9 := by cases ex; rfl
    have hP3 := hP2.kept (A1 := fun q => q = o) ⟨Nat.le_of_eq z2.symm, fun q _ hne => oq2 q hne⟩ (fun q h _ e => h.2.1 e)
    have hP4 := hP3.kept hk2 (fun q h hlt h2 => h2.elim h.2.2 (fun h3 => absurd hlt (Nat.not_lt.mpr h3)))
    refine lv_istore (lv' := [(6, .int x), (5, .int 0), (4, .int (nI (4 * i))), (0, .ref b), (1, .ref (ad 0 0)), (2, .ref (adm 30)), (3, .ref o)]) hx hb dL_law_523 hl (by decide) rfl (fun ls hl => ?_)
    refine lv_aload_n hx hb dL_law_525 rfl (lv_at hl 5 rfl) ?_
    refine hcallV (n := 0) C hE (kM_thrown l G (fun q => H2.size ≤ q) (McL adm) adm τ') wML_L_105 wIM_X6_thrown wSE_X6_X6_thrown wIN_X6 wCO_X6_thrown (by decide) rfl ⟨Nat.le_of_ble_eq_true rfl, Nat.le_of_ble_eq_true rfl⟩ (orec hE hM3.main (show mcl[8]? = some (RX6, TX6, 30) from rfl)) hS (fun q h => Nat.le_trans hS.1 h) (fun q h => h) hM3 rfl hl.1 (Nat.le_of_ble_eq_true rfl) dL_law_526 ⟨by show cc9 + 2 + 0 + 0 ≤ 601024; omega, by show ss9 + 12 + 0 + 0 ≤ 7293034; omega⟩ (fun E ce q9 H1 locs1 hx9 _ _ _ _ _ => hx9.elim) (fun v H3 locs3 hv3 hk3 hS => ?_)
    obtain rfl : v = some (.int 0) := by rw [hv3, e27]
    have hP5 := hP4.old hk3
    have hM5 := hM3.old hk3
    have ho5 := ho3.kept (hk3.2 _ ho3.lt (Nat.not_le.mpr ho3.lt))
    refine lv_iload hx hb dL_law_529 (lv_at hl 1 rfl) ?_
    refine lv_icmp_eq (tgt := 536) hx hb dL_law_531 (by decide) (fun c_531_1 => ?_) (fun c_531_1 => ?_)
    · refine lv_iload hx hb dL_law_536 (lv_at hl 1 rfl) ?_
      refine lv_if_ne (tgt := 553) hx hb dL_law_538 (by decide) (fun c_538_2 => ?_) (fun c_538_2 => ?_)
      · exact absurd c_538_2 (by decide)
      · refine lv_aload_n hx hb dL_law_541 rfl (lv_at hl 6 rfl) ?_
        refine lv_iconst (v := 0) hx hb dL_law_542 (by decide) ?_
        refine xlald hx hb hE.1.1 ho5 dL_law_543 ?_
        refine lv_iload hx hb dL_law_544 (lv_at hl 0 rfl) ?_
        refine lv_i2l hx hb dL_law_546 rfl ?_
        refine W.lcmp hx hb dL_law_547 ?_
        rw [lcmp0]
        refine lv_if_eq (tgt := 553) hx hb dL_law_548 (by decide) (fun c_548_3 => ?_) (fun c_548_3 => ?_)
        · refine lv_goto (tgt := 1851) hx hb dL_law_553 (by decide) ?_
          exact kk H3 locs3 ls _ _ (show cc9 + 2 + 0 + 0 ≤ cc9 + 10 by omega) (show ss9 + 12 + 0 + 0 ≤ ss9 + 300 by omega) hS ⟨ad', σ', τ', qs', nT', nW', f', D', _, ea, hP5, hM5, ho5, hR2, hI2⟩ (lv_sub hl [2, 3, 4, 5, 6] rfl)
        · exact absurd c_548_3 (by decide)
    · exact absurd c_531_1 (by decide)
  · rcases hcode with ⟨eE, rfl⟩ | ⟨eE, rfl⟩
    · skip
      refine lv_istore (lv' := [(5, .int 1), (4, .int (nI (4 * i))), (0, .ref b), (1, .ref (ad 0 0)), (2, .ref (adm 30)), (3, .ref o)]) hx hb dL_law_505 hl (by decide) rfl (fun ls hl => ?_)
      refine lv_aload_n hx hb dL_law_507 rfl (lv_at hl 4 rfl) ?_
      refine lv_aload_n hx hb dL_law_508 rfl (lv_at hl 2 rfl) ?_
      refine lv_iload hx hb dL_law_509 (lv_at hl 1 rfl) ?_
      refine lv_iconst (v := 1) hx hb dL_law_511 (by decide) ?_
      refine lv_iadd hx hb dL_law_512 ?_
      rw [i4_1]
      refine va_sld hx hb hX hbl (Nat.not_le.mpr hbl) hS (vp_in_nI (show 4 * i + 1 < L by omega) (by omega)) dL_law_513 ?_
      rw [nI_clamp (show 4 * i + 1 < 2 ^ 31 by omega)]
      refine lv_aload_n hx hb dL_law_514 rfl (lv_at hl 2 rfl) ?_
      refine lv_iload hx hb dL_law_515 (lv_at hl 1 rfl) ?_
      refine lv_iconst (v := 2) hx hb dL_law_517 (by decide) ?_
      refine lv_iadd hx hb dL_law_518 ?_
      rw [i4_2]
      refine va_sld hx hb hX hbl (Nat.not_le.mpr hbl) hS (vp_in_nI (show 4 * i + 2 < L by omega) (by omega)) dL_law_519 ?_
      rw [nI_clamp (show 4 * i + 2 < 2 ^ 31 by omega)]
      refine hcallV (n := 2) C hE (kR_setCap l G (fun q => McL adm q ∨ H1.size ≤ q) adm τ (xs (4 * i + 1)) (xs (4 * i + 2)) nT hR.1.2.2.2.1 h80.1 nW hR.1.2.2.2.2.1 h80.2.1 (L_wfm hR)) wML_L_125 wIM_X6_setCap wSE_X6_X6_setCap wIN_X6 wCO_X6_setCap (by decide) rfl ⟨Nat.le_of_ble_eq_true rfl, Nat.le_of_ble_eq_true rfl⟩ (orec hE hM1.main (show mcl[8]? = some (RX6, TX6, 30) from rfl)) hS (fun q h => h.elim (fun h => hF.2.2 q h) (fun h => Nat.le_trans hS.1 h)) (fun q h => Or.inr h) (hM1.any (fun q h => Or.inl h)) rfl hl.1 (Nat.le_of_ble_eq_true rfl) dL_law_520 ⟨by show cc9 + 2 + 0 ≤ 601024; omega, by show ss9 + 12 + 0 ≤ 7293034; omega⟩ (fun E ce q9 H1 locs1 hx9 _ _ _ _ _ => hx9.elim) (fun v H2 locs2 hv2 hk2 hS => ?_)
      obtain ⟨x9, τ', rfl, hM2, hcm⟩ := hv2
      have hM3 : PM G (McL adm) adm τ' H2 := hM2.any (fun q h => h)
      have ho3 := ho2.kept (hk2.2 _ ho2.lt (fun h => h.elim hF.2.1 (fun h => absurd ho2.lt (Nat.not_lt.mpr h))))
      have hex : EXT G (AxL s.heap.size o adm) ad H1 N 1 τ' := by
        rcases sx_setCap hR hI hx9 hcm with ⟨e1, z⟩ | ⟨e1, z⟩
        · exact z
        · exact absurd (eE.symm.trans e1) (by decide)
      obtain ⟨e27, ad', σ', qs', nT', nW', f', D', ea, hP3, hR2, hI2⟩ := hex
      have hP4 := hP3.kept hk2 (fun q h hlt h2 => h2.elim h.2.2 (fun h3 => absurd hlt (Nat.not_lt.mpr h3)))
      refine lv_istore (lv' := [(6, .int x9), (5, .int 1), (4, .int (nI (4 * i))), (0, .ref b), (1, .ref (ad 0 0)), (2, .ref (adm 30)), (3, .ref o)]) hx hb dL_law_523 hl (by decide) rfl (fun ls hl => ?_)
      refine lv_aload_n hx hb dL_law_525 rfl (lv_at hl 5 rfl) ?_
      refine hcallV (n := 0) C hE (kM_thrown l G (fun q => H2.size ≤ q) (McL adm) adm τ') wML_L_105 wIM_X6_thrown wSE_X6_X6_thrown wIN_X6 wCO_X6_thrown (by decide) rfl ⟨Nat.le_of_ble_eq_true rfl, Nat.le_of_ble_eq_true rfl⟩ (orec hE hM3.main (show mcl[8]? = some (RX6, TX6, 30) from rfl)) hS (fun q h => Nat.le_trans hS.1 h) (fun q h => h) hM3 rfl hl.1 (Nat.le_of_ble_eq_true rfl) dL_law_526 ⟨by show cc9 + 2 + 0 + 0 ≤ 601024; omega, by show ss9 + 12 + 0 + 0 ≤ 7293034; omega⟩ (fun E ce q9 H1 locs1 hx9 _ _ _ _ _ => hx9.elim) (fun v H3 locs3 hv3 hk3 hS => ?_)
      obtain rfl : v = some (.int 1) := by rw [hv3, e27]
      have hP5 := hP4.old hk3
      have hM5 := hM3.old hk3
      have ho5 := ho3.kept (hk3.2 _ ho3.lt (Nat.not_le.mpr ho3.lt))
      refine lv_iload hx hb dL_law_529 (lv_at hl 1 rfl) ?_
      refine lv_icmp_eq (tgt := 536) hx hb dL_law_531 (by decide) (fun c_531_4 => ?_) (fun c_531_4 => ?_)
      · refine lv_iload hx hb dL_law_536 (lv_at hl 1 rfl) ?_
        refine lv_if_ne (tgt := 553) hx hb dL_law_538 (by decide) (fun c_538_5 => ?_) (fun c_538_5 => ?_)
        · refine lv_goto (tgt := 1851) hx hb dL_law_553 (by decide) ?_
          exact kk H3 locs3 ls _ _ (show cc9 + 2 + 0 + 0 ≤ cc9 + 10 by omega) (show ss9 + 12 + 0 + 0 ≤ ss9 + 300 by omega) hS ⟨ad', σ', τ', qs', nT', nW', f', D', _, ea, hP5, hM5, ho5, hR2, hI2⟩ (lv_sub hl [2, 3, 4, 5, 6] rfl)
        · exact absurd c_538_5 (by decide)
      · exact absurd c_531_4 (by decide)
    · skip
      refine lv_istore (lv' := [(5, .int 2), (4, .int (nI (4 * i))), (0, .ref b), (1, .ref (ad 0 0)), (2, .ref (adm 30)), (3, .ref o)]) hx hb dL_law_505 hl (by decide) rfl (fun ls hl => ?_)
      refine lv_aload_n hx hb dL_law_507 rfl (lv_at hl 4 rfl) ?_
      refine lv_aload_n hx hb dL_law_508 rfl (lv_at hl 2 rfl) ?_
      refine lv_iload hx hb dL_law_509 (lv_at hl 1 rfl) ?_
      refine lv_iconst (v := 1) hx hb dL_law_511 (by decide) ?_
      refine lv_iadd hx hb dL_law_512 ?_
      rw [i4_1]
      refine va_sld hx hb hX hbl (Nat.not_le.mpr hbl) hS (vp_in_nI (show 4 * i + 1 < L by omega) (by omega)) dL_law_513 ?_
      rw [nI_clamp (show 4 * i + 1 < 2 ^ 31 by omega)]
      refine lv_aload_n hx hb dL_law_514 rfl (lv_at hl 2 rfl) ?_
      refine lv_iload hx hb dL_law_515 (lv_at hl 1 rfl) ?_
      refine lv_iconst (v := 2) hx hb dL_law_517 (by decide) ?_
      refine lv_iadd hx hb dL_law_518 ?_
      rw [i4_2]
      refine va_sld hx hb hX hbl (Nat.not_le.mpr hbl) hS (vp_in_nI (show 4 * i + 2 < L by omega) (by omega)) dL_law_519 ?_
      rw [nI_clamp (show 4 * i + 2 < 2 ^ 31 by omega)]
      refine hcallV (n := 2) C hE (kR_setCap l G (fun q => McL adm q ∨ H1.size ≤ q) adm τ (xs (4 * i + 1)) (xs (4 * i + 2)) nT hR.1.2.2.2.1 h80.1 nW hR.1.2.2.2.2.1 h80.2.1 (L_wfm hR)) wML_L_125 wIM_X6_setCap wSE_X6_X6_setCap wIN_X6 wCO_X6_setCap (by decide) rfl ⟨Nat.le_of_ble_eq_true rfl, Nat.le_of_ble_eq_true rfl⟩ (orec hE hM1.main (show mcl[8]? = some (RX6, TX6, 30) from rfl)) hS (fun q h => h.elim (fun h => hF.2.2 q h) (fun h => Nat.le_trans hS.1 h)) (fun q h => Or.inr h) (hM1.any (fun q h => Or.inl h)) rfl hl.1 (Nat.le_of_ble_eq_true rfl) dL_law_520 ⟨by show cc9 + 2 + 0 ≤ 601024; omega, by show ss9 + 12 + 0 ≤ 7293034; omega⟩ (fun E ce q9 H1 locs1 hx9 _ _ _ _ _ => hx9.elim) (fun v H2 locs2 hv2 hk2 hS => ?_)
      obtain ⟨x9, τ', rfl, hM2, hcm⟩ := hv2
      have hM3 : PM G (McL adm) adm τ' H2 := hM2.any (fun q h => h)
      have ho3 := ho2.kept (hk2.2 _ ho2.lt (fun h => h.elim hF.2.1 (fun h => absurd ho2.lt (Nat.not_lt.mpr h))))
      have hex : EXT G (AxL s.heap.size o adm) ad H1 N 2 τ' := by
        rcases sx_setCap hR hI hx9 hcm with ⟨e1, z⟩ | ⟨e1, z⟩
        · exact absurd (eE.symm.trans e1) (by decide)
        · exact z
      obtain ⟨e27, ad', σ', qs', nT', nW', f', D', ea, hP3, hR2, hI2⟩ := hex
      have hP4 := hP3.kept hk2 (fun q h hlt h2 => h2.elim h.2.2 (fun h3 => absurd hlt (Nat.not_lt.mpr h3)))
      refine lv_istore (lv' := [(6, .int x9), (5, .int 2), (4, .int (nI (4 * i))), (0, .ref b), (1, .ref (ad 0 0)), (2, .ref (adm 30)), (3, .ref o)]) hx hb dL_law_523 hl (by decide) rfl (fun ls hl => ?_)
      refine lv_aload_n hx hb dL_law_525 rfl (lv_at hl 5 rfl) ?_
      refine hcallV (n := 0) C hE (kM_thrown l G (fun q => H2.size ≤ q) (McL adm) adm τ') wML_L_105 wIM_X6_thrown wSE_X6_X6_thrown wIN_X6 wCO_X6_thrown (by decide) rfl ⟨Nat.le_of_ble_eq_true rfl, Nat.le_of_ble_eq_true rfl⟩ (orec hE hM3.main (show mcl[8]? = some (RX6, TX6, 30) from rfl)) hS (fun q h => Nat.le_trans hS.1 h) (fun q h => h) hM3 rfl hl.1 (Nat.le_of_ble_eq_true rfl) dL_law_526 ⟨by show cc9 + 2 + 0 + 0 ≤ 601024; omega, by show ss9 + 12 + 0 + 0 ≤ 7293034; omega⟩ (fun E ce q9 H1 locs1 hx9 _ _ _ _ _ => hx9.elim) (fun v H3 locs3 hv3 hk3 hS => ?_)
      obtain rfl : v = some (.int 2) := by rw [hv3, e27]
      have hP5 := hP4.old hk3
      have hM5 := hM3.old hk3
      have ho5 := ho3.kept (hk3.2 _ ho3.lt (Nat.not_le.mpr ho3.lt))
      refine lv_iload hx hb dL_law_529 (lv_at hl 1 rfl) ?_
      refine lv_icmp_eq (tgt := 536) hx hb dL_law_531 (by decide) (fun c_531_6 => ?_) (fun c_531_6 => ?_)
      · refine lv_iload hx hb dL_law_536 (lv_at hl 1 rfl) ?_
        refine lv_if_ne (tgt := 553) hx hb dL_law_538 (by decide) (fun c_538_7 => ?_) (fun c_538_7 => ?_)
        · refine lv_goto (tgt := 1851) hx hb dL_law_553 (by decide) ?_
          exact kk H3 locs3 ls _ _ (show cc9 + 2 + 0 + 0 ≤ cc9 + 10 by omega) (show ss9 + 12 + 0 + 0 ≤ ss9 + 300 by omega) hS ⟨ad', σ', τ', qs', nT', nW', f', D', _, ea, hP5, hM5, ho5, hR2, hI2⟩ (lv_sub hl [2, 3, 4, 5, 6] rfl)
        · exact absurd c_538_7 (by decide)
      · exact absurd c_531_6 (by decide)
set_option maxHeartbeats 4000000 in
set_option maxRecDepth 100000 in
theorem LC_close (l : Launch) (hl9 : l.stackTraces = false) {p : Program} {e : Env} {s : State} {m : MethodId} {below : List Frame} {meth : Method} {c : Code} {b L : Nat} {xs : Nat → Int32} {G : GE} {o a0 : Nat} {adm : Nat → Nat} (C : CallFix p m c cL_law 7 s #[Value.ref b] gTb RL) (hE : EN (fun q => s.heap.size ≤ q) G s s.heap) (hN : NCX s) (hX : va_X b L xs s s.heap) (hbl : b < s.heap.size) (hF : LFX s.heap.size o adm) (hL : L ≤ 2048) {i N cc9 ss9 : Nat} {Qw : State → Prop} {H : Heap} {locs : List Loc} {ls : Array Slot} (hi : 4 * i + 4 ≤ L) (hcc : cc9 ≤ 100 + 10 * i) (hss : ss9 ≤ 2000 + 300 * i) (hN2 : N < 1000) (hS : va_S (fun q => s.heap.size ≤ q) s.heap H locs) (hV : LINV G s.heap.size o a0 adm N H) (hl : lv_has ls 7 [(4, .int (nI (4 * i))), (0, .ref b), (1, .ref a0), (2, .ref (adm 30)), (3, .ref o)])
    (kk : ∀ (H1 : Heap) (locs1 : List Loc) (ls1 : Array Slot) (cc1 ss1 : Nat), cc1 ≤ cc9 + 10 → ss1 ≤ ss9 + 300 → va_S (fun q => s.heap.size ≤ q) s.heap H1 locs1 → LINV G s.heap.size o a0 adm (N + 1) H1 → lv_has ls1 7 [(4, .int (nI (4 * i))), (0, .ref b), (1, .ref a0), (2, .ref (adm 30)), (3, .ref o)] → W p l e room_1 s m #[Value.ref b] below meth c H1 locs1 cc1 ss1 Qw (F0 m 1851 ls1 [])) : W p l e room_1 s m #[Value.ref b] below meth c H locs cc9 ss9 Qw (F0 m 556 ls []) := by
  have hx := C.1
  have hb := C.2.1
  have hown := C.2.2.2.1
  have hts := C.2.2.2.2
  obtain ⟨ad, σ, τ, qs, nT, nW, f, D, y0, rfl, hP, hM, ho9, hR, hI⟩ := hV
  have h80 := hR.n80
  refine lv_aload_n hx hb dL_law_556 rfl (lv_at hl 2 rfl) ?_
  refine lv_aload_n hx hb dL_law_557 rfl (lv_at hl 1 rfl) ?_
  refine lv_iload hx hb dL_law_558 (lv_at hl 0 rfl) ?_
  refine lv_iconst (v := 1) hx hb dL_law_560 (by decide) ?_
  refine lv_iadd hx hb dL_law_561 ?_
  rw [i4_1]
  refine va_sld hx hb hX hbl (Nat.not_le.mpr hbl) hS (vp_in_nI (show 4 * i + 1 < L by omega) (by omega)) dL_law_562 ?_
  rw [nI_clamp (show 4 * i + 1 < 2 ^ 31 by omega)]
  refine lv_aload_n hx hb dL_law_563 rfl (lv_at hl 1 rfl) ?_
  refine lv_iload hx hb dL_law_564 (lv_at hl 0 rfl) ?_
  refine lv_iconst (v := 2) hx hb dL_law_566 (by decide) ?_
  refine lv_iadd hx hb dL_law_567 ?_
  rw [i4_2]
  refine va_sld hx hb hX hbl (Nat.not_le.mpr hbl) hS (vp_in_nI (show 4 * i + 2 < L by omega) (by omega)) dL_law_568 ?_
  rw [nI_clamp (show 4 * i + 2 < 2 ^ 31 by omega)]
  refine lv_if_eq (tgt := 576) hx hb dL_law_569 (by decide) (fun c_569_1 => ?_) (fun c_569_1 => ?_)
  · refine lv_iconst (v := 0) hx hb dL_law_576 (by decide) ?_
    refine lv_aload_n hx hb dL_law_577 rfl (lv_at hl 4 rfl) ?_
    refine hcallH (n := 4) C hE hN (hL_close l G (AxL s.heap.size o adm) (fun q => AxL s.heap.size o adm q ∨ q = o) o (fun q h => Or.inl h) (Or.inr rfl) (fun h => h.2.1 rfl) ad σ qs nT nW hl9 (xs (4 * i + 1)) false f hR.1.1 h80.2.2 h80.1) wML_L_126 wST_L_close wIN_L wCW_L_close (by decide) rfl ⟨Nat.le_of_ble_eq_true rfl, Nat.le_of_ble_eq_true rfl⟩ hS (fun q h => h.elim (fun h => h.1) (fun h => h ▸ hF.1)) (fun q h => Or.inl (AxL.new hM ho9 hS.1 q h)) ⟨hP, ⟨_, ho9⟩, fun q h => AxL.new hM ho9 hS.1 q h⟩ rfl hl.1 (Nat.le_of_ble_eq_true rfl) dL_law_578 ⟨by show cc9 + 1 ≤ 601024; omega, by show ss9 + 6 ≤ 7293034; omega⟩ (fun v H1 locs1 hv hk hS => ?_)
    have hM1 : PM G (McL adm) adm τ H1 := hM.keptL hk (fun q hq h => h.elim (fun h => h.2.2 hq) (fun h => hF.2.1 (h ▸ hq)))
    rcases hv with ⟨x, H0, rfl, hq, ho2, z2, oq2⟩ | ⟨E, hx9, hcode, y2, ho2⟩
    · skip
      refine lv_istore (lv' := [(5, .int 0), (4, .int (nI (4 * i))), (0, .ref b), (1, .ref (ad 0 0)), (2, .ref (adm 30)), (3, .ref o)]) hx hb dL_law_581 hl (by decide) rfl (fun ls hl => ?_)
      refine lv_aload_n hx hb dL_law_583 rfl (lv_at hl 4 rfl) ?_
      refine lv_aload_n hx hb dL_law_584 rfl (lv_at hl 2 rfl) ?_
      refine lv_iload hx hb dL_law_585 (lv_at hl 1 rfl) ?_
      refine lv_iconst (v := 1) hx hb dL_law_587 (by decide) ?_
      refine lv_iadd hx hb dL_law_588 ?_
      rw [i4_1]
      refine va_sld hx hb hX hbl (Nat.not_le.mpr hbl) hS (vp_in_nI (show 4 * i + 1 < L by omega) (by omega)) dL_law_589 ?_
      rw [nI_clamp (show 4 * i + 1 < 2 ^ 31 by omega)]
      refine lv_aload_n hx hb dL_law_590 rfl (lv_at hl 2 rfl) ?_
      refine lv_iload hx hb dL_law_591 (lv_at hl 1 rfl) ?_
      refine lv_iconst (v := 2) hx hb dL_law_593 (by decide) ?_
      refine lv_iadd hx hb dL_law_594 ?_
      rw [i4_2]
      refine va_sld hx hb hX hbl (Nat.not_le.mpr hbl) hS (vp_in_nI (show 4 * i + 2 < L by omega) (by omega)) dL_law_595 ?_
      rw [nI_clamp (show 4 * i + 2 < 2 ^ 31 by omega)]
      refine lv_if_eq (tgt := 603) hx hb dL_law_596 (by decide) (fun c_596_2 => ?_) (fun c_596_2 => ?_)
      · refine lv_iconst (v := 0) hx hb dL_law_603 (by decide) ?_
        refine hcallV (n := 2) C hE (kR_close l G (fun q => McL adm q ∨ H1.size ≤ q) adm τ (xs (4 * i + 1)) false nT hR.1.2.2.2.1 h80.1) wML_L_128 wIM_X6_close wSE_X6_X6_close wIN_X6 wCO_X6_close (by decide) rfl ⟨Nat.le_of_ble_eq_true rfl, Nat.le_of_ble_eq_true rfl⟩ (orec hE hM1.main (show mcl[8]? = some (RX6, TX6, 30) from rfl)) hS (fun q h => h.elim (fun h => hF.2.2 q h) (fun h => Nat.le_trans hS.1 h)) (fun q h => Or.inr h) (hM1.any (fun q h => Or.inl h)) rfl hl.1 (Nat.le_of_ble_eq_true rfl) dL_law_604 ⟨by show cc9 + 1 + 0 ≤ 601024; omega, by show ss9 + 6 + 0 ≤ 7293034; omega⟩ (fun E ce q9 H1 locs1 hx9 _ _ _ _ _ => hx9.elim) (fun v H2 locs2 hv2 hk2 hS => ?_)
        obtain ⟨x9, τ', rfl, hM2, hcm⟩ := hv2
        have hM3 : PM G (McL adm) adm τ' H2 := hM2.any (fun q h => h)
        have ho3 := ho2.kept (hk2.2 _ ho2.lt (fun h => h.elim hF.2.1 (fun h => absurd ho2.lt (Nat.not_lt.mpr h))))
        obtain ⟨e27, ex, ad', σ', qs', nT', nW', f', D', ea, hP2, hR2, hI2⟩ := st_close hR hI hq hcm
        obtain rfl : x = x9 := by cases ex; rfl
        have hP3 := hP2.kept (A1 := fun q => q = o) ⟨Nat.le_of_eq z2.symm, fun q _ hne => oq2 q hne⟩ (fun q h _ e => h.2.1 e)
        have hP4 := hP3.kept hk2 (fun q h hlt h2 => h2.elim h.2.2 (fun h3 => absurd hlt (Nat.not_lt.mpr h3)))
        refine lv_istore (lv' := [(6, .int x), (5, .int 0), (4, .int (nI (4 * i))), (0, .ref b), (1, .ref (ad 0 0)), (2, .ref (adm 30)), (3, .ref o)]) hx hb dL_law_607 hl (by decide) rfl (fun ls hl => ?_)
        refine lv_aload_n hx hb dL_law_609 rfl (lv_at hl 5 rfl) ?_
        refine hcallV (n := 0) C hE (kM_thrown l G (fun q => H2.size ≤ q) (McL adm) adm τ') wML_L_105 wIM_X6_thrown wSE_X6_X6_thrown wIN_X6 wCO_X6_thrown (by decide) rfl ⟨Nat.le_of_ble_eq_true rfl, Nat.le_of_ble_eq_true rfl⟩ (orec hE hM3.main (show mcl[8]? = some (RX6, TX6, 30) from rfl)) hS (fun q h => Nat.le_trans hS.1 h) (fun q h => h) hM3 rfl hl.1 (Nat.le_of_ble_eq_true rfl) dL_law_610 ⟨by show cc9 + 1 + 0 + 0 ≤ 601024; omega, by show ss9 + 6 + 0 + 0 ≤ 7293034; omega⟩ (fun E ce q9 H1 locs1 hx9 _ _ _ _ _ => hx9.elim) (fun v H3 locs3 hv3 hk3 hS => ?_)
        obtain rfl : v = some (.int 0) := by rw [hv3, e27]
        have hP5 := hP4.old hk3
        have hM5 := hM3.old hk3
        have ho5 := ho3.kept (hk3.2 _ ho3.lt (Nat.not_le.mpr ho3.lt))
        refine lv_iload hx hb dL_law_613 (lv_at hl 1 rfl) ?_
        refine lv_icmp_eq (tgt := 620) hx hb dL_law_615 (by decide) (fun c_615_3 => ?_) (fun c_615_3 => ?_)
        · refine lv_iload hx hb dL_law_620 (lv_at hl 1 rfl) ?_
          refine lv_if_ne (tgt := 637) hx hb dL_law_622 (by decide) (fun c_622_4 => ?_) (fun c_622_4 => ?_)
          · exact absurd c_622_4 (by decide)
          · refine lv_aload_n hx hb dL_law_625 rfl (lv_at hl 6 rfl) ?_
            refine lv_iconst (v := 0) hx hb dL_law_626 (by decide) ?_
            refine xlald hx hb hE.1.1 ho5 dL_law_627 ?_
            refine lv_iload hx hb dL_law_628 (lv_at hl 0 rfl) ?_
            refine lv_i2l hx hb dL_law_630 rfl ?_
            refine W.lcmp hx hb dL_law_631 ?_
            rw [lcmp0]
            refine lv_if_eq (tgt := 637) hx hb dL_law_632 (by decide) (fun c_632_5 => ?_) (fun c_632_5 => ?_)
            · refine lv_goto (tgt := 1851) hx hb dL_law_637 (by decide) ?_
              exact kk H3 locs3 ls _ _ (show cc9 + 1 + 0 + 0 ≤ cc9 + 10 by omega) (show ss9 + 6 + 0 + 0 ≤ ss9 + 300 by omega) hS ⟨ad', σ', τ', qs', nT', nW', f', D', _, ea, hP5, hM5, ho5, hR2, hI2⟩ (lv_sub hl [2, 3, 4, 5, 6] rfl)
            · exact absurd c_632_5 (by decide)
        · exact absurd c_615_3 (by decide)
      · exact absurd c_569_1 c_596_2
    · obtain ⟨eE, rfl⟩ := hcode
      refine lv_istore (lv' := [(5, .int 1), (4, .int (nI (4 * i))), (0, .ref b), (1, .ref (ad 0 0)), (2, .ref (adm 30)), (3, .ref o)]) hx hb dL_law_581 hl (by decide) rfl (fun ls hl => ?_)
      refine lv_aload_n hx hb dL_law_583 rfl (lv_at hl 4 rfl) ?_
      refine lv_aload_n hx hb dL_law_584 rfl (lv_at hl 2 rfl) ?_
      refine lv_iload hx hb dL_law_585 (lv_at hl 1 rfl) ?_
      refine lv_iconst (v := 1) hx hb dL_law_587 (by decide) ?_
      refine lv_iadd hx hb dL_law_588 ?_
      rw [i4_1]
      refine va_sld hx hb hX hbl (Nat.not_le.mpr hbl) hS (vp_in_nI (show 4 * i + 1 < L by omega) (by omega)) dL_law_589 ?_
      rw [nI_clamp (show 4 * i + 1 < 2 ^ 31 by omega)]
      refine lv_aload_n hx hb dL_law_590 rfl (lv_at hl 2 rfl) ?_
      refine lv_iload hx hb dL_law_591 (lv_at hl 1 rfl) ?_
      refine lv_iconst (v := 2) hx hb dL_law_593 (by decide) ?_
      refine lv_iadd hx hb dL_law_594 ?_
      rw [i4_2]
      refine va_sld hx hb hX hbl (Nat.not_le.mpr hbl) hS (vp_in_nI (show 4 * i + 2 < L by omega) (by omega)) dL_law_595 ?_
      rw [nI_clamp (show 4 * i + 2 < 2 ^ 31 by omega)]
      refine lv_if_eq (tgt := 603) hx hb dL_law_596 (by decide) (fun c_596_6 => ?_) (fun c_596_6 => ?_)
      · refine lv_iconst (v := 0) hx hb dL_law_603 (by decide) ?_
        refine hcallV (n := 2) C hE (kR_close l G (fun q => McL adm q ∨ H1.size ≤ q) adm τ (xs (4 * i + 1)) false nT hR.1.2.2.2.1 h80.1) wML_L_128 wIM_X6_close wSE_X6_X6_close wIN_X6 wCO_X6_close (by decide) rfl ⟨Nat.le_of_ble_eq_true rfl, Nat.le_of_ble_eq_true rfl⟩ (orec hE hM1.main (show mcl[8]? = some (RX6, TX6, 30) from rfl)) hS (fun q h => h.elim (fun h => hF.2.2 q h) (fun h => Nat.le_trans hS.1 h)) (fun q h => Or.inr h) (hM1.any (fun q h => Or.inl h)) rfl hl.1 (Nat.le_of_ble_eq_true rfl) dL_law_604 ⟨by show cc9 + 1 + 0 ≤ 601024; omega, by show ss9 + 6 + 0 ≤ 7293034; omega⟩ (fun E ce q9 H1 locs1 hx9 _ _ _ _ _ => hx9.elim) (fun v H2 locs2 hv2 hk2 hS => ?_)
        obtain ⟨x9, τ', rfl, hM2, hcm⟩ := hv2
        have hM3 : PM G (McL adm) adm τ' H2 := hM2.any (fun q h => h)
        have ho3 := ho2.kept (hk2.2 _ ho2.lt (fun h => h.elim hF.2.1 (fun h => absurd ho2.lt (Nat.not_lt.mpr h))))
        have hex : EXT G (AxL s.heap.size o adm) ad H1 N 1 τ' := (sx_close hR hI hx9 hcm).2
        obtain ⟨e27, ad', σ', qs', nT', nW', f', D', ea, hP3, hR2, hI2⟩ := hex
        have hP4 := hP3.kept hk2 (fun q h hlt h2 => h2.elim h.2.2 (fun h3 => absurd hlt (Nat.not_lt.mpr h3)))
        refine lv_istore (lv' := [(6, .int x9), (5, .int 1), (4, .int (nI (4 * i))), (0, .ref b), (1, .ref (ad 0 0)), (2, .ref (adm 30)), (3, .ref o)]) hx hb dL_law_607 hl (by decide) rfl (fun ls hl => ?_)
        refine lv_aload_n hx hb dL_law_609 rfl (lv_at hl 5 rfl) ?_
        refine hcallV (n := 0) C hE (kM_thrown l G (fun q => H2.size ≤ q) (McL adm) adm τ') wML_L_105 wIM_X6_thrown wSE_X6_X6_thrown wIN_X6 wCO_X6_thrown (by decide) rfl ⟨Nat.le_of_ble_eq_true rfl, Nat.le_of_ble_eq_true rfl⟩ (orec hE hM3.main (show mcl[8]? = some (RX6, TX6, 30) from rfl)) hS (fun q h => Nat.le_trans hS.1 h) (fun q h => h) hM3 rfl hl.1 (Nat.le_of_ble_eq_true rfl) dL_law_610 ⟨by show cc9 + 1 + 0 + 0 ≤ 601024; omega, by show ss9 + 6 + 0 + 0 ≤ 7293034; omega⟩ (fun E ce q9 H1 locs1 hx9 _ _ _ _ _ => hx9.elim) (fun v H3 locs3 hv3 hk3 hS => ?_)
        obtain rfl : v = some (.int 1) := by rw [hv3, e27]
        have hP5 := hP4.old hk3
        have hM5 := hM3.old hk3
        have ho5 := ho3.kept (hk3.2 _ ho3.lt (Nat.not_le.mpr ho3.lt))
        refine lv_iload hx hb dL_law_613 (lv_at hl 1 rfl) ?_
        refine lv_icmp_eq (tgt := 620) hx hb dL_law_615 (by decide) (fun c_615_7 => ?_) (fun c_615_7 => ?_)
        · refine lv_iload hx hb dL_law_620 (lv_at hl 1 rfl) ?_
          refine lv_if_ne (tgt := 637) hx hb dL_law_622 (by decide) (fun c_622_8 => ?_) (fun c_622_8 => ?_)
          · refine lv_goto (tgt := 1851) hx hb dL_law_637 (by decide) ?_
            exact kk H3 locs3 ls _ _ (show cc9 + 1 + 0 + 0 ≤ cc9 + 10 by omega) (show ss9 + 6 + 0 + 0 ≤ ss9 + 300 by omega) hS ⟨ad', σ', τ', qs', nT', nW', f', D', _, ea, hP5, hM5, ho5, hR2, hI2⟩ (lv_sub hl [2, 3, 4, 5, 6] rfl)
          · exact absurd c_622_8 (by decide)
        · exact absurd c_615_7 (by decide)
      · exact absurd c_569_1 c_596_6
  · refine lv_iconst (v := 1) hx hb dL_law_572 (by decide) ?_
    refine lv_goto (tgt := 577) hx hb dL_law_573 (by decide) ?_
    refine lv_aload_n hx hb dL_law_577 rfl (lv_at hl 4 rfl) ?_
    refine hcallH (n := 4) C hE hN (hL_close l G (AxL s.heap.size o adm) (fun q => AxL s.heap.size o adm q ∨ q = o) o (fun q h => Or.inl h) (Or.inr rfl) (fun h => h.2.1 rfl) ad σ qs nT nW hl9 (xs (4 * i + 1)) true f hR.1.1 h80.2.2 h80.1) wML_L_126 wST_L_close wIN_L wCW_L_close (by decide) rfl ⟨Nat.le_of_ble_eq_true rfl, Nat.le_of_ble_eq_true rfl⟩ hS (fun q h => h.elim (fun h => h.1) (fun h => h ▸ hF.1)) (fun q h => Or.inl (AxL.new hM ho9 hS.1 q h)) ⟨hP, ⟨_, ho9⟩, fun q h => AxL.new hM ho9 hS.1 q h⟩ rfl hl.1 (Nat.le_of_ble_eq_true rfl) dL_law_578 ⟨by show cc9 + 1 ≤ 601024; omega, by show ss9 + 6 ≤ 7293034; omega⟩ (fun v H1 locs1 hv hk hS => ?_)
    have hM1 : PM G (McL adm) adm τ H1 := hM.keptL hk (fun q hq h => h.elim (fun h => h.2.2 hq) (fun h => hF.2.1 (h ▸ hq)))
    rcases hv with ⟨x, H0, rfl, hq, ho2, z2, oq2⟩ | ⟨E, hx9, hcode, y2, ho2⟩
    · skip
      refine lv_istore (lv' := [(5, .int 0), (4, .int (nI (4 * i))), (0, .ref b), (1, .ref (ad 0 0)), (2, .ref (adm 30)), (3, .ref o)]) hx hb dL_law_581 hl (by decide) rfl (fun ls hl => ?_)
      refine lv_aload_n hx hb dL_law_583 rfl (lv_at hl 4 rfl) ?_
      refine lv_aload_n hx hb dL_law_584 rfl (lv_at hl 2 rfl) ?_
      refine lv_iload hx hb dL_law_585 (lv_at hl 1 rfl) ?_
      refine lv_iconst (v := 1) hx hb dL_law_587 (by decide) ?_
      refine lv_iadd hx hb dL_law_588 ?_
      rw [i4_1]
      refine va_sld hx hb hX hbl (Nat.not_le.mpr hbl) hS (vp_in_nI (show 4 * i + 1 < L by omega) (by omega)) dL_law_589 ?_
      rw [nI_clamp (show 4 * i + 1 < 2 ^ 31 by omega)]
      refine lv_aload_n hx hb dL_law_590 rfl (lv_at hl 2 rfl) ?_
      refine lv_iload hx hb dL_law_591 (lv_at hl 1 rfl) ?_
      refine lv_iconst (v := 2) hx hb dL_law_593 (by decide) ?_
      refine lv_iadd hx hb dL_law_594 ?_
      rw [i4_2]
      refine va_sld hx hb hX hbl (Nat.not_le.mpr hbl) hS (vp_in_nI (show 4 * i + 2 < L by omega) (by omega)) dL_law_595 ?_
      rw [nI_clamp (show 4 * i + 2 < 2 ^ 31 by omega)]
      refine lv_if_eq (tgt := 603) hx hb dL_law_596 (by decide) (fun c_596_9 => ?_) (fun c_596_9 => ?_)
      · exact absurd c_596_9 c_569_1
      · refine lv_iconst (v := 1) hx hb dL_law_599 (by decide) ?_
        refine lv_goto (tgt := 604) hx hb dL_law_600 (by decide) ?_
        refine hcallV (n := 2) C hE (kR_close l G (fun q => McL adm q ∨ H1.size ≤ q) adm τ (xs (4 * i + 1)) true nT hR.1.2.2.2.1 h80.1) wML_L_128 wIM_X6_close wSE_X6_X6_close wIN_X6 wCO_X6_close (by decide) rfl ⟨Nat.le_of_ble_eq_true rfl, Nat.le_of_ble_eq_true rfl⟩ (orec hE hM1.main (show mcl[8]? = some (RX6, TX6, 30) from rfl)) hS (fun q h => h.elim (fun h => hF.2.2 q h) (fun h => Nat.le_trans hS.1 h)) (fun q h => Or.inr h) (hM1.any (fun q h => Or.inl h)) rfl hl.1 (Nat.le_of_ble_eq_true rfl) dL_law_604 ⟨by show cc9 + 1 + 0 ≤ 601024; omega, by show ss9 + 6 + 0 ≤ 7293034; omega⟩ (fun E ce q9 H1 locs1 hx9 _ _ _ _ _ => hx9.elim) (fun v H2 locs2 hv2 hk2 hS => ?_)
        obtain ⟨x9, τ', rfl, hM2, hcm⟩ := hv2
        have hM3 : PM G (McL adm) adm τ' H2 := hM2.any (fun q h => h)
        have ho3 := ho2.kept (hk2.2 _ ho2.lt (fun h => h.elim hF.2.1 (fun h => absurd ho2.lt (Nat.not_lt.mpr h))))
        obtain ⟨e27, ex, ad', σ', qs', nT', nW', f', D', ea, hP2, hR2, hI2⟩ := st_close hR hI hq hcm
        obtain rfl : x = x9 := by cases ex; rfl
        have hP3 := hP2.kept (A1 := fun q => q = o) ⟨Nat.le_of_eq z2.symm, fun q _ hne => oq2 q hne⟩ (fun q h _ e => h.2.1 e)
        have hP4 := hP3.kept hk2 (fun q h hlt h2 => h2.elim h.2.2 (fun h3 => absurd hlt (Nat.not_lt.mpr h3)))
        refine lv_istore (lv' := [(6, .int x), (5, .int 0), (4, .int (nI (4 * i))), (0, .ref b), (1, .ref (ad 0 0)), (2, .ref (adm 30)), (3, .ref o)]) hx hb dL_law_607 hl (by decide) rfl (fun ls hl => ?_)
        refine lv_aload_n hx hb dL_law_609 rfl (lv_at hl 5 rfl) ?_
        refine hcallV (n := 0) C hE (kM_thrown l G (fun q => H2.size ≤ q) (McL adm) adm τ') wML_L_105 wIM_X6_thrown wSE_X6_X6_thrown wIN_X6 wCO_X6_thrown (by decide) rfl ⟨Nat.le_of_ble_eq_true rfl, Nat.le_of_ble_eq_true rfl⟩ (orec hE hM3.main (show mcl[8]? = some (RX6, TX6, 30) from rfl)) hS (fun q h => Nat.le_trans hS.1 h) (fun q h => h) hM3 rfl hl.1 (Nat.le_of_ble_eq_true rfl) dL_law_610 ⟨by show cc9 + 1 + 0 + 0 ≤ 601024; omega, by show ss9 + 6 + 0 + 0 ≤ 7293034; omega⟩ (fun E ce q9 H1 locs1 hx9 _ _ _ _ _ => hx9.elim) (fun v H3 locs3 hv3 hk3 hS => ?_)
        obtain rfl : v = some (.int 0) := by rw [hv3, e27]
        have hP5 := hP4.old hk3
        have hM5 := hM3.old hk3
        have ho5 := ho3.kept (hk3.2 _ ho3.lt (Nat.not_le.mpr ho3.lt))
        refine lv_iload hx hb dL_law_613 (lv_at hl 1 rfl) ?_
        refine lv_icmp_eq (tgt := 620) hx hb dL_law_615 (by decide) (fun c_615_10 => ?_) (fun c_615_10 => ?_)
        · refine lv_iload hx hb dL_law_620 (lv_at hl 1 rfl) ?_
          refine lv_if_ne (tgt := 637) hx hb dL_law_622 (by decide) (fun c_622_11 => ?_) (fun c_622_11 => ?_)
          · exact absurd c_622_11 (by decide)
          · refine lv_aload_n hx hb dL_law_625 rfl (lv_at hl 6 rfl) ?_
            refine lv_iconst (v := 0) hx hb dL_law_626 (by decide) ?_
            refine xlald hx hb hE.1.1 ho5 dL_law_627 ?_
            refine lv_iload hx hb dL_law_628 (lv_at hl 0 rfl) ?_
            refine lv_i2l hx hb dL_law_630 rfl ?_
            refine W.lcmp hx hb dL_law_631 ?_
            rw [lcmp0]
            refine lv_if_eq (tgt := 637) hx hb dL_law_632 (by decide) (fun c_632_12 => ?_) (fun c_632_12 => ?_)
            · refine lv_goto (tgt := 1851) hx hb dL_law_637 (by decide) ?_
              exact kk H3 locs3 ls _ _ (show cc9 + 1 + 0 + 0 ≤ cc9 + 10 by omega) (show ss9 + 6 + 0 + 0 ≤ ss9 + 300 by omega) hS ⟨ad', σ', τ', qs', nT', nW', f', D', _, ea, hP5, hM5, ho5, hR2, hI2⟩ (lv_sub hl [2, 3, 4, 5, 6] rfl)
            · exact absurd c_632_12 (by decide)
        · exact absurd c_615_10 (by decide)
    · obtain ⟨eE, rfl⟩ := hcode
      refine lv_istore (lv' := [(5, .int 1), (4, .int (nI (4 * i))), (0, .ref b), (1, .ref (ad 0 0)), (2, .ref (adm 30)), (3, .ref o)]) hx hb dL_law_581 hl (by decide) rfl (fun ls hl => ?_)
      refine lv_aload_n hx hb dL_law_583 rfl (lv_at hl 4 rfl) ?_
      refine lv_aload_n hx hb dL_law_584 rfl (lv_at hl 2 rfl) ?_
      refine lv_iload hx hb dL_law_585 (lv_at hl 1 rfl) ?_
      refine lv_iconst (v := 1) hx hb dL_law_587 (by decide) ?_
      refine lv_iadd hx hb dL_law_588 ?_
      rw [i4_1]
      refine va_sld hx hb hX hbl (Nat.not_le.mpr hbl) hS (vp_in_nI (show 4 * i + 1 < L by omega) (by omega)) dL_law_589 ?_
      rw [nI_clamp (show 4 * i + 1 < 2 ^ 31 by omega)]
      refine lv_aload_n hx hb dL_law_590 rfl (lv_at hl 2 rfl) ?_
      refine lv_iload hx hb dL_law_591 (lv_at hl 1 rfl) ?_
      refine lv_iconst (v := 2) hx hb dL_law_593 (by decide) ?_
      refine lv_iadd hx hb dL_law_594 ?_
      rw [i4_2]
      refine va_sld hx hb hX hbl (Nat.not_le.mpr hbl) hS (vp_in_nI (show 4 * i + 2 < L by omega) (by omega)) dL_law_595 ?_
      rw [nI_clamp (show 4 * i + 2 < 2 ^ 31 by omega)]
      refine lv_if_eq (tgt := 603) hx hb dL_law_596 (by decide) (fun c_596_13 => ?_) (fun c_596_13 => ?_)
      · exact absurd c_596_13 c_569_1
      · refine lv_iconst (v := 1) hx hb dL_law_599 (by decide) ?_
        refine lv_goto (tgt := 604) hx hb dL_law_600 (by decide) ?_
        refine hcallV (n := 2) C hE (kR_close l G (fun q => McL adm q ∨ H1.size ≤ q) adm τ (xs (4 * i + 1)) true nT hR.1.2.2.2.1 h80.1) wML_L_128 wIM_X6_close wSE_X6_X6_close wIN_X6 wCO_X6_close (by decide) rfl ⟨Nat.le_of_ble_eq_true rfl, Nat.le_of_ble_eq_true rfl⟩ (orec hE hM1.main (show mcl[8]? = some (RX6, TX6, 30) from rfl)) hS (fun q h => h.elim (fun h => hF.2.2 q h) (fun h => Nat.le_trans hS.1 h)) (fun q h => Or.inr h) (hM1.any (fun q h => Or.inl h)) rfl hl.1 (Nat.le_of_ble_eq_true rfl) dL_law_604 ⟨by show cc9 + 1 + 0 ≤ 601024; omega, by show ss9 + 6 + 0 ≤ 7293034; omega⟩ (fun E ce q9 H1 locs1 hx9 _ _ _ _ _ => hx9.elim) (fun v H2 locs2 hv2 hk2 hS => ?_)
        obtain ⟨x9, τ', rfl, hM2, hcm⟩ := hv2
        have hM3 : PM G (McL adm) adm τ' H2 := hM2.any (fun q h => h)
        have ho3 := ho2.kept (hk2.2 _ ho2.lt (fun h => h.elim hF.2.1 (fun h => absurd ho2.lt (Nat.not_lt.mpr h))))
        have hex : EXT G (AxL s.heap.size o adm) ad H1 N 1 τ' := (sx_close hR hI hx9 hcm).2
        obtain ⟨e27, ad', σ', qs', nT', nW', f', D', ea, hP3, hR2, hI2⟩ := hex
        have hP4 := hP3.kept hk2 (fun q h hlt h2 => h2.elim h.2.2 (fun h3 => absurd hlt (Nat.not_lt.mpr h3)))
        refine lv_istore (lv' := [(6, .int x9), (5, .int 1), (4, .int (nI (4 * i))), (0, .ref b), (1, .ref (ad 0 0)), (2, .ref (adm 30)), (3, .ref o)]) hx hb dL_law_607 hl (by decide) rfl (fun ls hl => ?_)
        refine lv_aload_n hx hb dL_law_609 rfl (lv_at hl 5 rfl) ?_
        refine hcallV (n := 0) C hE (kM_thrown l G (fun q => H2.size ≤ q) (McL adm) adm τ') wML_L_105 wIM_X6_thrown wSE_X6_X6_thrown wIN_X6 wCO_X6_thrown (by decide) rfl ⟨Nat.le_of_ble_eq_true rfl, Nat.le_of_ble_eq_true rfl⟩ (orec hE hM3.main (show mcl[8]? = some (RX6, TX6, 30) from rfl)) hS (fun q h => Nat.le_trans hS.1 h) (fun q h => h) hM3 rfl hl.1 (Nat.le_of_ble_eq_true rfl) dL_law_610 ⟨by show cc9 + 1 + 0 + 0 ≤ 601024; omega, by show ss9 + 6 + 0 + 0 ≤ 7293034; omega⟩ (fun E ce q9 H1 locs1 hx9 _ _ _ _ _ => hx9.elim) (fun v H3 locs3 hv3 hk3 hS => ?_)
        obtain rfl : v = some (.int 1) := by rw [hv3, e27]
        have hP5 := hP4.old hk3
        have hM5 := hM3.old hk3
        have ho5 := ho3.kept (hk3.2 _ ho3.lt (Nat.not_le.mpr ho3.lt))
        refine lv_iload hx hb dL_law_613 (lv_at hl 1 rfl) ?_
        refine lv_icmp_eq (tgt := 620) hx hb dL_law_615 (by decide) (fun c_615_14 => ?_) (fun c_615_14 => ?_)
        · refine lv_iload hx hb dL_law_620 (lv_at hl 1 rfl) ?_
          refine lv_if_ne (tgt := 637) hx hb dL_law_622 (by decide) (fun c_622_15 => ?_) (fun c_622_15 => ?_)
          · refine lv_goto (tgt := 1851) hx hb dL_law_637 (by decide) ?_
            exact kk H3 locs3 ls _ _ (show cc9 + 1 + 0 + 0 ≤ cc9 + 10 by omega) (show ss9 + 6 + 0 + 0 ≤ ss9 + 300 by omega) hS ⟨ad', σ', τ', qs', nT', nW', f', D', _, ea, hP5, hM5, ho5, hR2, hI2⟩ (lv_sub hl [2, 3, 4, 5, 6] rfl)
          · exact absurd c_622_15 (by decide)
        · exact absurd c_615_14 (by decide)
set_option maxHeartbeats 4000000 in
set_option maxRecDepth 100000 in
theorem LC_enter (l : Launch) (hl9 : l.stackTraces = false) {p : Program} {e : Env} {s : State} {m : MethodId} {below : List Frame} {meth : Method} {c : Code} {b L : Nat} {xs : Nat → Int32} {G : GE} {o a0 : Nat} {adm : Nat → Nat} (C : CallFix p m c cL_law 7 s #[Value.ref b] gTb RL) (hE : EN (fun q => s.heap.size ≤ q) G s s.heap) (hN : NCX s) (hX : va_X b L xs s s.heap) (hbl : b < s.heap.size) (hF : LFX s.heap.size o adm) (hL : L ≤ 2048) {i N cc9 ss9 : Nat} {Qw : State → Prop} {H : Heap} {locs : List Loc} {ls : Array Slot} (hi : 4 * i + 4 ≤ L) (hcc : cc9 ≤ 100 + 10 * i) (hss : ss9 ≤ 2000 + 300 * i) (hN2 : N < 1000) (hS : va_S (fun q => s.heap.size ≤ q) s.heap H locs) (hV : LINV G s.heap.size o a0 adm N H) (hl : lv_has ls 7 [(4, .int (nI (4 * i))), (0, .ref b), (1, .ref a0), (2, .ref (adm 30)), (3, .ref o)])
    (kk : ∀ (H1 : Heap) (locs1 : List Loc) (ls1 : Array Slot) (cc1 ss1 : Nat), cc1 ≤ cc9 + 10 → ss1 ≤ ss9 + 300 → va_S (fun q => s.heap.size ≤ q) s.heap H1 locs1 → LINV G s.heap.size o a0 adm (N + 1) H1 → lv_has ls1 7 [(4, .int (nI (4 * i))), (0, .ref b), (1, .ref a0), (2, .ref (adm 30)), (3, .ref o)] → W p l e room_1 s m #[Value.ref b] below meth c H1 locs1 cc1 ss1 Qw (F0 m 1851 ls1 [])) : W p l e room_1 s m #[Value.ref b] below meth c H locs cc9 ss9 Qw (F0 m 640 ls []) := by
  have hx := C.1
  have hb := C.2.1
  have hown := C.2.2.2.1
  have hts := C.2.2.2.2
  obtain ⟨ad, σ, τ, qs, nT, nW, f, D, y0, rfl, hP, hM, ho9, hR, hI⟩ := hV
  have h80 := hR.n80
  refine lv_aload_n hx hb dL_law_640 rfl (lv_at hl 2 rfl) ?_
  refine lv_aload_n hx hb dL_law_641 rfl (lv_at hl 1 rfl) ?_
  refine lv_iload hx hb dL_law_642 (lv_at hl 0 rfl) ?_
  refine lv_iconst (v := 1) hx hb dL_law_644 (by decide) ?_
  refine lv_iadd hx hb dL_law_645 ?_
  rw [i4_1]
  refine va_sld hx hb hX hbl (Nat.not_le.mpr hbl) hS (vp_in_nI (show 4 * i + 1 < L by omega) (by omega)) dL_law_646 ?_
  rw [nI_clamp (show 4 * i + 1 < 2 ^ 31 by omega)]
  refine lv_aload_n hx hb dL_law_647 rfl (lv_at hl 1 rfl) ?_
  refine lv_iload hx hb dL_law_648 (lv_at hl 0 rfl) ?_
  refine lv_iconst (v := 2) hx hb dL_law_650 (by decide) ?_
  refine lv_iadd hx hb dL_law_651 ?_
  rw [i4_2]
  refine va_sld hx hb hX hbl (Nat.not_le.mpr hbl) hS (vp_in_nI (show 4 * i + 2 < L by omega) (by omega)) dL_law_652 ?_
  rw [nI_clamp (show 4 * i + 2 < 2 ^ 31 by omega)]
  refine lv_aload_n hx hb dL_law_653 rfl (lv_at hl 4 rfl) ?_
  refine hcallH (n := 4) C hE hN (hL_enter l G (AxL s.heap.size o adm) (fun q => AxL s.heap.size o adm q ∨ q = o) o (fun q h => Or.inl h) (Or.inr rfl) (fun h => h.2.1 rfl) ad σ qs nT nW hl9 (xs (4 * i + 1)) (xs (4 * i + 2)) h80.1 h80.2.1 (L_wf hR) (L_free hR) (L_len hR (by decide))) wML_L_129 wST_L_enter wIN_L wCW_L_enter (by decide) rfl ⟨Nat.le_of_ble_eq_true rfl, Nat.le_of_ble_eq_true rfl⟩ hS (fun q h => h.elim (fun h => h.1) (fun h => h ▸ hF.1)) (fun q h => Or.inl (AxL.new hM ho9 hS.1 q h)) ⟨hP, ⟨_, ho9⟩, fun q h => AxL.new hM ho9 hS.1 q h⟩ rfl hl.1 (Nat.le_of_ble_eq_true rfl) dL_law_654 ⟨by show cc9 + 6 ≤ 601024; omega, by show ss9 + 250 ≤ 7293034; omega⟩ (fun v H1 locs1 hv hk hS => ?_)
  have hM1 : PM G (McL adm) adm τ H1 := hM.keptL hk (fun q hq h => h.elim (fun h => h.2.2 hq) (fun h => hF.2.1 (h ▸ hq)))
  rcases hv with ⟨x, H0, rfl, hq, ho2, z2, oq2⟩ | ⟨E, hx9, hcode, y2, ho2⟩
  · skip
    refine lv_istore (lv' := [(5, .int 0), (4, .int (nI (4 * i))), (0, .ref b), (1, .ref (ad 0 0)), (2, .ref (adm 30)), (3, .ref o)]) hx hb dL_law_657 hl (by decide) rfl (fun ls hl => ?_)
    refine lv_aload_n hx hb dL_law_659 rfl (lv_at hl 4 rfl) ?_
    refine lv_aload_n hx hb dL_law_660 rfl (lv_at hl 2 rfl) ?_
    refine lv_iload hx hb dL_law_661 (lv_at hl 1 rfl) ?_
    refine lv_iconst (v := 1) hx hb dL_law_663 (by decide) ?_
    refine lv_iadd hx hb dL_law_664 ?_
    rw [i4_1]
    refine va_sld hx hb hX hbl (Nat.not_le.mpr hbl) hS (vp_in_nI (show 4 * i + 1 < L by omega) (by omega)) dL_law_665 ?_
    rw [nI_clamp (show 4 * i + 1 < 2 ^ 31 by omega)]
    refine lv_aload_n hx hb dL_law_666 rfl (lv_at hl 2 rfl) ?_
    refine lv_iload hx hb dL_law_667 (lv_at hl 1 rfl) ?_
    refine lv_iconst (v := 2) hx hb dL_law_669 (by decide) ?_
    refine lv_iadd hx hb dL_law_670 ?_
    rw [i4_2]
    refine va_sld hx hb hX hbl (Nat.not_le.mpr hbl) hS (vp_in_nI (show 4 * i + 2 < L by omega) (by omega)) dL_law_671 ?_
    rw [nI_clamp (show 4 * i + 2 < 2 ^ 31 by omega)]
    refine hcallV (n := 2) C hE (kR_enter l G (fun q => McL adm q ∨ H1.size ≤ q) adm τ (xs (4 * i + 1)) (xs (4 * i + 2)) nT hR.1.2.2.2.1 h80.1 nW hR.1.2.2.2.2.1 h80.2.1 (L_wfm hR)) wML_L_131 wIM_X6_enter wSE_X6_X6_enter wIN_X6 wCO_X6_enter (by decide) rfl ⟨Nat.le_of_ble_eq_true rfl, Nat.le_of_ble_eq_true rfl⟩ (orec hE hM1.main (show mcl[8]? = some (RX6, TX6, 30) from rfl)) hS (fun q h => h.elim (fun h => hF.2.2 q h) (fun h => Nat.le_trans hS.1 h)) (fun q h => Or.inr h) (hM1.any (fun q h => Or.inl h)) rfl hl.1 (Nat.le_of_ble_eq_true rfl) dL_law_672 ⟨by show cc9 + 6 + 0 ≤ 601024; omega, by show ss9 + 250 + 0 ≤ 7293034; omega⟩ (fun E ce q9 H1 locs1 hx9 _ _ _ _ _ => hx9.elim) (fun v H2 locs2 hv2 hk2 hS => ?_)
    obtain ⟨x9, τ', rfl, hM2, hcm⟩ := hv2
    have hM3 : PM G (McL adm) adm τ' H2 := hM2.any (fun q h => h)
    have ho3 := ho2.kept (hk2.2 _ ho2.lt (fun h => h.elim hF.2.1 (fun h => absurd ho2.lt (Nat.not_lt.mpr h))))
    obtain ⟨e27, ex, ad', σ', qs', nT', nW', f', D', ea, hP2, hR2, hI2⟩ := st_enter hR hI hN2 hq hcm
    obtain rfl : x = x9 := by cases ex; rfl
    have hP3 := hP2.kept (A1 := fun q => q = o) ⟨Nat.le_of_eq z2.symm, fun q _ hne => oq2 q hne⟩ (fun q h _ e => h.2.1 e)
    have hP4 := hP3.kept hk2 (fun q h hlt h2 => h2.elim h.2.2 (fun h3 => absurd hlt (Nat.not_lt.mpr h3)))
    refine lv_istore (lv' := [(6, .int x), (5, .int 0), (4, .int (nI (4 * i))), (0, .ref b), (1, .ref (ad 0 0)), (2, .ref (adm 30)), (3, .ref o)]) hx hb dL_law_675 hl (by decide) rfl (fun ls hl => ?_)
    refine lv_aload_n hx hb dL_law_677 rfl (lv_at hl 5 rfl) ?_
    refine hcallV (n := 0) C hE (kM_thrown l G (fun q => H2.size ≤ q) (McL adm) adm τ') wML_L_105 wIM_X6_thrown wSE_X6_X6_thrown wIN_X6 wCO_X6_thrown (by decide) rfl ⟨Nat.le_of_ble_eq_true rfl, Nat.le_of_ble_eq_true rfl⟩ (orec hE hM3.main (show mcl[8]? = some (RX6, TX6, 30) from rfl)) hS (fun q h => Nat.le_trans hS.1 h) (fun q h => h) hM3 rfl hl.1 (Nat.le_of_ble_eq_true rfl) dL_law_678 ⟨by show cc9 + 6 + 0 + 0 ≤ 601024; omega, by show ss9 + 250 + 0 + 0 ≤ 7293034; omega⟩ (fun E ce q9 H1 locs1 hx9 _ _ _ _ _ => hx9.elim) (fun v H3 locs3 hv3 hk3 hS => ?_)
    obtain rfl : v = some (.int 0) := by rw [hv3, e27]
    have hP5 := hP4.old hk3
    have hM5 := hM3.old hk3
    have ho5 := ho3.kept (hk3.2 _ ho3.lt (Nat.not_le.mpr ho3.lt))
    refine lv_iload hx hb dL_law_681 (lv_at hl 1 rfl) ?_
    refine lv_icmp_eq (tgt := 688) hx hb dL_law_683 (by decide) (fun c_683_1 => ?_) (fun c_683_1 => ?_)
    · refine lv_iload hx hb dL_law_688 (lv_at hl 1 rfl) ?_
      refine lv_if_ne (tgt := 712) hx hb dL_law_690 (by decide) (fun c_690_2 => ?_) (fun c_690_2 => ?_)
      · exact absurd c_690_2 (by decide)
      · refine lv_aload_n hx hb dL_law_693 rfl (lv_at hl 6 rfl) ?_
        refine lv_iconst (v := 0) hx hb dL_law_694 (by decide) ?_
        refine xlald hx hb hE.1.1 ho5 dL_law_695 ?_
        refine lv_iload hx hb dL_law_696 (lv_at hl 0 rfl) ?_
        refine lv_if_eq (tgt := 705) hx hb dL_law_698 (by decide) (fun c_698_3 => ?_) (fun c_698_3 => ?_)
        · refine lv_lconst (v := 0) hx hb dL_law_705 rfl ?_
          refine W.lcmp hx hb dL_law_706 ?_
          rw [show lg_cmp (if x = 0 then 0 else 1) 0 = 0 from by rw [if_pos c_698_3]; exact lcmp0 _]
          refine lv_if_eq (tgt := 712) hx hb dL_law_707 (by decide) (fun c_707_4 => ?_) (fun c_707_4 => ?_)
          · refine lv_goto (tgt := 1851) hx hb dL_law_712 (by decide) ?_
            exact kk H3 locs3 ls _ _ (show cc9 + 6 + 0 + 0 ≤ cc9 + 10 by omega) (show ss9 + 250 + 0 + 0 ≤ ss9 + 300 by omega) hS ⟨ad', σ', τ', qs', nT', nW', f', D', _, ea, hP5, hM5, ho5, hR2, hI2⟩ (lv_sub hl [2, 3, 4, 5, 6] rfl)
          · exact absurd c_707_4 (by decide)
        · refine lv_lconst (v := 1) hx hb dL_law_701 rfl ?_
          refine lv_goto (tgt := 706) hx hb dL_law_702 (by decide) ?_
          refine W.lcmp hx hb dL_law_706 ?_
          rw [show lg_cmp (if x = 0 then 0 else 1) 1 = 0 from by rw [if_neg c_698_3]; exact lcmp0 _]
          refine lv_if_eq (tgt := 712) hx hb dL_law_707 (by decide) (fun c_707_5 => ?_) (fun c_707_5 => ?_)
          · refine lv_goto (tgt := 1851) hx hb dL_law_712 (by decide) ?_
            exact kk H3 locs3 ls _ _ (show cc9 + 6 + 0 + 0 ≤ cc9 + 10 by omega) (show ss9 + 250 + 0 + 0 ≤ ss9 + 300 by omega) hS ⟨ad', σ', τ', qs', nT', nW', f', D', _, ea, hP5, hM5, ho5, hR2, hI2⟩ (lv_sub hl [2, 3, 4, 5, 6] rfl)
          · exact absurd c_707_5 (by decide)
    · exact absurd c_683_1 (by decide)
  · rcases hcode with ⟨eE, rfl⟩ | ⟨eE, rfl⟩
    · skip
      refine lv_istore (lv' := [(5, .int 1), (4, .int (nI (4 * i))), (0, .ref b), (1, .ref (ad 0 0)), (2, .ref (adm 30)), (3, .ref o)]) hx hb dL_law_657 hl (by decide) rfl (fun ls hl => ?_)
      refine lv_aload_n hx hb dL_law_659 rfl (lv_at hl 4 rfl) ?_
      refine lv_aload_n hx hb dL_law_660 rfl (lv_at hl 2 rfl) ?_
      refine lv_iload hx hb dL_law_661 (lv_at hl 1 rfl) ?_
      refine lv_iconst (v := 1) hx hb dL_law_663 (by decide) ?_
      refine lv_iadd hx hb dL_law_664 ?_
      rw [i4_1]
      refine va_sld hx hb hX hbl (Nat.not_le.mpr hbl) hS (vp_in_nI (show 4 * i + 1 < L by omega) (by omega)) dL_law_665 ?_
      rw [nI_clamp (show 4 * i + 1 < 2 ^ 31 by omega)]
      refine lv_aload_n hx hb dL_law_666 rfl (lv_at hl 2 rfl) ?_
      refine lv_iload hx hb dL_law_667 (lv_at hl 1 rfl) ?_
      refine lv_iconst (v := 2) hx hb dL_law_669 (by decide) ?_
      refine lv_iadd hx hb dL_law_670 ?_
      rw [i4_2]
      refine va_sld hx hb hX hbl (Nat.not_le.mpr hbl) hS (vp_in_nI (show 4 * i + 2 < L by omega) (by omega)) dL_law_671 ?_
      rw [nI_clamp (show 4 * i + 2 < 2 ^ 31 by omega)]
      refine hcallV (n := 2) C hE (kR_enter l G (fun q => McL adm q ∨ H1.size ≤ q) adm τ (xs (4 * i + 1)) (xs (4 * i + 2)) nT hR.1.2.2.2.1 h80.1 nW hR.1.2.2.2.2.1 h80.2.1 (L_wfm hR)) wML_L_131 wIM_X6_enter wSE_X6_X6_enter wIN_X6 wCO_X6_enter (by decide) rfl ⟨Nat.le_of_ble_eq_true rfl, Nat.le_of_ble_eq_true rfl⟩ (orec hE hM1.main (show mcl[8]? = some (RX6, TX6, 30) from rfl)) hS (fun q h => h.elim (fun h => hF.2.2 q h) (fun h => Nat.le_trans hS.1 h)) (fun q h => Or.inr h) (hM1.any (fun q h => Or.inl h)) rfl hl.1 (Nat.le_of_ble_eq_true rfl) dL_law_672 ⟨by show cc9 + 6 + 0 ≤ 601024; omega, by show ss9 + 250 + 0 ≤ 7293034; omega⟩ (fun E ce q9 H1 locs1 hx9 _ _ _ _ _ => hx9.elim) (fun v H2 locs2 hv2 hk2 hS => ?_)
      obtain ⟨x9, τ', rfl, hM2, hcm⟩ := hv2
      have hM3 : PM G (McL adm) adm τ' H2 := hM2.any (fun q h => h)
      have ho3 := ho2.kept (hk2.2 _ ho2.lt (fun h => h.elim hF.2.1 (fun h => absurd ho2.lt (Nat.not_lt.mpr h))))
      have hex : EXT G (AxL s.heap.size o adm) ad H1 N 1 τ' := by
        rcases sx_enter hR hI hx9 hcm with ⟨e1, z⟩ | ⟨e1, z⟩
        · exact z
        · exact absurd (eE.symm.trans e1) (by decide)
      obtain ⟨e27, ad', σ', qs', nT', nW', f', D', ea, hP3, hR2, hI2⟩ := hex
      have hP4 := hP3.kept hk2 (fun q h hlt h2 => h2.elim h.2.2 (fun h3 => absurd hlt (Nat.not_lt.mpr h3)))
      refine lv_istore (lv' := [(6, .int x9), (5, .int 1), (4, .int (nI (4 * i))), (0, .ref b), (1, .ref (ad 0 0)), (2, .ref (adm 30)), (3, .ref o)]) hx hb dL_law_675 hl (by decide) rfl (fun ls hl => ?_)
      refine lv_aload_n hx hb dL_law_677 rfl (lv_at hl 5 rfl) ?_
      refine hcallV (n := 0) C hE (kM_thrown l G (fun q => H2.size ≤ q) (McL adm) adm τ') wML_L_105 wIM_X6_thrown wSE_X6_X6_thrown wIN_X6 wCO_X6_thrown (by decide) rfl ⟨Nat.le_of_ble_eq_true rfl, Nat.le_of_ble_eq_true rfl⟩ (orec hE hM3.main (show mcl[8]? = some (RX6, TX6, 30) from rfl)) hS (fun q h => Nat.le_trans hS.1 h) (fun q h => h) hM3 rfl hl.1 (Nat.le_of_ble_eq_true rfl) dL_law_678 ⟨by show cc9 + 6 + 0 + 0 ≤ 601024; omega, by show ss9 + 250 + 0 + 0 ≤ 7293034; omega⟩ (fun E ce q9 H1 locs1 hx9 _ _ _ _ _ => hx9.elim) (fun v H3 locs3 hv3 hk3 hS => ?_)
      obtain rfl : v = some (.int 1) := by rw [hv3, e27]
      have hP5 := hP4.old hk3
      have hM5 := hM3.old hk3
      have ho5 := ho3.kept (hk3.2 _ ho3.lt (Nat.not_le.mpr ho3.lt))
      refine lv_iload hx hb dL_law_681 (lv_at hl 1 rfl) ?_
      refine lv_icmp_eq (tgt := 688) hx hb dL_law_683 (by decide) (fun c_683_6 => ?_) (fun c_683_6 => ?_)
      · refine lv_iload hx hb dL_law_688 (lv_at hl 1 rfl) ?_
        refine lv_if_ne (tgt := 712) hx hb dL_law_690 (by decide) (fun c_690_7 => ?_) (fun c_690_7 => ?_)
        · refine lv_goto (tgt := 1851) hx hb dL_law_712 (by decide) ?_
          exact kk H3 locs3 ls _ _ (show cc9 + 6 + 0 + 0 ≤ cc9 + 10 by omega) (show ss9 + 250 + 0 + 0 ≤ ss9 + 300 by omega) hS ⟨ad', σ', τ', qs', nT', nW', f', D', _, ea, hP5, hM5, ho5, hR2, hI2⟩ (lv_sub hl [2, 3, 4, 5, 6] rfl)
        · exact absurd c_690_7 (by decide)
      · exact absurd c_683_6 (by decide)
    · skip
      refine lv_istore (lv' := [(5, .int 2), (4, .int (nI (4 * i))), (0, .ref b), (1, .ref (ad 0 0)), (2, .ref (adm 30)), (3, .ref o)]) hx hb dL_law_657 hl (by decide) rfl (fun ls hl => ?_)
      refine lv_aload_n hx hb dL_law_659 rfl (lv_at hl 4 rfl) ?_
      refine lv_aload_n hx hb dL_law_660 rfl (lv_at hl 2 rfl) ?_
      refine lv_iload hx hb dL_law_661 (lv_at hl 1 rfl) ?_
      refine lv_iconst (v := 1) hx hb dL_law_663 (by decide) ?_
      refine lv_iadd hx hb dL_law_664 ?_
      rw [i4_1]
      refine va_sld hx hb hX hbl (Nat.not_le.mpr hbl) hS (vp_in_nI (show 4 * i + 1 < L by omega) (by omega)) dL_law_665 ?_
      rw [nI_clamp (show 4 * i + 1 < 2 ^ 31 by omega)]
      refine lv_aload_n hx hb dL_law_666 rfl (lv_at hl 2 rfl) ?_
      refine lv_iload hx hb dL_law_667 (lv_at hl 1 rfl) ?_
      refine lv_iconst (v := 2) hx hb dL_law_669 (by decide) ?_
      refine lv_iadd hx hb dL_law_670 ?_
      rw [i4_2]
      refine va_sld hx hb hX hbl (Nat.not_le.mpr hbl) hS (vp_in_nI (show 4 * i + 2 < L by omega) (by omega)) dL_law_671 ?_
      rw [nI_clamp (show 4 * i + 2 < 2 ^ 31 by omega)]
      refine hcallV (n := 2) C hE (kR_enter l G (fun q => McL adm q ∨ H1.size ≤ q) adm τ (xs (4 * i + 1)) (xs (4 * i + 2)) nT hR.1.2.2.2.1 h80.1 nW hR.1.2.2.2.2.1 h80.2.1 (L_wfm hR)) wML_L_131 wIM_X6_enter wSE_X6_X6_enter wIN_X6 wCO_X6_enter (by decide) rfl ⟨Nat.le_of_ble_eq_true rfl, Nat.le_of_ble_eq_true rfl⟩ (orec hE hM1.main (show mcl[8]? = some (RX6, TX6, 30) from rfl)) hS (fun q h => h.elim (fun h => hF.2.2 q h) (fun h => Nat.le_trans hS.1 h)) (fun q h => Or.inr h) (hM1.any (fun q h => Or.inl h)) rfl hl.1 (Nat.le_of_ble_eq_true rfl) dL_law_672 ⟨by show cc9 + 6 + 0 ≤ 601024; omega, by show ss9 + 250 + 0 ≤ 7293034; omega⟩ (fun E ce q9 H1 locs1 hx9 _ _ _ _ _ => hx9.elim) (fun v H2 locs2 hv2 hk2 hS => ?_)
      obtain ⟨x9, τ', rfl, hM2, hcm⟩ := hv2
      have hM3 : PM G (McL adm) adm τ' H2 := hM2.any (fun q h => h)
      have ho3 := ho2.kept (hk2.2 _ ho2.lt (fun h => h.elim hF.2.1 (fun h => absurd ho2.lt (Nat.not_lt.mpr h))))
      have hex : EXT G (AxL s.heap.size o adm) ad H1 N 2 τ' := by
        rcases sx_enter hR hI hx9 hcm with ⟨e1, z⟩ | ⟨e1, z⟩
        · exact absurd (eE.symm.trans e1) (by decide)
        · exact z
      obtain ⟨e27, ad', σ', qs', nT', nW', f', D', ea, hP3, hR2, hI2⟩ := hex
      have hP4 := hP3.kept hk2 (fun q h hlt h2 => h2.elim h.2.2 (fun h3 => absurd hlt (Nat.not_lt.mpr h3)))
      refine lv_istore (lv' := [(6, .int x9), (5, .int 2), (4, .int (nI (4 * i))), (0, .ref b), (1, .ref (ad 0 0)), (2, .ref (adm 30)), (3, .ref o)]) hx hb dL_law_675 hl (by decide) rfl (fun ls hl => ?_)
      refine lv_aload_n hx hb dL_law_677 rfl (lv_at hl 5 rfl) ?_
      refine hcallV (n := 0) C hE (kM_thrown l G (fun q => H2.size ≤ q) (McL adm) adm τ') wML_L_105 wIM_X6_thrown wSE_X6_X6_thrown wIN_X6 wCO_X6_thrown (by decide) rfl ⟨Nat.le_of_ble_eq_true rfl, Nat.le_of_ble_eq_true rfl⟩ (orec hE hM3.main (show mcl[8]? = some (RX6, TX6, 30) from rfl)) hS (fun q h => Nat.le_trans hS.1 h) (fun q h => h) hM3 rfl hl.1 (Nat.le_of_ble_eq_true rfl) dL_law_678 ⟨by show cc9 + 6 + 0 + 0 ≤ 601024; omega, by show ss9 + 250 + 0 + 0 ≤ 7293034; omega⟩ (fun E ce q9 H1 locs1 hx9 _ _ _ _ _ => hx9.elim) (fun v H3 locs3 hv3 hk3 hS => ?_)
      obtain rfl : v = some (.int 2) := by rw [hv3, e27]
      have hP5 := hP4.old hk3
      have hM5 := hM3.old hk3
      have ho5 := ho3.kept (hk3.2 _ ho3.lt (Nat.not_le.mpr ho3.lt))
      refine lv_iload hx hb dL_law_681 (lv_at hl 1 rfl) ?_
      refine lv_icmp_eq (tgt := 688) hx hb dL_law_683 (by decide) (fun c_683_8 => ?_) (fun c_683_8 => ?_)
      · refine lv_iload hx hb dL_law_688 (lv_at hl 1 rfl) ?_
        refine lv_if_ne (tgt := 712) hx hb dL_law_690 (by decide) (fun c_690_9 => ?_) (fun c_690_9 => ?_)
        · refine lv_goto (tgt := 1851) hx hb dL_law_712 (by decide) ?_
          exact kk H3 locs3 ls _ _ (show cc9 + 6 + 0 + 0 ≤ cc9 + 10 by omega) (show ss9 + 250 + 0 + 0 ≤ ss9 + 300 by omega) hS ⟨ad', σ', τ', qs', nT', nW', f', D', _, ea, hP5, hM5, ho5, hR2, hI2⟩ (lv_sub hl [2, 3, 4, 5, 6] rfl)
        · exact absurd c_690_9 (by decide)
      · exact absurd c_683_8 (by decide)
