section LHYP
variable {σ τ : SG} {qs : Nat → List Nat} {nT nW f D N : Nat}
theorem L_wf (hR : RR0 σ qs nT nW f τ D N) : WFw σ nW := fun w hw => (hR.2.2.2.2.2.2.2.1 w hw).1
theorem L_wr (hR : RR0 σ qs nT nW f τ D N) : ∀ u, u < nW → ∃ b, b < 12 ∧ σ 19 u = nI b := fun w hw => (hR.2.2.2.2.2.2.2.1 w hw).2.1
theorem L_fe (hR : RR0 σ qs nT nW f τ D N) : ∀ u, u < nW → ∃ fe, fe ≤ 1000 ∧ σ 21 u = nI fe := fun w hw => (hR.2.2.2.2.2.2.2.1 w hw).2.2
theorem L_wfm (hR : RR0 σ qs nT nW f τ D N) : WFm τ nW := fun w hw => by rw [(wk7 hR hw).1]; exact L_wf hR w hw
theorem L_hg (hR : RR0 σ qs nT nW f τ D N) : ∀ u, u < nW → ∃ b, b < 12 ∧ τ 18 u = nI b := fun w hw => by rw [(wk7 hR hw).2.1]; exact L_wr hR w hw
theorem L_fem (hR : RR0 σ qs nT nW f τ D N) : ∀ u, u < nW → ∃ fe, fe ≤ 1000 ∧ τ 20 u = nI fe := fun w hw => by rw [(wk7 hR hw).2.2.2.1]; exact L_fe hR w hw
theorem L_pl (hR : RR0 σ qs nT nW f τ D N) : ∀ t, t < nT → σ 16 t = -1 ∨ ∃ r, r < 12 ∧ σ 16 t = nI r := fun t ht => by
  obtain ⟨hN, hP, hM, hT, hZ, hD, hW, hB, hA, hRR, hV, hO, -⟩ := hR
  rcases (hO t ht).1 with ⟨a1, -, -⟩ | ⟨r, hr, a1, -⟩
  · exact Or.inl a1
  · exact Or.inr ⟨r, hr, a1⟩
theorem L_plm (hR : RR0 σ qs nT nW f τ D N) : ∀ t, t < nT → τ 10 t = -1 ∨ ∃ r, r < 12 ∧ (τ 10 t = nI r ∨ τ 10 t = 100 + nI r) := fun t ht => by
  obtain ⟨hN, hP, hM, hT, hZ, hD, hW, hB, hA, hRR, hV, hO, -⟩ := hR
  rcases (hO t ht).1 with ⟨-, -, a1⟩ | ⟨r, hr, -, ⟨-, a1⟩ | ⟨-, a1⟩⟩
  · exact Or.inl a1
  · exact Or.inr ⟨r, hr, Or.inl a1⟩
  · exact Or.inr ⟨r, hr, Or.inr a1⟩
theorem L_V100 (hR : RR0 σ qs nT nW f τ D N) : ∀ r, r < 12 → ∃ v, v ≤ 100 ∧ σ 7 r = nI v := fun r hr => ⟨_, by have := in_le (τ := τ) (r := r) (nT := nT); have := hR.n80; omega, hR.k.2.2.2.2.2.2.2.2.1 r hr⟩
theorem L_free (hR : RR0 σ qs nT nW f τ D N) : ∀ r, r < 12 → ∃ c v, freeN σ r c v := fun r hr => by
  obtain ⟨-, -, c, hc, e⟩ := hR.2.2.2.2.2.2.2.2.2.1 r hr
  obtain ⟨v, hv, e2⟩ := L_V100 hR r hr
  exact ⟨c, v, e, e2, by omega, by omega⟩
theorem L_len (hR : RR0 σ qs nT nW f τ D N) {n : Nat} (hn : 80 ≤ n) : ∀ r, r < 12 → (qs r).length ≤ n := fun r hr => by
  have := q_len hR.k.2.2.2.2.2.2.2.2.2.2.1 hr
  have := hR.n80
  omega
theorem L_v1 (hR : RR0 σ qs nT nW f τ D N) : ∀ t r, t < nT → r < 12 → σ 16 t = nI r → σ 17 t = 0 → ∀ c v, freeN σ r c v → v ≠ 0 := fun t r ht hr a1 a2 c v h => (pr_outR hR ht hr a1 a2 h.1 h.2.2.1 h.2.1 h.2.2.2).2.1
end LHYP
set_option maxHeartbeats 4000000 in
set_option maxRecDepth 100000 in
theorem LC_setPrice (l : Launch) (hl9 : l.stackTraces = false) {p : Program} {e : Env} {s : State} {m : MethodId} {below : List Frame} {meth : Method} {c : Code} {b L : Nat} {xs : Nat → Int32} {G : GE} {o a0 : Nat} {adm : Nat → Nat} (C : CallFix p m c cL_law 7 s #[Value.ref b] gTb RL) (hE : EN (fun q => s.heap.size ≤ q) G s s.heap) (hN : NCX s) (hX : va_X b L xs s s.heap) (hbl : b < s.heap.size) (hF : LFX s.heap.size o adm) (hL : L ≤ 2048) {i N cc9 ss9 : Nat} {Qw : State → Prop} {H : Heap} {locs : List Loc} {ls : Array Slot} (hi : 4 * i + 4 ≤ L) (hcc : cc9 ≤ 100 + 10 * i) (hss : ss9 ≤ 2000 + 300 * i) (hN2 : N < 1000) (hS : va_S (fun q => s.heap.size ≤ q) s.heap H locs) (hV : LINV G s.heap.size o a0 adm N H) (hl : lv_has ls 7 [(4, .int (nI (4 * i))), (0, .ref b), (1, .ref a0), (2, .ref (adm 30)), (3, .ref o)])
    (kk : ∀ (H1 : Heap) (locs1 : List Loc) (ls1 : Array Slot) (cc1 ss1 : Nat), cc1 ≤ cc9 + 10 → ss1 ≤ ss9 + 300 → va_S (fun q => s.heap.size ≤ q) s.heap H1 locs1 → LINV G s.heap.size o a0 adm (N + 1) H1 → lv_has ls1 7 [(4, .int (nI (4 * i))), (0, .ref b), (1, .ref a0), (2, .ref (adm 30)), (3, .ref o)] → W p l e room_1 s m #[Value.ref b] below meth c H1 locs1 cc1 ss1 Qw (F0 m 1851 ls1 [])) : W p l e room_1 s m #[Value.ref b] below meth c H locs cc9 ss9 Qw (F0 m 168 ls []) := by
  have hx := C.1
  have hb := C.2.1
  have hown := C.2.2.2.1
  have hts := C.2.2.2.2
  obtain ⟨ad, σ, τ, qs, nT, nW, f, D, y0, rfl, hP, hM, ho9, hR, hI⟩ := hV
  have h80 := hR.n80
  refine lv_aload_n hx hb dL_law_168 rfl (lv_at hl 2 rfl) ?_
  refine lv_aload_n hx hb dL_law_169 rfl (lv_at hl 1 rfl) ?_
  refine lv_iload hx hb dL_law_170 (lv_at hl 0 rfl) ?_
  refine lv_iconst (v := 1) hx hb dL_law_172 (by decide) ?_
  refine lv_iadd hx hb dL_law_173 ?_
  rw [i4_1]
  refine va_sld hx hb hX hbl (Nat.not_le.mpr hbl) hS (vp_in_nI (show 4 * i + 1 < L by omega) (by omega)) dL_law_174 ?_
  rw [nI_clamp (show 4 * i + 1 < 2 ^ 31 by omega)]
  refine lv_aload_n hx hb dL_law_175 rfl (lv_at hl 1 rfl) ?_
  refine lv_iload hx hb dL_law_176 (lv_at hl 0 rfl) ?_
  refine lv_iconst (v := 2) hx hb dL_law_178 (by decide) ?_
  refine lv_iadd hx hb dL_law_179 ?_
  rw [i4_2]
  refine va_sld hx hb hX hbl (Nat.not_le.mpr hbl) hS (vp_in_nI (show 4 * i + 2 < L by omega) (by omega)) dL_law_180 ?_
  rw [nI_clamp (show 4 * i + 2 < 2 ^ 31 by omega)]
  refine lv_aload_n hx hb dL_law_181 rfl (lv_at hl 4 rfl) ?_
  refine hcallH (n := 4) C hE hN (hL_setPrice l G (AxL s.heap.size o adm) (fun q => AxL s.heap.size o adm q ∨ q = o) o (fun q h => Or.inl h) (Or.inr rfl) (fun h => h.2.1 rfl) ad σ qs nT nW hl9 (xs (4 * i + 1)) (xs (4 * i + 2))) wML_L_99 wST_L_setPrice wIN_L wCW_L_setPrice (by decide) rfl ⟨Nat.le_of_ble_eq_true rfl, Nat.le_of_ble_eq_true rfl⟩ hS (fun q h => h.elim (fun h => h.1) (fun h => h ▸ hF.1)) (fun q h => Or.inl (AxL.new hM ho9 hS.1 q h)) ⟨hP, ⟨_, ho9⟩, fun q h => AxL.new hM ho9 hS.1 q h⟩ rfl hl.1 (Nat.le_of_ble_eq_true rfl) dL_law_182 ⟨by show cc9 + 2 ≤ 601024; omega, by show ss9 + 12 ≤ 7293034; omega⟩ (fun v H1 locs1 hv hk hS => ?_)
  have hM1 : PM G (McL adm) adm τ H1 := hM.keptL hk (fun q hq h => h.elim (fun h => h.2.2 hq) (fun h => hF.2.1 (h ▸ hq)))
  rcases hv with ⟨x, H0, rfl, hq, ho2, z2, oq2⟩ | ⟨E, hx9, hcode, y2, ho2⟩
  · skip
    refine lv_istore (lv' := [(5, .int 0), (4, .int (nI (4 * i))), (0, .ref b), (1, .ref (ad 0 0)), (2, .ref (adm 30)), (3, .ref o)]) hx hb dL_law_185 hl (by decide) rfl (fun ls hl => ?_)
    refine lv_aload_n hx hb dL_law_187 rfl (lv_at hl 4 rfl) ?_
    refine lv_aload_n hx hb dL_law_188 rfl (lv_at hl 2 rfl) ?_
    refine lv_iload hx hb dL_law_189 (lv_at hl 1 rfl) ?_
    refine lv_iconst (v := 1) hx hb dL_law_191 (by decide) ?_
    refine lv_iadd hx hb dL_law_192 ?_
    rw [i4_1]
    refine va_sld hx hb hX hbl (Nat.not_le.mpr hbl) hS (vp_in_nI (show 4 * i + 1 < L by omega) (by omega)) dL_law_193 ?_
    rw [nI_clamp (show 4 * i + 1 < 2 ^ 31 by omega)]
    refine lv_aload_n hx hb dL_law_194 rfl (lv_at hl 2 rfl) ?_
    refine lv_iload hx hb dL_law_195 (lv_at hl 1 rfl) ?_
    refine lv_iconst (v := 2) hx hb dL_law_197 (by decide) ?_
    refine lv_iadd hx hb dL_law_198 ?_
    rw [i4_2]
    refine va_sld hx hb hX hbl (Nat.not_le.mpr hbl) hS (vp_in_nI (show 4 * i + 2 < L by omega) (by omega)) dL_law_199 ?_
    rw [nI_clamp (show 4 * i + 2 < 2 ^ 31 by omega)]
    refine hcallV (n := 2) C hE (kR_setPrice l G (fun q => McL adm q ∨ H1.size ≤ q) adm τ (xs (4 * i + 1)) (xs (4 * i + 2))) wML_L_104 wIM_X6_setPrice wSE_X6_X6_setPrice wIN_X6 wCO_X6_setPrice (by decide) rfl ⟨Nat.le_of_ble_eq_true rfl, Nat.le_of_ble_eq_true rfl⟩ (orec hE hM1.main (show mcl[8]? = some (RX6, TX6, 30) from rfl)) hS (fun q h => h.elim (fun h => hF.2.2 q h) (fun h => Nat.le_trans hS.1 h)) (fun q h => Or.inr h) (hM1.any (fun q h => Or.inl h)) rfl hl.1 (Nat.le_of_ble_eq_true rfl) dL_law_200 ⟨by show cc9 + 2 + 0 ≤ 601024; omega, by show ss9 + 12 + 0 ≤ 7293034; omega⟩ (fun E ce q9 H1 locs1 hx9 _ _ _ _ _ => hx9.elim) (fun v H2 locs2 hv2 hk2 hS => ?_)
    obtain ⟨x9, τ', rfl, hM2, hcm⟩ := hv2
    have hM3 : PM G (McL adm) adm τ' H2 := hM2.any (fun q h => h)
    have ho3 := ho2.kept (hk2.2 _ ho2.lt (fun h => h.elim hF.2.1 (fun h => absurd ho2.lt (Nat.not_lt.mpr h))))
    obtain ⟨e27, ex, ad', σ', qs', nT', nW', f', D', ea, hP2, hR2, hI2⟩ := st_setPrice hR hI hq hcm
    obtain rfl : x = x9 := by cases ex; rfl
    have hP3 := hP2.kept (A1 := fun q => q = o) ⟨Nat.le_of_eq z2.symm, fun q _ hne => oq2 q hne⟩ (fun q h _ e => h.2.1 e)
    have hP4 := hP3.kept hk2 (fun q h hlt h2 => h2.elim h.2.2 (fun h3 => absurd hlt (Nat.not_lt.mpr h3)))
    refine lv_istore (lv' := [(6, .int x), (5, .int 0), (4, .int (nI (4 * i))), (0, .ref b), (1, .ref (ad 0 0)), (2, .ref (adm 30)), (3, .ref o)]) hx hb dL_law_203 hl (by decide) rfl (fun ls hl => ?_)
    refine lv_aload_n hx hb dL_law_205 rfl (lv_at hl 5 rfl) ?_
    refine hcallV (n := 0) C hE (kM_thrown l G (fun q => H2.size ≤ q) (McL adm) adm τ') wML_L_105 wIM_X6_thrown wSE_X6_X6_thrown wIN_X6 wCO_X6_thrown (by decide) rfl ⟨Nat.le_of_ble_eq_true rfl, Nat.le_of_ble_eq_true rfl⟩ (orec hE hM3.main (show mcl[8]? = some (RX6, TX6, 30) from rfl)) hS (fun q h => Nat.le_trans hS.1 h) (fun q h => h) hM3 rfl hl.1 (Nat.le_of_ble_eq_true rfl) dL_law_206 ⟨by show cc9 + 2 + 0 + 0 ≤ 601024; omega, by show ss9 + 12 + 0 + 0 ≤ 7293034; omega⟩ (fun E ce q9 H1 locs1 hx9 _ _ _ _ _ => hx9.elim) (fun v H3 locs3 hv3 hk3 hS => ?_)
    obtain rfl : v = some (.int 0) := by rw [hv3, e27]
    have hP5 := hP4.old hk3
    have hM5 := hM3.old hk3
    have ho5 := ho3.kept (hk3.2 _ ho3.lt (Nat.not_le.mpr ho3.lt))
    refine lv_iload hx hb dL_law_209 (lv_at hl 1 rfl) ?_
    refine lv_icmp_eq (tgt := 216) hx hb dL_law_211 (by decide) (fun c_211_1 => ?_) (fun c_211_1 => ?_)
    · refine lv_iload hx hb dL_law_216 (lv_at hl 1 rfl) ?_
      refine lv_if_ne (tgt := 233) hx hb dL_law_218 (by decide) (fun c_218_2 => ?_) (fun c_218_2 => ?_)
      · exact absurd c_218_2 (by decide)
      · refine lv_aload_n hx hb dL_law_221 rfl (lv_at hl 6 rfl) ?_
        refine lv_iconst (v := 0) hx hb dL_law_222 (by decide) ?_
        refine xlald hx hb hE.1.1 ho5 dL_law_223 ?_
        refine lv_iload hx hb dL_law_224 (lv_at hl 0 rfl) ?_
        refine lv_i2l hx hb dL_law_226 rfl ?_
        refine W.lcmp hx hb dL_law_227 ?_
        rw [lcmp0]
        refine lv_if_eq (tgt := 233) hx hb dL_law_228 (by decide) (fun c_228_3 => ?_) (fun c_228_3 => ?_)
        · refine lv_goto (tgt := 1851) hx hb dL_law_233 (by decide) ?_
          exact kk H3 locs3 ls _ _ (show cc9 + 2 + 0 + 0 ≤ cc9 + 10 by omega) (show ss9 + 12 + 0 + 0 ≤ ss9 + 300 by omega) hS ⟨ad', σ', τ', qs', nT', nW', f', D', _, ea, hP5, hM5, ho5, hR2, hI2⟩ (lv_sub hl [2, 3, 4, 5, 6] rfl)
        · exact absurd c_228_3 (by decide)
    · exact absurd c_211_1 (by decide)
  · rcases hcode with ⟨eE, rfl⟩ | ⟨eE, rfl⟩
    · skip
      refine lv_istore (lv' := [(5, .int 1), (4, .int (nI (4 * i))), (0, .ref b), (1, .ref (ad 0 0)), (2, .ref (adm 30)), (3, .ref o)]) hx hb dL_law_185 hl (by decide) rfl (fun ls hl => ?_)
      refine lv_aload_n hx hb dL_law_187 rfl (lv_at hl 4 rfl) ?_
      refine lv_aload_n hx hb dL_law_188 rfl (lv_at hl 2 rfl) ?_
      refine lv_iload hx hb dL_law_189 (lv_at hl 1 rfl) ?_
      refine lv_iconst (v := 1) hx hb dL_law_191 (by decide) ?_
      refine lv_iadd hx hb dL_law_192 ?_
      rw [i4_1]
      refine va_sld hx hb hX hbl (Nat.not_le.mpr hbl) hS (vp_in_nI (show 4 * i + 1 < L by omega) (by omega)) dL_law_193 ?_
      rw [nI_clamp (show 4 * i + 1 < 2 ^ 31 by omega)]
      refine lv_aload_n hx hb dL_law_194 rfl (lv_at hl 2 rfl) ?_
      refine lv_iload hx hb dL_law_195 (lv_at hl 1 rfl) ?_
      refine lv_iconst (v := 2) hx hb dL_law_197 (by decide) ?_
      refine lv_iadd hx hb dL_law_198 ?_
      rw [i4_2]
      refine va_sld hx hb hX hbl (Nat.not_le.mpr hbl) hS (vp_in_nI (show 4 * i + 2 < L by omega) (by omega)) dL_law_199 ?_
      rw [nI_clamp (show 4 * i + 2 < 2 ^ 31 by omega)]
      refine hcallV (n := 2) C hE (kR_setPrice l G (fun q => McL adm q ∨ H1.size ≤ q) adm τ (xs (4 * i + 1)) (xs (4 * i + 2))) wML_L_104 wIM_X6_setPrice wSE_X6_X6_setPrice wIN_X6 wCO_X6_setPrice (by decide) rfl ⟨Nat.le_of_ble_eq_true rfl, Nat.le_of_ble_eq_true rfl⟩ (orec hE hM1.main (show mcl[8]? = some (RX6, TX6, 30) from rfl)) hS (fun q h => h.elim (fun h => hF.2.2 q h) (fun h => Nat.le_trans hS.1 h)) (fun q h => Or.inr h) (hM1.any (fun q h => Or.inl h)) rfl hl.1 (Nat.le_of_ble_eq_true rfl) dL_law_200 ⟨by show cc9 + 2 + 0 ≤ 601024; omega, by show ss9 + 12 + 0 ≤ 7293034; omega⟩ (fun E ce q9 H1 locs1 hx9 _ _ _ _ _ => hx9.elim) (fun v H2 locs2 hv2 hk2 hS => ?_)
      obtain ⟨x9, τ', rfl, hM2, hcm⟩ := hv2
      have hM3 : PM G (McL adm) adm τ' H2 := hM2.any (fun q h => h)
      have ho3 := ho2.kept (hk2.2 _ ho2.lt (fun h => h.elim hF.2.1 (fun h => absurd ho2.lt (Nat.not_lt.mpr h))))
      have hex : EXT G (AxL s.heap.size o adm) ad H1 N 1 τ' := by
        rcases sx_setPrice hR hI hx9 hcm with ⟨e1, z⟩ | ⟨e1, z⟩
        · exact z
        · exact absurd (eE.symm.trans e1) (by decide)
      obtain ⟨e27, ad', σ', qs', nT', nW', f', D', ea, hP3, hR2, hI2⟩ := hex
      have hP4 := hP3.kept hk2 (fun q h hlt h2 => h2.elim h.2.2 (fun h3 => absurd hlt (Nat.not_lt.mpr h3)))
      refine lv_istore (lv' := [(6, .int x9), (5, .int 1), (4, .int (nI (4 * i))), (0, .ref b), (1, .ref (ad 0 0)), (2, .ref (adm 30)), (3, .ref o)]) hx hb dL_law_203 hl (by decide) rfl (fun ls hl => ?_)
      refine lv_aload_n hx hb dL_law_205 rfl (lv_at hl 5 rfl) ?_
      refine hcallV (n := 0) C hE (kM_thrown l G (fun q => H2.size ≤ q) (McL adm) adm τ') wML_L_105 wIM_X6_thrown wSE_X6_X6_thrown wIN_X6 wCO_X6_thrown (by decide) rfl ⟨Nat.le_of_ble_eq_true rfl, Nat.le_of_ble_eq_true rfl⟩ (orec hE hM3.main (show mcl[8]? = some (RX6, TX6, 30) from rfl)) hS (fun q h => Nat.le_trans hS.1 h) (fun q h => h) hM3 rfl hl.1 (Nat.le_of_ble_eq_true rfl) dL_law_206 ⟨by show cc9 + 2 + 0 + 0 ≤ 601024; omega, by show ss9 + 12 + 0 + 0 ≤ 7293034; omega⟩ (fun E ce q9 H1 locs1 hx9 _ _ _ _ _ => hx9.elim) (fun v H3 locs3 hv3 hk3 hS => ?_)
      obtain rfl : v = some (.int 1) := by rw [hv3, e27]
      have hP5 := hP4.old hk3
      have hM5 := hM3.old hk3
      have ho5 := ho3.kept (hk3.2 _ ho3.lt (Nat.not_le.mpr ho3.lt))
      refine lv_iload hx hb dL_law_209 (lv_at hl 1 rfl) ?_
      refine lv_icmp_eq (tgt := 216) hx hb dL_law_211 (by decide) (fun c_211_4 => ?_) (fun c_211_4 => ?_)
      · refine lv_iload hx hb dL_law_216 (lv_at hl 1 rfl) ?_
        refine lv_if_ne (tgt := 233) hx hb dL_law_218 (by decide) (fun c_218_5 => ?_) (fun c_218_5 => ?_)
        · refine lv_goto (tgt := 1851) hx hb dL_law_233 (by decide) ?_
          exact kk H3 locs3 ls _ _ (show cc9 + 2 + 0 + 0 ≤ cc9 + 10 by omega) (show ss9 + 12 + 0 + 0 ≤ ss9 + 300 by omega) hS ⟨ad', σ', τ', qs', nT', nW', f', D', _, ea, hP5, hM5, ho5, hR2, hI2⟩ (lv_sub hl [2, 3, 4, 5, 6] rfl)
        · exact absurd c_218_5 (by decide)
      · exact absurd c_211_4 (by decide)
    · skip
      refine lv_istore (lv' := [(5, .int 2), (4, .int (nI (4 * i))), (0, .ref b), (1, .ref (ad 0 0)), (2, .ref (adm 30)), (3, .ref o)]) hx hb dL_law_185 hl (by decide) rfl (fun ls hl => ?_)
      refine lv_aload_n hx hb dL_law_187 rfl (lv_at hl 4 rfl) ?_
      refine lv_aload_n hx hb dL_law_188 rfl (lv_at hl 2 rfl) ?_
      refine lv_iload hx hb dL_law_189 (lv_at hl 1 rfl) ?_
      refine lv_iconst (v := 1) hx hb dL_law_191 (by decide) ?_
      refine lv_iadd hx hb dL_law_192 ?_
      rw [i4_1]
      refine va_sld hx hb hX hbl (Nat.not_le.mpr hbl) hS (vp_in_nI (show 4 * i + 1 < L by omega) (by omega)) dL_law_193 ?_
      rw [nI_clamp (show 4 * i + 1 < 2 ^ 31 by omega)]
      refine lv_aload_n hx hb dL_law_194 rfl (lv_at hl 2 rfl) ?_
      refine lv_iload hx hb dL_law_195 (lv_at hl 1 rfl) ?_
      refine lv_iconst (v := 2) hx hb dL_law_197 (by decide) ?_
      refine lv_iadd hx hb dL_law_198 ?_
      rw [i4_2]
      refine va_sld hx hb hX hbl (Nat.not_le.mpr hbl) hS (vp_in_nI (show 4 * i + 2 < L by omega) (by omega)) dL_law_199 ?_
      rw [nI_clamp (show 4 * i + 2 < 2 ^ 31 by omega)]
      refine hcallV (n := 2) C hE (kR_setPrice l G (fun q => McL adm q ∨ H1.size ≤ q) adm τ (xs (4 * i + 1)) (xs (4 * i + 2))) wML_L_104 wIM_X6_setPrice wSE_X6_X6_setPrice wIN_X6 wCO_X6_setPrice (by decide) rfl ⟨Nat.le_of_ble_eq_true rfl, Nat.le_of_ble_eq_true rfl⟩ (orec hE hM1.main (show mcl[8]? = some (RX6, TX6, 30) from rfl)) hS (fun q h => h.elim (fun h => hF.2.2 q h) (fun h => Nat.le_trans hS.1 h)) (fun q h => Or.inr h) (hM1.any (fun q h => Or.inl h)) rfl hl.1 (Nat.le_of_ble_eq_true rfl) dL_law_200 ⟨by show cc9 + 2 + 0 ≤ 601024; omega, by show ss9 + 12 + 0 ≤ 7293034; omega⟩ (fun E ce q9 H1 locs1 hx9 _ _ _ _ _ => hx9.elim) (fun v H2 locs2 hv2 hk2 hS => ?_)
      obtain ⟨x9, τ', rfl, hM2, hcm⟩ := hv2
      have hM3 : PM G (McL adm) adm τ' H2 := hM2.any (fun q h => h)
      have ho3 := ho2.kept (hk2.2 _ ho2.lt (fun h => h.elim hF.2.1 (fun h => absurd ho2.lt (Nat.not_lt.mpr h))))
      have hex : EXT G (AxL s.heap.size o adm) ad H1 N 2 τ' := by
        rcases sx_setPrice hR hI hx9 hcm with ⟨e1, z⟩ | ⟨e1, z⟩
        · exact absurd (eE.symm.trans e1) (by decide)
        · exact z
      obtain ⟨e27, ad', σ', qs', nT', nW', f', D', ea, hP3, hR2, hI2⟩ := hex
      have hP4 := hP3.kept hk2 (fun q h hlt h2 => h2.elim h.2.2 (fun h3 => absurd hlt (Nat.not_lt.mpr h3)))
      refine lv_istore (lv' := [(6, .int x9), (5, .int 2), (4, .int (nI (4 * i))), (0, .ref b), (1, .ref (ad 0 0)), (2, .ref (adm 30)), (3, .ref o)]) hx hb dL_law_203 hl (by decide) rfl (fun ls hl => ?_)
      refine lv_aload_n hx hb dL_law_205 rfl (lv_at hl 5 rfl) ?_
      refine hcallV (n := 0) C hE (kM_thrown l G (fun q => H2.size ≤ q) (McL adm) adm τ') wML_L_105 wIM_X6_thrown wSE_X6_X6_thrown wIN_X6 wCO_X6_thrown (by decide) rfl ⟨Nat.le_of_ble_eq_true rfl, Nat.le_of_ble_eq_true rfl⟩ (orec hE hM3.main (show mcl[8]? = some (RX6, TX6, 30) from rfl)) hS (fun q h => Nat.le_trans hS.1 h) (fun q h => h) hM3 rfl hl.1 (Nat.le_of_ble_eq_true rfl) dL_law_206 ⟨by show cc9 + 2 + 0 + 0 ≤ 601024; omega, by show ss9 + 12 + 0 + 0 ≤ 7293034; omega⟩ (fun E ce q9 H1 locs1 hx9 _ _ _ _ _ => hx9.elim) (fun v H3 locs3 hv3 hk3 hS => ?_)
      obtain rfl : v = some (.int 2) := by rw [hv3, e27]
      have hP5 := hP4.old hk3
      have hM5 := hM3.old hk3
      have ho5 := ho3.kept (hk3.2 _ ho3.lt (Nat.not_le.mpr ho3.lt))
      refine lv_iload hx hb dL_law_209 (lv_at hl 1 rfl) ?_
      refine lv_icmp_eq (tgt := 216) hx hb dL_law_211 (by decide) (fun c_211_6 => ?_) (fun c_211_6 => ?_)
      · refine lv_iload hx hb dL_law_216 (lv_at hl 1 rfl) ?_
        refine lv_if_ne (tgt := 233) hx hb dL_law_218 (by decide) (fun c_218_7 => ?_) (fun c_218_7 => ?_)
        · refine lv_goto (tgt := 1851) hx hb dL_law_233 (by decide) ?_
          exact kk H3 locs3 ls _ _ (show cc9 + 2 + 0 + 0 ≤ cc9 + 10 by omega) (show ss9 + 12 + 0 + 0 ≤ ss9 + 300 by omega) hS ⟨ad', σ', τ', qs', nT', nW', f', D', _, ea, hP5, hM5, ho5, hR2, hI2⟩ (lv_sub hl [2, 3, 4, 5, 6] rfl)
        · exact absurd c_218_7 (by decide)
      · exact absurd c_211_6 (by decide)
