set_option maxHeartbeats 4000000 in
set_option maxRecDepth 100000 in
theorem LC_goOut (l : Launch) (hl9 : l.stackTraces = false) {p : Program} {e : Env} {s : State} {m : MethodId} {below : List Frame} {meth : Method} {c : Code} {b L : Nat} {xs : Nat → Int32} {G : GE} {o a0 : Nat} {adm : Nat → Nat} (C : CallFix p m c cL_law 7 s #[Value.ref b] gTb RL) (hE : EN (fun q => s.heap.size ≤ q) G s s.heap) (hN : NCX s) (hX : va_X b L xs s s.heap) (hbl : b < s.heap.size) (hF : LFX s.heap.size o adm) (hL : L ≤ 2048) {i N cc9 ss9 : Nat} {Qw : State → Prop} {H : Heap} {locs : List Loc} {ls : Array Slot} (hi : 4 * i + 4 ≤ L) (hcc : cc9 ≤ 100 + 10 * i) (hss : ss9 ≤ 2000 + 300 * i) (hN2 : N < 1000) (hS : va_S (fun q => s.heap.size ≤ q) s.heap H locs) (hV : LINV G s.heap.size o a0 adm N H) (hl : lv_has ls 7 [(4, .int (nI (4 * i))), (0, .ref b), (1, .ref a0), (2, .ref (adm 30)), (3, .ref o)])
    (kk : ∀ (H1 : Heap) (locs1 : List Loc) (ls1 : Array Slot) (cc1 ss1 : Nat), cc1 ≤ cc9 + 10 → ss1 ≤ ss9 + 300 → va_S (fun q => s.heap.size ≤ q) s.heap H1 locs1 → LINV G s.heap.size o a0 adm (N + 1) H1 → lv_has ls1 7 [(4, .int (nI (4 * i))), (0, .ref b), (1, .ref a0), (2, .ref (adm 30)), (3, .ref o)] → W p l e room_1 s m #[Value.ref b] below meth c H1 locs1 cc1 ss1 Qw (F0 m 1851 ls1 [])) : W p l e room_1 s m #[Value.ref b] below meth c H locs cc9 ss9 Qw (F0 m 715 ls []) := by
  have hx := C.1
  have hb := C.2.1
  have hown := C.2.2.2.1
  have hts := C.2.2.2.2
  obtain ⟨ad, σ, τ, qs, nT, nW, f, D, y0, rfl, hP, hM, ho9, hR, hI⟩ := hV
  have h80 := hR.n80
  refine lv_aload_n hx hb dL_law_715 rfl (lv_at hl 2 rfl) ?_
  refine lv_aload_n hx hb dL_law_716 rfl (lv_at hl 1 rfl) ?_
  refine lv_iload hx hb dL_law_717 (lv_at hl 0 rfl) ?_
  refine lv_iconst (v := 1) hx hb dL_law_719 (by decide) ?_
  refine lv_iadd hx hb dL_law_720 ?_
  rw [i4_1]
  refine va_sld hx hb hX hbl (Nat.not_le.mpr hbl) hS (vp_in_nI (show 4 * i + 1 < L by omega) (by omega)) dL_law_721 ?_
  rw [nI_clamp (show 4 * i + 1 < 2 ^ 31 by omega)]
  refine lv_aload_n hx hb dL_law_722 rfl (lv_at hl 4 rfl) ?_
  refine hcallH (n := 3) C hE hN (hL_goOut l G (AxL s.heap.size o adm) (fun q => AxL s.heap.size o adm q ∨ q = o) o (fun q h => Or.inl h) (Or.inr rfl) (fun h => h.2.1 rfl) ad σ qs nT nW hl9 (xs (4 * i + 1)) h80.1 h80.2.1 (L_wf hR) (L_free hR) (L_len hR (by decide)) (L_pl hR) (L_v1 hR)) wML_L_132 wST_L_goOut wIN_L wCW_L_goOut (by decide) rfl ⟨Nat.le_of_ble_eq_true rfl, Nat.le_of_ble_eq_true rfl⟩ hS (fun q h => h.elim (fun h => h.1) (fun h => h ▸ hF.1)) (fun q h => Or.inl (AxL.new hM ho9 hS.1 q h)) ⟨hP, ⟨_, ho9⟩, fun q h => AxL.new hM ho9 hS.1 q h⟩ rfl hl.1 (Nat.le_of_ble_eq_true rfl) dL_law_723 ⟨by show cc9 + 2 ≤ 601024; omega, by show ss9 + 12 ≤ 7293034; omega⟩ (fun v H1 locs1 hv hk hS => ?_)
  have hM1 : PM G (McL adm) adm τ H1 := hM.keptL hk (fun q hq h => h.elim (fun h => h.2.2 hq) (fun h => hF.2.1 (h ▸ hq)))
  rcases hv with ⟨x, H0, rfl, hq, ho2, z2, oq2⟩ | ⟨E, hx9, hcode, y2, ho2⟩
  · skip
    refine lv_istore (lv' := [(5, .int 0), (4, .int (nI (4 * i))), (0, .ref b), (1, .ref (ad 0 0)), (2, .ref (adm 30)), (3, .ref o)]) hx hb dL_law_726 hl (by decide) rfl (fun ls hl => ?_)
    refine lv_aload_n hx hb dL_law_728 rfl (lv_at hl 4 rfl) ?_
    refine lv_aload_n hx hb dL_law_729 rfl (lv_at hl 2 rfl) ?_
    refine lv_iload hx hb dL_law_730 (lv_at hl 1 rfl) ?_
    refine lv_iconst (v := 1) hx hb dL_law_732 (by decide) ?_
    refine lv_iadd hx hb dL_law_733 ?_
    rw [i4_1]
    refine va_sld hx hb hX hbl (Nat.not_le.mpr hbl) hS (vp_in_nI (show 4 * i + 1 < L by omega) (by omega)) dL_law_734 ?_
    rw [nI_clamp (show 4 * i + 1 < 2 ^ 31 by omega)]
    refine hcallV (n := 1) C hE (kR_goOut l G (fun q => McL adm q ∨ H1.size ≤ q) adm τ (xs (4 * i + 1)) nT hR.1.2.2.2.1 h80.1 nW hR.1.2.2.2.2.1 h80.2.1 (L_wfm hR) (L_plm hR)) wML_L_134 wIM_X6_goOut wSE_X6_X6_goOut wIN_X6 wCO_X6_goOut (by decide) rfl ⟨Nat.le_of_ble_eq_true rfl, Nat.le_of_ble_eq_true rfl⟩ (orec hE hM1.main (show mcl[8]? = some (RX6, TX6, 30) from rfl)) hS (fun q h => h.elim (fun h => hF.2.2 q h) (fun h => Nat.le_trans hS.1 h)) (fun q h => Or.inr h) (hM1.any (fun q h => Or.inl h)) rfl hl.1 (Nat.le_of_ble_eq_true rfl) dL_law_735 ⟨by show cc9 + 2 + 0 ≤ 601024; omega, by show ss9 + 12 + 0 ≤ 7293034; omega⟩ (fun E ce q9 H1 locs1 hx9 _ _ _ _ _ => hx9.elim) (fun v H2 locs2 hv2 hk2 hS => ?_)
    obtain ⟨x9, τ', rfl, hM2, hcm⟩ := hv2
    have hM3 : PM G (McL adm) adm τ' H2 := hM2.any (fun q h => h)
    have ho3 := ho2.kept (hk2.2 _ ho2.lt (fun h => h.elim hF.2.1 (fun h => absurd ho2.lt (Nat.not_lt.mpr h))))
    obtain ⟨e27, ex, ad', σ', qs', nT', nW', f', D', ea, hP2, hR2, hI2⟩ := st_goOut hR hI hq hcm
    obtain rfl : x = x9 := by cases ex; rfl
    have hP3 := hP2.kept (A1 := fun q => q = o) ⟨Nat.le_of_eq z2.symm, fun q _ hne => oq2 q hne⟩ (fun q h _ e => h.2.1 e)
    have hP4 := hP3.kept hk2 (fun q h hlt h2 => h2.elim h.2.2 (fun h3 => absurd hlt (Nat.not_lt.mpr h3)))
    refine lv_istore (lv' := [(6, .int x), (5, .int 0), (4, .int (nI (4 * i))), (0, .ref b), (1, .ref (ad 0 0)), (2, .ref (adm 30)), (3, .ref o)]) hx hb dL_law_738 hl (by decide) rfl (fun ls hl => ?_)
    refine lv_aload_n hx hb dL_law_740 rfl (lv_at hl 5 rfl) ?_
    refine hcallV (n := 0) C hE (kM_thrown l G (fun q => H2.size ≤ q) (McL adm) adm τ') wML_L_105 wIM_X6_thrown wSE_X6_X6_thrown wIN_X6 wCO_X6_thrown (by decide) rfl ⟨Nat.le_of_ble_eq_true rfl, Nat.le_of_ble_eq_true rfl⟩ (orec hE hM3.main (show mcl[8]? = some (RX6, TX6, 30) from rfl)) hS (fun q h => Nat.le_trans hS.1 h) (fun q h => h) hM3 rfl hl.1 (Nat.le_of_ble_eq_true rfl) dL_law_741 ⟨by show cc9 + 2 + 0 + 0 ≤ 601024; omega, by show ss9 + 12 + 0 + 0 ≤ 7293034; omega⟩ (fun E ce q9 H1 locs1 hx9 _ _ _ _ _ => hx9.elim) (fun v H3 locs3 hv3 hk3 hS => ?_)
    obtain rfl : v = some (.int 0) := by rw [hv3, e27]
    have hP5 := hP4.old hk3
    have hM5 := hM3.old hk3
    have ho5 := ho3.kept (hk3.2 _ ho3.lt (Nat.not_le.mpr ho3.lt))
    refine lv_iload hx hb dL_law_744 (lv_at hl 1 rfl) ?_
    refine lv_icmp_eq (tgt := 751) hx hb dL_law_746 (by decide) (fun c_746_1 => ?_) (fun c_746_1 => ?_)
    · refine lv_iload hx hb dL_law_751 (lv_at hl 1 rfl) ?_
      refine lv_if_ne (tgt := 768) hx hb dL_law_753 (by decide) (fun c_753_2 => ?_) (fun c_753_2 => ?_)
      · exact absurd c_753_2 (by decide)
      · refine lv_aload_n hx hb dL_law_756 rfl (lv_at hl 6 rfl) ?_
        refine lv_iconst (v := 0) hx hb dL_law_757 (by decide) ?_
        refine xlald hx hb hE.1.1 ho5 dL_law_758 ?_
        refine lv_iload hx hb dL_law_759 (lv_at hl 0 rfl) ?_
        refine lv_i2l hx hb dL_law_761 rfl ?_
        refine W.lcmp hx hb dL_law_762 ?_
        rw [lcmp0]
        refine lv_if_eq (tgt := 768) hx hb dL_law_763 (by decide) (fun c_763_3 => ?_) (fun c_763_3 => ?_)
        · refine lv_goto (tgt := 1851) hx hb dL_law_768 (by decide) ?_
          exact kk H3 locs3 ls _ _ (show cc9 + 2 + 0 + 0 ≤ cc9 + 10 by omega) (show ss9 + 12 + 0 + 0 ≤ ss9 + 300 by omega) hS ⟨ad', σ', τ', qs', nT', nW', f', D', _, ea, hP5, hM5, ho5, hR2, hI2⟩ (lv_sub hl [2, 3, 4, 5, 6] rfl)
        · exact absurd c_763_3 (by decide)
    · exact absurd c_746_1 (by decide)
  · rcases hcode with ⟨eE, rfl⟩ | ⟨eE, rfl⟩
    · skip
      refine lv_istore (lv' := [(5, .int 1), (4, .int (nI (4 * i))), (0, .ref b), (1, .ref (ad 0 0)), (2, .ref (adm 30)), (3, .ref o)]) hx hb dL_law_726 hl (by decide) rfl (fun ls hl => ?_)
      refine lv_aload_n hx hb dL_law_728 rfl (lv_at hl 4 rfl) ?_
      refine lv_aload_n hx hb dL_law_729 rfl (lv_at hl 2 rfl) ?_
      refine lv_iload hx hb dL_law_730 (lv_at hl 1 rfl) ?_
      refine lv_iconst (v := 1) hx hb dL_law_732 (by decide) ?_
      refine lv_iadd hx hb dL_law_733 ?_
      rw [i4_1]
      refine va_sld hx hb hX hbl (Nat.not_le.mpr hbl) hS (vp_in_nI (show 4 * i + 1 < L by omega) (by omega)) dL_law_734 ?_
      rw [nI_clamp (show 4 * i + 1 < 2 ^ 31 by omega)]
      refine hcallV (n := 1) C hE (kR_goOut l G (fun q => McL adm q ∨ H1.size ≤ q) adm τ (xs (4 * i + 1)) nT hR.1.2.2.2.1 h80.1 nW hR.1.2.2.2.2.1 h80.2.1 (L_wfm hR) (L_plm hR)) wML_L_134 wIM_X6_goOut wSE_X6_X6_goOut wIN_X6 wCO_X6_goOut (by decide) rfl ⟨Nat.le_of_ble_eq_true rfl, Nat.le_of_ble_eq_true rfl⟩ (orec hE hM1.main (show mcl[8]? = some (RX6, TX6, 30) from rfl)) hS (fun q h => h.elim (fun h => hF.2.2 q h) (fun h => Nat.le_trans hS.1 h)) (fun q h => Or.inr h) (hM1.any (fun q h => Or.inl h)) rfl hl.1 (Nat.le_of_ble_eq_true rfl) dL_law_735 ⟨by show cc9 + 2 + 0 ≤ 601024; omega, by show ss9 + 12 + 0 ≤ 7293034; omega⟩ (fun E ce q9 H1 locs1 hx9 _ _ _ _ _ => hx9.elim) (fun v H2 locs2 hv2 hk2 hS => ?_)
      obtain ⟨x9, τ', rfl, hM2, hcm⟩ := hv2
      have hM3 : PM G (McL adm) adm τ' H2 := hM2.any (fun q h => h)
      have ho3 := ho2.kept (hk2.2 _ ho2.lt (fun h => h.elim hF.2.1 (fun h => absurd ho2.lt (Nat.not_lt.mpr h))))
      have hex : EXT G (AxL s.heap.size o adm) ad H1 N 1 τ' := by
        rcases sx_goOut hR hI hx9 hcm with ⟨e1, z⟩ | ⟨e1, z⟩
        · exact z
        · exact absurd (eE.symm.trans e1) (by decide)
      obtain ⟨e27, ad', σ', qs', nT', nW', f', D', ea, hP3, hR2, hI2⟩ := hex
      have hP4 := hP3.kept hk2 (fun q h hlt h2 => h2.elim h.2.2 (fun h3 => absurd hlt (Nat.not_lt.mpr h3)))
      refine lv_istore (lv' := [(6, .int x9), (5, .int 1), (4, .int (nI (4 * i))), (0, .ref b), (1, .ref (ad 0 0)), (2, .ref (adm 30)), (3, .ref o)]) hx hb dL_law_738 hl (by decide) rfl (fun ls hl => ?_)
      refine lv_aload_n hx hb dL_law_740 rfl (lv_at hl 5 rfl) ?_
      refine hcallV (n := 0) C hE (kM_thrown l G (fun q => H2.size ≤ q) (McL adm) adm τ') wML_L_105 wIM_X6_thrown wSE_X6_X6_thrown wIN_X6 wCO_X6_thrown (by decide) rfl ⟨Nat.le_of_ble_eq_true rfl, Nat.le_of_ble_eq_true rfl⟩ (orec hE hM3.main (show mcl[8]? = some (RX6, TX6, 30) from rfl)) hS (fun q h => Nat.le_trans hS.1 h) (fun q h => h) hM3 rfl hl.1 (Nat.le_of_ble_eq_true rfl) dL_law_741 ⟨by show cc9 + 2 + 0 + 0 ≤ 601024; omega, by show ss9 + 12 + 0 + 0 ≤ 7293034; omega⟩ (fun E ce q9 H1 locs1 hx9 _ _ _ _ _ => hx9.elim) (fun v H3 locs3 hv3 hk3 hS => ?_)
      obtain rfl : v = some (.int 1) := by rw [hv3, e27]
      have hP5 := hP4.old hk3
      have hM5 := hM3.old hk3
      have ho5 := ho3.kept (hk3.2 _ ho3.lt (Nat.not_le.mpr ho3.lt))
      refine lv_iload hx hb dL_law_744 (lv_at hl 1 rfl) ?_
      refine lv_icmp_eq (tgt := 751) hx hb dL_law_746 (by decide) (fun c_746_4 => ?_) (fun c_746_4 => ?_)
      · refine lv_iload hx hb dL_law_751 (lv_at hl 1 rfl) ?_
        refine lv_if_ne (tgt := 768) hx hb dL_law_753 (by decide) (fun c_753_5 => ?_) (fun c_753_5 => ?_)
        · refine lv_goto (tgt := 1851) hx hb dL_law_768 (by decide) ?_
          exact kk H3 locs3 ls _ _ (show cc9 + 2 + 0 + 0 ≤ cc9 + 10 by omega) (show ss9 + 12 + 0 + 0 ≤ ss9 + 300 by omega) hS ⟨ad', σ', τ', qs', nT', nW', f', D', _, ea, hP5, hM5, ho5, hR2, hI2⟩ (lv_sub hl [2, 3, 4, 5, 6] rfl)
        · exact absurd c_753_5 (by decide)
      · exact absurd c_746_4 (by decide)
    · skip
      refine lv_istore (lv' := [(5, .int 2), (4, .int (nI (4 * i))), (0, .ref b), (1, .ref (ad 0 0)), (2, .ref (adm 30)), (3, .ref o)]) hx hb dL_law_726 hl (by decide) rfl (fun ls hl => ?_)
      refine lv_aload_n hx hb dL_law_728 rfl (lv_at hl 4 rfl) ?_
      refine lv_aload_n hx hb dL_law_729 rfl (lv_at hl 2 rfl) ?_
      refine lv_iload hx hb dL_law_730 (lv_at hl 1 rfl) ?_
      refine lv_iconst (v := 1) hx hb dL_law_732 (by decide) ?_
      refine lv_iadd hx hb dL_law_733 ?_
      rw [i4_1]
      refine va_sld hx hb hX hbl (Nat.not_le.mpr hbl) hS (vp_in_nI (show 4 * i + 1 < L by omega) (by omega)) dL_law_734 ?_
      rw [nI_clamp (show 4 * i + 1 < 2 ^ 31 by omega)]
      refine hcallV (n := 1) C hE (kR_goOut l G (fun q => McL adm q ∨ H1.size ≤ q) adm τ (xs (4 * i + 1)) nT hR.1.2.2.2.1 h80.1 nW hR.1.2.2.2.2.1 h80.2.1 (L_wfm hR) (L_plm hR)) wML_L_134 wIM_X6_goOut wSE_X6_X6_goOut wIN_X6 wCO_X6_goOut (by decide) rfl ⟨Nat.le_of_ble_eq_true rfl, Nat.le_of_ble_eq_true rfl⟩ (orec hE hM1.main (show mcl[8]? = some (RX6, TX6, 30) from rfl)) hS (fun q h => h.elim (fun h => hF.2.2 q h) (fun h => Nat.le_trans hS.1 h)) (fun q h => Or.inr h) (hM1.any (fun q h => Or.inl h)) rfl hl.1 (Nat.le_of_ble_eq_true rfl) dL_law_735 ⟨by show cc9 + 2 + 0 ≤ 601024; omega, by show ss9 + 12 + 0 ≤ 7293034; omega⟩ (fun E ce q9 H1 locs1 hx9 _ _ _ _ _ => hx9.elim) (fun v H2 locs2 hv2 hk2 hS => ?_)
      obtain ⟨x9, τ', rfl, hM2, hcm⟩ := hv2
      have hM3 : PM G (McL adm) adm τ' H2 := hM2.any (fun q h => h)
      have ho3 := ho2.kept (hk2.2 _ ho2.lt (fun h => h.elim hF.2.1 (fun h => absurd ho2.lt (Nat.not_lt.mpr h))))
      have hex : EXT G (AxL s.heap.size o adm) ad H1 N 2 τ' := by
        rcases sx_goOut hR hI hx9 hcm with ⟨e1, z⟩ | ⟨e1, z⟩
        · exact absurd (eE.symm.trans e1) (by decide)
        · exact z
      obtain ⟨e27, ad', σ', qs', nT', nW', f', D', ea, hP3, hR2, hI2⟩ := hex
      have hP4 := hP3.kept hk2 (fun q h hlt h2 => h2.elim h.2.2 (fun h3 => absurd hlt (Nat.not_lt.mpr h3)))
      refine lv_istore (lv' := [(6, .int x9), (5, .int 2), (4, .int (nI (4 * i))), (0, .ref b), (1, .ref (ad 0 0)), (2, .ref (adm 30)), (3, .ref o)]) hx hb dL_law_738 hl (by decide) rfl (fun ls hl => ?_)
      refine lv_aload_n hx hb dL_law_740 rfl (lv_at hl 5 rfl) ?_
      refine hcallV (n := 0) C hE (kM_thrown l G (fun q => H2.size ≤ q) (McL adm) adm τ') wML_L_105 wIM_X6_thrown wSE_X6_X6_thrown wIN_X6 wCO_X6_thrown (by decide) rfl ⟨Nat.le_of_ble_eq_true rfl, Nat.le_of_ble_eq_true rfl⟩ (orec hE hM3.main (show mcl[8]? = some (RX6, TX6, 30) from rfl)) hS (fun q h => Nat.le_trans hS.1 h) (fun q h => h) hM3 rfl hl.1 (Nat.le_of_ble_eq_true rfl) dL_law_741 ⟨by show cc9 + 2 + 0 + 0 ≤ 601024; omega, by show ss9 + 12 + 0 + 0 ≤ 7293034; omega⟩ (fun E ce q9 H1 locs1 hx9 _ _ _ _ _ => hx9.elim) (fun v H3 locs3 hv3 hk3 hS => ?_)
      obtain rfl : v = some (.int 2) := by rw [hv3, e27]
      have hP5 := hP4.old hk3
      have hM5 := hM3.old hk3
      have ho5 := ho3.kept (hk3.2 _ ho3.lt (Nat.not_le.mpr ho3.lt))
      refine lv_iload hx hb dL_law_744 (lv_at hl 1 rfl) ?_
      refine lv_icmp_eq (tgt := 751) hx hb dL_law_746 (by decide) (fun c_746_6 => ?_) (fun c_746_6 => ?_)
      · refine lv_iload hx hb dL_law_751 (lv_at hl 1 rfl) ?_
        refine lv_if_ne (tgt := 768) hx hb dL_law_753 (by decide) (fun c_753_7 => ?_) (fun c_753_7 => ?_)
        · refine lv_goto (tgt := 1851) hx hb dL_law_768 (by decide) ?_
          exact kk H3 locs3 ls _ _ (show cc9 + 2 + 0 + 0 ≤ cc9 + 10 by omega) (show ss9 + 12 + 0 + 0 ≤ ss9 + 300 by omega) hS ⟨ad', σ', τ', qs', nT', nW', f', D', _, ea, hP5, hM5, ho5, hR2, hI2⟩ (lv_sub hl [2, 3, 4, 5, 6] rfl)
        · exact absurd c_753_7 (by decide)
      · exact absurd c_746_6 (by decide)
set_option maxHeartbeats 4000000 in
set_option maxRecDepth 100000 in
theorem LC_addWork (l : Launch) (hl9 : l.stackTraces = false) {p : Program} {e : Env} {s : State} {m : MethodId} {below : List Frame} {meth : Method} {c : Code} {b L : Nat} {xs : Nat → Int32} {G : GE} {o a0 : Nat} {adm : Nat → Nat} (C : CallFix p m c cL_law 7 s #[Value.ref b] gTb RL) (hE : EN (fun q => s.heap.size ≤ q) G s s.heap) (hN : NCX s) (hX : va_X b L xs s s.heap) (hbl : b < s.heap.size) (hF : LFX s.heap.size o adm) (hL : L ≤ 2048) {i N cc9 ss9 : Nat} {Qw : State → Prop} {H : Heap} {locs : List Loc} {ls : Array Slot} (hi : 4 * i + 4 ≤ L) (hcc : cc9 ≤ 100 + 10 * i) (hss : ss9 ≤ 2000 + 300 * i) (hN2 : N < 1000) (hS : va_S (fun q => s.heap.size ≤ q) s.heap H locs) (hV : LINV G s.heap.size o a0 adm N H) (hl : lv_has ls 7 [(4, .int (nI (4 * i))), (0, .ref b), (1, .ref a0), (2, .ref (adm 30)), (3, .ref o)])
    (kk : ∀ (H1 : Heap) (locs1 : List Loc) (ls1 : Array Slot) (cc1 ss1 : Nat), cc1 ≤ cc9 + 10 → ss1 ≤ ss9 + 300 → va_S (fun q => s.heap.size ≤ q) s.heap H1 locs1 → LINV G s.heap.size o a0 adm (N + 1) H1 → lv_has ls1 7 [(4, .int (nI (4 * i))), (0, .ref b), (1, .ref a0), (2, .ref (adm 30)), (3, .ref o)] → W p l e room_1 s m #[Value.ref b] below meth c H1 locs1 cc1 ss1 Qw (F0 m 1851 ls1 [])) : W p l e room_1 s m #[Value.ref b] below meth c H locs cc9 ss9 Qw (F0 m 771 ls []) := by
  have hx := C.1
  have hb := C.2.1
  have hown := C.2.2.2.1
  have hts := C.2.2.2.2
  obtain ⟨ad, σ, τ, qs, nT, nW, f, D, y0, rfl, hP, hM, ho9, hR, hI⟩ := hV
  have h80 := hR.n80
  refine lv_aload_n hx hb dL_law_771 rfl (lv_at hl 2 rfl) ?_
  refine lv_aload_n hx hb dL_law_772 rfl (lv_at hl 1 rfl) ?_
  refine lv_iload hx hb dL_law_773 (lv_at hl 0 rfl) ?_
  refine lv_iconst (v := 1) hx hb dL_law_775 (by decide) ?_
  refine lv_iadd hx hb dL_law_776 ?_
  rw [i4_1]
  refine va_sld hx hb hX hbl (Nat.not_le.mpr hbl) hS (vp_in_nI (show 4 * i + 1 < L by omega) (by omega)) dL_law_777 ?_
  rw [nI_clamp (show 4 * i + 1 < 2 ^ 31 by omega)]
  refine lv_aload_n hx hb dL_law_778 rfl (lv_at hl 4 rfl) ?_
  refine hcallH (n := 3) C hE hN (hL_addWork l G (AxL s.heap.size o adm) (fun q => AxL s.heap.size o adm q ∨ q = o) o (fun q h => Or.inl h) (Or.inr rfl) (fun h => h.2.1 rfl) ad σ qs nT nW hl9 (xs (4 * i + 1)) h80.2.1) wML_L_135 wST_L_addWork wIN_L wCW_L_addWork (by decide) rfl ⟨Nat.le_of_ble_eq_true rfl, Nat.le_of_ble_eq_true rfl⟩ hS (fun q h => h.elim (fun h => h.1) (fun h => h ▸ hF.1)) (fun q h => Or.inl (AxL.new hM ho9 hS.1 q h)) ⟨hP, ⟨_, ho9⟩, fun q h => AxL.new hM ho9 hS.1 q h⟩ rfl hl.1 (Nat.le_of_ble_eq_true rfl) dL_law_779 ⟨by show cc9 + 6 ≤ 601024; omega, by show ss9 + 250 ≤ 7293034; omega⟩ (fun v H1 locs1 hv hk hS => ?_)
  have hM1 : PM G (McL adm) adm τ H1 := hM.keptL hk (fun q hq h => h.elim (fun h => h.2.2 hq) (fun h => hF.2.1 (h ▸ hq)))
  rcases hv with ⟨x, H0, rfl, hq, ho2, z2, oq2⟩ | ⟨E, hx9, hcode, y2, ho2⟩
  · skip
    refine lv_istore (lv' := [(5, .int 0), (4, .int (nI (4 * i))), (0, .ref b), (1, .ref (ad 0 0)), (2, .ref (adm 30)), (3, .ref o)]) hx hb dL_law_782 hl (by decide) rfl (fun ls hl => ?_)
    refine lv_aload_n hx hb dL_law_784 rfl (lv_at hl 4 rfl) ?_
    refine lv_aload_n hx hb dL_law_785 rfl (lv_at hl 2 rfl) ?_
    refine lv_iload hx hb dL_law_786 (lv_at hl 1 rfl) ?_
    refine lv_iconst (v := 1) hx hb dL_law_788 (by decide) ?_
    refine lv_iadd hx hb dL_law_789 ?_
    rw [i4_1]
    refine va_sld hx hb hX hbl (Nat.not_le.mpr hbl) hS (vp_in_nI (show 4 * i + 1 < L by omega) (by omega)) dL_law_790 ?_
    rw [nI_clamp (show 4 * i + 1 < 2 ^ 31 by omega)]
    refine hcallV (n := 1) C hE (kR_addWork l G (fun q => McL adm q ∨ H1.size ≤ q) adm τ (xs (4 * i + 1)) nW hR.1.2.2.2.2.1 h80.2.1) wML_L_137 wIM_X6_addWork wSE_X6_X6_addWork wIN_X6 wCO_X6_addWork (by decide) rfl ⟨Nat.le_of_ble_eq_true rfl, Nat.le_of_ble_eq_true rfl⟩ (orec hE hM1.main (show mcl[8]? = some (RX6, TX6, 30) from rfl)) hS (fun q h => h.elim (fun h => hF.2.2 q h) (fun h => Nat.le_trans hS.1 h)) (fun q h => Or.inr h) (hM1.any (fun q h => Or.inl h)) rfl hl.1 (Nat.le_of_ble_eq_true rfl) dL_law_791 ⟨by show cc9 + 6 + 0 ≤ 601024; omega, by show ss9 + 250 + 0 ≤ 7293034; omega⟩ (fun E ce q9 H1 locs1 hx9 _ _ _ _ _ => hx9.elim) (fun v H2 locs2 hv2 hk2 hS => ?_)
    obtain ⟨x9, τ', rfl, hM2, hcm⟩ := hv2
    have hM3 : PM G (McL adm) adm τ' H2 := hM2.any (fun q h => h)
    have ho3 := ho2.kept (hk2.2 _ ho2.lt (fun h => h.elim hF.2.1 (fun h => absurd ho2.lt (Nat.not_lt.mpr h))))
    obtain ⟨e27, ex, ad', σ', qs', nT', nW', f', D', ea, hP2, hR2, hI2⟩ := st_addWork hR hI hq hcm
    obtain rfl : x = x9 := by cases ex; rfl
    have hP3 := hP2.kept (A1 := fun q => q = o) ⟨Nat.le_of_eq z2.symm, fun q _ hne => oq2 q hne⟩ (fun q h _ e => h.2.1 e)
    have hP4 := hP3.kept hk2 (fun q h hlt h2 => h2.elim h.2.2 (fun h3 => absurd hlt (Nat.not_lt.mpr h3)))
    refine lv_istore (lv' := [(6, .int x), (5, .int 0), (4, .int (nI (4 * i))), (0, .ref b), (1, .ref (ad 0 0)), (2, .ref (adm 30)), (3, .ref o)]) hx hb dL_law_794 hl (by decide) rfl (fun ls hl => ?_)
    refine lv_aload_n hx hb dL_law_796 rfl (lv_at hl 5 rfl) ?_
    refine hcallV (n := 0) C hE (kM_thrown l G (fun q => H2.size ≤ q) (McL adm) adm τ') wML_L_105 wIM_X6_thrown wSE_X6_X6_thrown wIN_X6 wCO_X6_thrown (by decide) rfl ⟨Nat.le_of_ble_eq_true rfl, Nat.le_of_ble_eq_true rfl⟩ (orec hE hM3.main (show mcl[8]? = some (RX6, TX6, 30) from rfl)) hS (fun q h => Nat.le_trans hS.1 h) (fun q h => h) hM3 rfl hl.1 (Nat.le_of_ble_eq_true rfl) dL_law_797 ⟨by show cc9 + 6 + 0 + 0 ≤ 601024; omega, by show ss9 + 250 + 0 + 0 ≤ 7293034; omega⟩ (fun E ce q9 H1 locs1 hx9 _ _ _ _ _ => hx9.elim) (fun v H3 locs3 hv3 hk3 hS => ?_)
    obtain rfl : v = some (.int 0) := by rw [hv3, e27]
    have hP5 := hP4.old hk3
    have hM5 := hM3.old hk3
    have ho5 := ho3.kept (hk3.2 _ ho3.lt (Nat.not_le.mpr ho3.lt))
    refine lv_iload hx hb dL_law_800 (lv_at hl 1 rfl) ?_
    refine lv_icmp_eq (tgt := 807) hx hb dL_law_802 (by decide) (fun c_802_1 => ?_) (fun c_802_1 => ?_)
    · refine lv_iload hx hb dL_law_807 (lv_at hl 1 rfl) ?_
      refine lv_if_ne (tgt := 824) hx hb dL_law_809 (by decide) (fun c_809_2 => ?_) (fun c_809_2 => ?_)
      · exact absurd c_809_2 (by decide)
      · refine lv_aload_n hx hb dL_law_812 rfl (lv_at hl 6 rfl) ?_
        refine lv_iconst (v := 0) hx hb dL_law_813 (by decide) ?_
        refine xlald hx hb hE.1.1 ho5 dL_law_814 ?_
        refine lv_iload hx hb dL_law_815 (lv_at hl 0 rfl) ?_
        refine lv_i2l hx hb dL_law_817 rfl ?_
        refine W.lcmp hx hb dL_law_818 ?_
        rw [lcmp0]
        refine lv_if_eq (tgt := 824) hx hb dL_law_819 (by decide) (fun c_819_3 => ?_) (fun c_819_3 => ?_)
        · refine lv_goto (tgt := 1851) hx hb dL_law_824 (by decide) ?_
          exact kk H3 locs3 ls _ _ (show cc9 + 6 + 0 + 0 ≤ cc9 + 10 by omega) (show ss9 + 250 + 0 + 0 ≤ ss9 + 300 by omega) hS ⟨ad', σ', τ', qs', nT', nW', f', D', _, ea, hP5, hM5, ho5, hR2, hI2⟩ (lv_sub hl [2, 3, 4, 5, 6] rfl)
        · exact absurd c_819_3 (by decide)
    · exact absurd c_802_1 (by decide)
  · rcases hcode with ⟨eE, rfl⟩ | ⟨eE, rfl⟩
    · skip
      refine lv_istore (lv' := [(5, .int 1), (4, .int (nI (4 * i))), (0, .ref b), (1, .ref (ad 0 0)), (2, .ref (adm 30)), (3, .ref o)]) hx hb dL_law_782 hl (by decide) rfl (fun ls hl => ?_)
      refine lv_aload_n hx hb dL_law_784 rfl (lv_at hl 4 rfl) ?_
      refine lv_aload_n hx hb dL_law_785 rfl (lv_at hl 2 rfl) ?_
      refine lv_iload hx hb dL_law_786 (lv_at hl 1 rfl) ?_
      refine lv_iconst (v := 1) hx hb dL_law_788 (by decide) ?_
      refine lv_iadd hx hb dL_law_789 ?_
      rw [i4_1]
      refine va_sld hx hb hX hbl (Nat.not_le.mpr hbl) hS (vp_in_nI (show 4 * i + 1 < L by omega) (by omega)) dL_law_790 ?_
      rw [nI_clamp (show 4 * i + 1 < 2 ^ 31 by omega)]
      refine hcallV (n := 1) C hE (kR_addWork l G (fun q => McL adm q ∨ H1.size ≤ q) adm τ (xs (4 * i + 1)) nW hR.1.2.2.2.2.1 h80.2.1) wML_L_137 wIM_X6_addWork wSE_X6_X6_addWork wIN_X6 wCO_X6_addWork (by decide) rfl ⟨Nat.le_of_ble_eq_true rfl, Nat.le_of_ble_eq_true rfl⟩ (orec hE hM1.main (show mcl[8]? = some (RX6, TX6, 30) from rfl)) hS (fun q h => h.elim (fun h => hF.2.2 q h) (fun h => Nat.le_trans hS.1 h)) (fun q h => Or.inr h) (hM1.any (fun q h => Or.inl h)) rfl hl.1 (Nat.le_of_ble_eq_true rfl) dL_law_791 ⟨by show cc9 + 6 + 0 ≤ 601024; omega, by show ss9 + 250 + 0 ≤ 7293034; omega⟩ (fun E ce q9 H1 locs1 hx9 _ _ _ _ _ => hx9.elim) (fun v H2 locs2 hv2 hk2 hS => ?_)
      obtain ⟨x9, τ', rfl, hM2, hcm⟩ := hv2
      have hM3 : PM G (McL adm) adm τ' H2 := hM2.any (fun q h => h)
      have ho3 := ho2.kept (hk2.2 _ ho2.lt (fun h => h.elim hF.2.1 (fun h => absurd ho2.lt (Nat.not_lt.mpr h))))
      have hex : EXT G (AxL s.heap.size o adm) ad H1 N 1 τ' := by
        rcases sx_addWork hR hI hx9 hcm with ⟨e1, z⟩ | ⟨e1, z⟩
        · exact z
        · exact absurd (eE.symm.trans e1) (by decide)
      obtain ⟨e27, ad', σ', qs', nT', nW', f', D', ea, hP3, hR2, hI2⟩ := hex
      have hP4 := hP3.kept hk2 (fun q h hlt h2 => h2.elim h.2.2 (fun h3 => absurd hlt (Nat.not_lt.mpr h3)))
      refine lv_istore (lv' := [(6, .int x9), (5, .int 1), (4, .int (nI (4 * i))), (0, .ref b), (1, .ref (ad 0 0)), (2, .ref (adm 30)), (3, .ref o)]) hx hb dL_law_794 hl (by decide) rfl (fun ls hl => ?_)
      refine lv_aload_n hx hb dL_law_796 rfl (lv_at hl 5 rfl) ?_
      refine hcallV (n := 0) C hE (kM_thrown l G (fun q => H2.size ≤ q) (McL adm) adm τ') wML_L_105 wIM_X6_thrown wSE_X6_X6_thrown wIN_X6 wCO_X6_thrown (by decide) rfl ⟨Nat.le_of_ble_eq_true rfl, Nat.le_of_ble_eq_true rfl⟩ (orec hE hM3.main (show mcl[8]? = some (RX6, TX6, 30) from rfl)) hS (fun q h => Nat.le_trans hS.1 h) (fun q h => h) hM3 rfl hl.1 (Nat.le_of_ble_eq_true rfl) dL_law_797 ⟨by show cc9 + 6 + 0 + 0 ≤ 601024; omega, by show ss9 + 250 + 0 + 0 ≤ 7293034; omega⟩ (fun E ce q9 H1 locs1 hx9 _ _ _ _ _ => hx9.elim) (fun v H3 locs3 hv3 hk3 hS => ?_)
      obtain rfl : v = some (.int 1) := by rw [hv3, e27]
      have hP5 := hP4.old hk3
      have hM5 := hM3.old hk3
      have ho5 := ho3.kept (hk3.2 _ ho3.lt (Nat.not_le.mpr ho3.lt))
      refine lv_iload hx hb dL_law_800 (lv_at hl 1 rfl) ?_
      refine lv_icmp_eq (tgt := 807) hx hb dL_law_802 (by decide) (fun c_802_4 => ?_) (fun c_802_4 => ?_)
      · refine lv_iload hx hb dL_law_807 (lv_at hl 1 rfl) ?_
        refine lv_if_ne (tgt := 824) hx hb dL_law_809 (by decide) (fun c_809_5 => ?_) (fun c_809_5 => ?_)
        · refine lv_goto (tgt := 1851) hx hb dL_law_824 (by decide) ?_
          exact kk H3 locs3 ls _ _ (show cc9 + 6 + 0 + 0 ≤ cc9 + 10 by omega) (show ss9 + 250 + 0 + 0 ≤ ss9 + 300 by omega) hS ⟨ad', σ', τ', qs', nT', nW', f', D', _, ea, hP5, hM5, ho5, hR2, hI2⟩ (lv_sub hl [2, 3, 4, 5, 6] rfl)
        · exact absurd c_809_5 (by decide)
      · exact absurd c_802_4 (by decide)
    · skip
      refine lv_istore (lv' := [(5, .int 2), (4, .int (nI (4 * i))), (0, .ref b), (1, .ref (ad 0 0)), (2, .ref (adm 30)), (3, .ref o)]) hx hb dL_law_782 hl (by decide) rfl (fun ls hl => ?_)
      refine lv_aload_n hx hb dL_law_784 rfl (lv_at hl 4 rfl) ?_
      refine lv_aload_n hx hb dL_law_785 rfl (lv_at hl 2 rfl) ?_
      refine lv_iload hx hb dL_law_786 (lv_at hl 1 rfl) ?_
      refine lv_iconst (v := 1) hx hb dL_law_788 (by decide) ?_
      refine lv_iadd hx hb dL_law_789 ?_
      rw [i4_1]
      refine va_sld hx hb hX hbl (Nat.not_le.mpr hbl) hS (vp_in_nI (show 4 * i + 1 < L by omega) (by omega)) dL_law_790 ?_
      rw [nI_clamp (show 4 * i + 1 < 2 ^ 31 by omega)]
      refine hcallV (n := 1) C hE (kR_addWork l G (fun q => McL adm q ∨ H1.size ≤ q) adm τ (xs (4 * i + 1)) nW hR.1.2.2.2.2.1 h80.2.1) wML_L_137 wIM_X6_addWork wSE_X6_X6_addWork wIN_X6 wCO_X6_addWork (by decide) rfl ⟨Nat.le_of_ble_eq_true rfl, Nat.le_of_ble_eq_true rfl⟩ (orec hE hM1.main (show mcl[8]? = some (RX6, TX6, 30) from rfl)) hS (fun q h => h.elim (fun h => hF.2.2 q h) (fun h => Nat.le_trans hS.1 h)) (fun q h => Or.inr h) (hM1.any (fun q h => Or.inl h)) rfl hl.1 (Nat.le_of_ble_eq_true rfl) dL_law_791 ⟨by show cc9 + 6 + 0 ≤ 601024; omega, by show ss9 + 250 + 0 ≤ 7293034; omega⟩ (fun E ce q9 H1 locs1 hx9 _ _ _ _ _ => hx9.elim) (fun v H2 locs2 hv2 hk2 hS => ?_)
      obtain ⟨x9, τ', rfl, hM2, hcm⟩ := hv2
      have hM3 : PM G (McL adm) adm τ' H2 := hM2.any (fun q h => h)
      have ho3 := ho2.kept (hk2.2 _ ho2.lt (fun h => h.elim hF.2.1 (fun h => absurd ho2.lt (Nat.not_lt.mpr h))))
      have hex : EXT G (AxL s.heap.size o adm) ad H1 N 2 τ' := by
        rcases sx_addWork hR hI hx9 hcm with ⟨e1, z⟩ | ⟨e1, z⟩
        · exact absurd (eE.symm.trans e1) (by decide)
        · exact z
      obtain ⟨e27, ad', σ', qs', nT', nW', f', D', ea, hP3, hR2, hI2⟩ := hex
      have hP4 := hP3.kept hk2 (fun q h hlt h2 => h2.elim h.2.2 (fun h3 => absurd hlt (Nat.not_lt.mpr h3)))
      refine lv_istore (lv' := [(6, .int x9), (5, .int 2), (4, .int (nI (4 * i))), (0, .ref b), (1, .ref (ad 0 0)), (2, .ref (adm 30)), (3, .ref o)]) hx hb dL_law_794 hl (by decide) rfl (fun ls hl => ?_)
      refine lv_aload_n hx hb dL_law_796 rfl (lv_at hl 5 rfl) ?_
      refine hcallV (n := 0) C hE (kM_thrown l G (fun q => H2.size ≤ q) (McL adm) adm τ') wML_L_105 wIM_X6_thrown wSE_X6_X6_thrown wIN_X6 wCO_X6_thrown (by decide) rfl ⟨Nat.le_of_ble_eq_true rfl, Nat.le_of_ble_eq_true rfl⟩ (orec hE hM3.main (show mcl[8]? = some (RX6, TX6, 30) from rfl)) hS (fun q h => Nat.le_trans hS.1 h) (fun q h => h) hM3 rfl hl.1 (Nat.le_of_ble_eq_true rfl) dL_law_797 ⟨by show cc9 + 6 + 0 + 0 ≤ 601024; omega, by show ss9 + 250 + 0 + 0 ≤ 7293034; omega⟩ (fun E ce q9 H1 locs1 hx9 _ _ _ _ _ => hx9.elim) (fun v H3 locs3 hv3 hk3 hS => ?_)
      obtain rfl : v = some (.int 2) := by rw [hv3, e27]
      have hP5 := hP4.old hk3
      have hM5 := hM3.old hk3
      have ho5 := ho3.kept (hk3.2 _ ho3.lt (Nat.not_le.mpr ho3.lt))
      refine lv_iload hx hb dL_law_800 (lv_at hl 1 rfl) ?_
      refine lv_icmp_eq (tgt := 807) hx hb dL_law_802 (by decide) (fun c_802_6 => ?_) (fun c_802_6 => ?_)
      · refine lv_iload hx hb dL_law_807 (lv_at hl 1 rfl) ?_
        refine lv_if_ne (tgt := 824) hx hb dL_law_809 (by decide) (fun c_809_7 => ?_) (fun c_809_7 => ?_)
        · refine lv_goto (tgt := 1851) hx hb dL_law_824 (by decide) ?_
          exact kk H3 locs3 ls _ _ (show cc9 + 6 + 0 + 0 ≤ cc9 + 10 by omega) (show ss9 + 250 + 0 + 0 ≤ ss9 + 300 by omega) hS ⟨ad', σ', τ', qs', nT', nW', f', D', _, ea, hP5, hM5, ho5, hR2, hI2⟩ (lv_sub hl [2, 3, 4, 5, 6] rfl)
        · exact absurd c_809_7 (by decide)
      · exact absurd c_802_6 (by decide)
set_option maxHeartbeats 4000000 in
set_option maxRecDepth 100000 in
theorem LC_hang (l : Launch) (hl9 : l.stackTraces = false) {p : Program} {e : Env} {s : State} {m : MethodId} {below : List Frame} {meth : Method} {c : Code} {b L : Nat} {xs : Nat → Int32} {G : GE} {o a0 : Nat} {adm : Nat → Nat} (C : CallFix p m c cL_law 7 s #[Value.ref b] gTb RL) (hE : EN (fun q => s.heap.size ≤ q) G s s.heap) (hN : NCX s) (hX : va_X b L xs s s.heap) (hbl : b < s.heap.size) (hF : LFX s.heap.size o adm) (hL : L ≤ 2048) {i N cc9 ss9 : Nat} {Qw : State → Prop} {H : Heap} {locs : List Loc} {ls : Array Slot} (hi : 4 * i + 4 ≤ L) (hcc : cc9 ≤ 100 + 10 * i) (hss : ss9 ≤ 2000 + 300 * i) (hN2 : N < 1000) (hS : va_S (fun q => s.heap.size ≤ q) s.heap H locs) (hV : LINV G s.heap.size o a0 adm N H) (hl : lv_has ls 7 [(4, .int (nI (4 * i))), (0, .ref b), (1, .ref a0), (2, .ref (adm 30)), (3, .ref o)])
    (kk : ∀ (H1 : Heap) (locs1 : List Loc) (ls1 : Array Slot) (cc1 ss1 : Nat), cc1 ≤ cc9 + 10 → ss1 ≤ ss9 + 300 → va_S (fun q => s.heap.size ≤ q) s.heap H1 locs1 → LINV G s.heap.size o a0 adm (N + 1) H1 → lv_has ls1 7 [(4, .int (nI (4 * i))), (0, .ref b), (1, .ref a0), (2, .ref (adm 30)), (3, .ref o)] → W p l e room_1 s m #[Value.ref b] below meth c H1 locs1 cc1 ss1 Qw (F0 m 1851 ls1 [])) : W p l e room_1 s m #[Value.ref b] below meth c H locs cc9 ss9 Qw (F0 m 827 ls []) := by
  have hx := C.1
  have hb := C.2.1
  have hown := C.2.2.2.1
  have hts := C.2.2.2.2
  obtain ⟨ad, σ, τ, qs, nT, nW, f, D, y0, rfl, hP, hM, ho9, hR, hI⟩ := hV
  have h80 := hR.n80
  refine lv_aload_n hx hb dL_law_827 rfl (lv_at hl 2 rfl) ?_
  refine lv_aload_n hx hb dL_law_828 rfl (lv_at hl 1 rfl) ?_
  refine lv_iload hx hb dL_law_829 (lv_at hl 0 rfl) ?_
  refine lv_iconst (v := 1) hx hb dL_law_831 (by decide) ?_
  refine lv_iadd hx hb dL_law_832 ?_
  rw [i4_1]
  refine va_sld hx hb hX hbl (Nat.not_le.mpr hbl) hS (vp_in_nI (show 4 * i + 1 < L by omega) (by omega)) dL_law_833 ?_
  rw [nI_clamp (show 4 * i + 1 < 2 ^ 31 by omega)]
  refine lv_aload_n hx hb dL_law_834 rfl (lv_at hl 1 rfl) ?_
  refine lv_iload hx hb dL_law_835 (lv_at hl 0 rfl) ?_
  refine lv_iconst (v := 2) hx hb dL_law_837 (by decide) ?_
  refine lv_iadd hx hb dL_law_838 ?_
  rw [i4_2]
  refine va_sld hx hb hX hbl (Nat.not_le.mpr hbl) hS (vp_in_nI (show 4 * i + 2 < L by omega) (by omega)) dL_law_839 ?_
  rw [nI_clamp (show 4 * i + 2 < 2 ^ 31 by omega)]
  refine lv_aload_n hx hb dL_law_840 rfl (lv_at hl 4 rfl) ?_
  refine hcallH (n := 4) C hE hN (hL_hang l G (AxL s.heap.size o adm) (fun q => AxL s.heap.size o adm q ∨ q = o) o (fun q h => Or.inl h) (Or.inr rfl) (fun h => h.2.1 rfl) ad σ qs nT nW hl9 (xs (4 * i + 1)) (xs (4 * i + 2)) h80.2.1 (L_wr hR)) wML_L_138 wST_L_hang wIN_L wCW_L_hang (by decide) rfl ⟨Nat.le_of_ble_eq_true rfl, Nat.le_of_ble_eq_true rfl⟩ hS (fun q h => h.elim (fun h => h.1) (fun h => h ▸ hF.1)) (fun q h => Or.inl (AxL.new hM ho9 hS.1 q h)) ⟨hP, ⟨_, ho9⟩, fun q h => AxL.new hM ho9 hS.1 q h⟩ rfl hl.1 (Nat.le_of_ble_eq_true rfl) dL_law_841 ⟨by show cc9 + 3 ≤ 601024; omega, by show ss9 + 18 ≤ 7293034; omega⟩ (fun v H1 locs1 hv hk hS => ?_)
  have hM1 : PM G (McL adm) adm τ H1 := hM.keptL hk (fun q hq h => h.elim (fun h => h.2.2 hq) (fun h => hF.2.1 (h ▸ hq)))
  rcases hv with ⟨x, H0, rfl, hq, ho2, z2, oq2⟩ | ⟨E, hx9, hcode, y2, ho2⟩
  · skip
    refine lv_istore (lv' := [(5, .int 0), (4, .int (nI (4 * i))), (0, .ref b), (1, .ref (ad 0 0)), (2, .ref (adm 30)), (3, .ref o)]) hx hb dL_law_844 hl (by decide) rfl (fun ls hl => ?_)
    refine lv_aload_n hx hb dL_law_846 rfl (lv_at hl 4 rfl) ?_
    refine lv_aload_n hx hb dL_law_847 rfl (lv_at hl 2 rfl) ?_
    refine lv_iload hx hb dL_law_848 (lv_at hl 1 rfl) ?_
    refine lv_iconst (v := 1) hx hb dL_law_850 (by decide) ?_
    refine lv_iadd hx hb dL_law_851 ?_
    rw [i4_1]
    refine va_sld hx hb hX hbl (Nat.not_le.mpr hbl) hS (vp_in_nI (show 4 * i + 1 < L by omega) (by omega)) dL_law_852 ?_
    rw [nI_clamp (show 4 * i + 1 < 2 ^ 31 by omega)]
    refine lv_aload_n hx hb dL_law_853 rfl (lv_at hl 2 rfl) ?_
    refine lv_iload hx hb dL_law_854 (lv_at hl 1 rfl) ?_
    refine lv_iconst (v := 2) hx hb dL_law_856 (by decide) ?_
    refine lv_iadd hx hb dL_law_857 ?_
    rw [i4_2]
    refine va_sld hx hb hX hbl (Nat.not_le.mpr hbl) hS (vp_in_nI (show 4 * i + 2 < L by omega) (by omega)) dL_law_858 ?_
    rw [nI_clamp (show 4 * i + 2 < 2 ^ 31 by omega)]
    refine hcallV (n := 2) C hE (kR_hang l G (fun q => McL adm q ∨ H1.size ≤ q) adm τ (xs (4 * i + 1)) (xs (4 * i + 2)) nW hR.1.2.2.2.2.1 h80.2.1) wML_L_140 wIM_X6_hang wSE_X6_X6_hang wIN_X6 wCO_X6_hang (by decide) rfl ⟨Nat.le_of_ble_eq_true rfl, Nat.le_of_ble_eq_true rfl⟩ (orec hE hM1.main (show mcl[8]? = some (RX6, TX6, 30) from rfl)) hS (fun q h => h.elim (fun h => hF.2.2 q h) (fun h => Nat.le_trans hS.1 h)) (fun q h => Or.inr h) (hM1.any (fun q h => Or.inl h)) rfl hl.1 (Nat.le_of_ble_eq_true rfl) dL_law_859 ⟨by show cc9 + 3 + 0 ≤ 601024; omega, by show ss9 + 18 + 0 ≤ 7293034; omega⟩ (fun E ce q9 H1 locs1 hx9 _ _ _ _ _ => hx9.elim) (fun v H2 locs2 hv2 hk2 hS => ?_)
    obtain ⟨x9, τ', rfl, hM2, hcm⟩ := hv2
    have hM3 : PM G (McL adm) adm τ' H2 := hM2.any (fun q h => h)
    have ho3 := ho2.kept (hk2.2 _ ho2.lt (fun h => h.elim hF.2.1 (fun h => absurd ho2.lt (Nat.not_lt.mpr h))))
    obtain ⟨e27, ex, ad', σ', qs', nT', nW', f', D', ea, hP2, hR2, hI2⟩ := st_hang hR hI hq hcm
    obtain rfl : x = x9 := by cases ex; rfl
    have hP3 := hP2.kept (A1 := fun q => q = o) ⟨Nat.le_of_eq z2.symm, fun q _ hne => oq2 q hne⟩ (fun q h _ e => h.2.1 e)
    have hP4 := hP3.kept hk2 (fun q h hlt h2 => h2.elim h.2.2 (fun h3 => absurd hlt (Nat.not_lt.mpr h3)))
    refine lv_istore (lv' := [(6, .int x), (5, .int 0), (4, .int (nI (4 * i))), (0, .ref b), (1, .ref (ad 0 0)), (2, .ref (adm 30)), (3, .ref o)]) hx hb dL_law_862 hl (by decide) rfl (fun ls hl => ?_)
    refine lv_aload_n hx hb dL_law_864 rfl (lv_at hl 5 rfl) ?_
    refine hcallV (n := 0) C hE (kM_thrown l G (fun q => H2.size ≤ q) (McL adm) adm τ') wML_L_105 wIM_X6_thrown wSE_X6_X6_thrown wIN_X6 wCO_X6_thrown (by decide) rfl ⟨Nat.le_of_ble_eq_true rfl, Nat.le_of_ble_eq_true rfl⟩ (orec hE hM3.main (show mcl[8]? = some (RX6, TX6, 30) from rfl)) hS (fun q h => Nat.le_trans hS.1 h) (fun q h => h) hM3 rfl hl.1 (Nat.le_of_ble_eq_true rfl) dL_law_865 ⟨by show cc9 + 3 + 0 + 0 ≤ 601024; omega, by show ss9 + 18 + 0 + 0 ≤ 7293034; omega⟩ (fun E ce q9 H1 locs1 hx9 _ _ _ _ _ => hx9.elim) (fun v H3 locs3 hv3 hk3 hS => ?_)
    obtain rfl : v = some (.int 0) := by rw [hv3, e27]
    have hP5 := hP4.old hk3
    have hM5 := hM3.old hk3
    have ho5 := ho3.kept (hk3.2 _ ho3.lt (Nat.not_le.mpr ho3.lt))
    refine lv_iload hx hb dL_law_868 (lv_at hl 1 rfl) ?_
    refine lv_icmp_eq (tgt := 875) hx hb dL_law_870 (by decide) (fun c_870_1 => ?_) (fun c_870_1 => ?_)
    · refine lv_iload hx hb dL_law_875 (lv_at hl 1 rfl) ?_
      refine lv_if_ne (tgt := 892) hx hb dL_law_877 (by decide) (fun c_877_2 => ?_) (fun c_877_2 => ?_)
      · exact absurd c_877_2 (by decide)
      · refine lv_aload_n hx hb dL_law_880 rfl (lv_at hl 6 rfl) ?_
        refine lv_iconst (v := 0) hx hb dL_law_881 (by decide) ?_
        refine xlald hx hb hE.1.1 ho5 dL_law_882 ?_
        refine lv_iload hx hb dL_law_883 (lv_at hl 0 rfl) ?_
        refine lv_i2l hx hb dL_law_885 rfl ?_
        refine W.lcmp hx hb dL_law_886 ?_
        rw [lcmp0]
        refine lv_if_eq (tgt := 892) hx hb dL_law_887 (by decide) (fun c_887_3 => ?_) (fun c_887_3 => ?_)
        · refine lv_goto (tgt := 1851) hx hb dL_law_892 (by decide) ?_
          exact kk H3 locs3 ls _ _ (show cc9 + 3 + 0 + 0 ≤ cc9 + 10 by omega) (show ss9 + 18 + 0 + 0 ≤ ss9 + 300 by omega) hS ⟨ad', σ', τ', qs', nT', nW', f', D', _, ea, hP5, hM5, ho5, hR2, hI2⟩ (lv_sub hl [2, 3, 4, 5, 6] rfl)
        · exact absurd c_887_3 (by decide)
    · exact absurd c_870_1 (by decide)
  · rcases hcode with ⟨eE, rfl⟩ | ⟨eE, rfl⟩
    · skip
      refine lv_istore (lv' := [(5, .int 1), (4, .int (nI (4 * i))), (0, .ref b), (1, .ref (ad 0 0)), (2, .ref (adm 30)), (3, .ref o)]) hx hb dL_law_844 hl (by decide) rfl (fun ls hl => ?_)
      refine lv_aload_n hx hb dL_law_846 rfl (lv_at hl 4 rfl) ?_
      refine lv_aload_n hx hb dL_law_847 rfl (lv_at hl 2 rfl) ?_
      refine lv_iload hx hb dL_law_848 (lv_at hl 1 rfl) ?_
      refine lv_iconst (v := 1) hx hb dL_law_850 (by decide) ?_
      refine lv_iadd hx hb dL_law_851 ?_
      rw [i4_1]
      refine va_sld hx hb hX hbl (Nat.not_le.mpr hbl) hS (vp_in_nI (show 4 * i + 1 < L by omega) (by omega)) dL_law_852 ?_
      rw [nI_clamp (show 4 * i + 1 < 2 ^ 31 by omega)]
      refine lv_aload_n hx hb dL_law_853 rfl (lv_at hl 2 rfl) ?_
      refine lv_iload hx hb dL_law_854 (lv_at hl 1 rfl) ?_
      refine lv_iconst (v := 2) hx hb dL_law_856 (by decide) ?_
      refine lv_iadd hx hb dL_law_857 ?_
      rw [i4_2]
      refine va_sld hx hb hX hbl (Nat.not_le.mpr hbl) hS (vp_in_nI (show 4 * i + 2 < L by omega) (by omega)) dL_law_858 ?_
      rw [nI_clamp (show 4 * i + 2 < 2 ^ 31 by omega)]
      refine hcallV (n := 2) C hE (kR_hang l G (fun q => McL adm q ∨ H1.size ≤ q) adm τ (xs (4 * i + 1)) (xs (4 * i + 2)) nW hR.1.2.2.2.2.1 h80.2.1) wML_L_140 wIM_X6_hang wSE_X6_X6_hang wIN_X6 wCO_X6_hang (by decide) rfl ⟨Nat.le_of_ble_eq_true rfl, Nat.le_of_ble_eq_true rfl⟩ (orec hE hM1.main (show mcl[8]? = some (RX6, TX6, 30) from rfl)) hS (fun q h => h.elim (fun h => hF.2.2 q h) (fun h => Nat.le_trans hS.1 h)) (fun q h => Or.inr h) (hM1.any (fun q h => Or.inl h)) rfl hl.1 (Nat.le_of_ble_eq_true rfl) dL_law_859 ⟨by show cc9 + 3 + 0 ≤ 601024; omega, by show ss9 + 18 + 0 ≤ 7293034; omega⟩ (fun E ce q9 H1 locs1 hx9 _ _ _ _ _ => hx9.elim) (fun v H2 locs2 hv2 hk2 hS => ?_)
      obtain ⟨x9, τ', rfl, hM2, hcm⟩ := hv2
      have hM3 : PM G (McL adm) adm τ' H2 := hM2.any (fun q h => h)
      have ho3 := ho2.kept (hk2.2 _ ho2.lt (fun h => h.elim hF.2.1 (fun h => absurd ho2.lt (Nat.not_lt.mpr h))))
      have hex : EXT G (AxL s.heap.size o adm) ad H1 N 1 τ' := by
        rcases sx_hang hR hI hx9 hcm with ⟨e1, z⟩ | ⟨e1, z⟩
        · exact z
        · exact absurd (eE.symm.trans e1) (by decide)
      obtain ⟨e27, ad', σ', qs', nT', nW', f', D', ea, hP3, hR2, hI2⟩ := hex
      have hP4 := hP3.kept hk2 (fun q h hlt h2 => h2.elim h.2.2 (fun h3 => absurd hlt (Nat.not_lt.mpr h3)))
      refine lv_istore (lv' := [(6, .int x9), (5, .int 1), (4, .int (nI (4 * i))), (0, .ref b), (1, .ref (ad 0 0)), (2, .ref (adm 30)), (3, .ref o)]) hx hb dL_law_862 hl (by decide) rfl (fun ls hl => ?_)
      refine lv_aload_n hx hb dL_law_864 rfl (lv_at hl 5 rfl) ?_
      refine hcallV (n := 0) C hE (kM_thrown l G (fun q => H2.size ≤ q) (McL adm) adm τ') wML_L_105 wIM_X6_thrown wSE_X6_X6_thrown wIN_X6 wCO_X6_thrown (by decide) rfl ⟨Nat.le_of_ble_eq_true rfl, Nat.le_of_ble_eq_true rfl⟩ (orec hE hM3.main (show mcl[8]? = some (RX6, TX6, 30) from rfl)) hS (fun q h => Nat.le_trans hS.1 h) (fun q h => h) hM3 rfl hl.1 (Nat.le_of_ble_eq_true rfl) dL_law_865 ⟨by show cc9 + 3 + 0 + 0 ≤ 601024; omega, by show ss9 + 18 + 0 + 0 ≤ 7293034; omega⟩ (fun E ce q9 H1 locs1 hx9 _ _ _ _ _ => hx9.elim) (fun v H3 locs3 hv3 hk3 hS => ?_)
      obtain rfl : v = some (.int 1) := by rw [hv3, e27]
      have hP5 := hP4.old hk3
      have hM5 := hM3.old hk3
      have ho5 := ho3.kept (hk3.2 _ ho3.lt (Nat.not_le.mpr ho3.lt))
      refine lv_iload hx hb dL_law_868 (lv_at hl 1 rfl) ?_
      refine lv_icmp_eq (tgt := 875) hx hb dL_law_870 (by decide) (fun c_870_4 => ?_) (fun c_870_4 => ?_)
      · refine lv_iload hx hb dL_law_875 (lv_at hl 1 rfl) ?_
        refine lv_if_ne (tgt := 892) hx hb dL_law_877 (by decide) (fun c_877_5 => ?_) (fun c_877_5 => ?_)
        · refine lv_goto (tgt := 1851) hx hb dL_law_892 (by decide) ?_
          exact kk H3 locs3 ls _ _ (show cc9 + 3 + 0 + 0 ≤ cc9 + 10 by omega) (show ss9 + 18 + 0 + 0 ≤ ss9 + 300 by omega) hS ⟨ad', σ', τ', qs', nT', nW', f', D', _, ea, hP5, hM5, ho5, hR2, hI2⟩ (lv_sub hl [2, 3, 4, 5, 6] rfl)
        · exact absurd c_877_5 (by decide)
      · exact absurd c_870_4 (by decide)
    · skip
      refine lv_istore (lv' := [(5, .int 2), (4, .int (nI (4 * i))), (0, .ref b), (1, .ref (ad 0 0)), (2, .ref (adm 30)), (3, .ref o)]) hx hb dL_law_844 hl (by decide) rfl (fun ls hl => ?_)
      refine lv_aload_n hx hb dL_law_846 rfl (lv_at hl 4 rfl) ?_
      refine lv_aload_n hx hb dL_law_847 rfl (lv_at hl 2 rfl) ?_
      refine lv_iload hx hb dL_law_848 (lv_at hl 1 rfl) ?_
      refine lv_iconst (v := 1) hx hb dL_law_850 (by decide) ?_
      refine lv_iadd hx hb dL_law_851 ?_
      rw [i4_1]
      refine va_sld hx hb hX hbl (Nat.not_le.mpr hbl) hS (vp_in_nI (show 4 * i + 1 < L by omega) (by omega)) dL_law_852 ?_
      rw [nI_clamp (show 4 * i + 1 < 2 ^ 31 by omega)]
      refine lv_aload_n hx hb dL_law_853 rfl (lv_at hl 2 rfl) ?_
      refine lv_iload hx hb dL_law_854 (lv_at hl 1 rfl) ?_
      refine lv_iconst (v := 2) hx hb dL_law_856 (by decide) ?_
      refine lv_iadd hx hb dL_law_857 ?_
      rw [i4_2]
      refine va_sld hx hb hX hbl (Nat.not_le.mpr hbl) hS (vp_in_nI (show 4 * i + 2 < L by omega) (by omega)) dL_law_858 ?_
      rw [nI_clamp (show 4 * i + 2 < 2 ^ 31 by omega)]
      refine hcallV (n := 2) C hE (kR_hang l G (fun q => McL adm q ∨ H1.size ≤ q) adm τ (xs (4 * i + 1)) (xs (4 * i + 2)) nW hR.1.2.2.2.2.1 h80.2.1) wML_L_140 wIM_X6_hang wSE_X6_X6_hang wIN_X6 wCO_X6_hang (by decide) rfl ⟨Nat.le_of_ble_eq_true rfl, Nat.le_of_ble_eq_true rfl⟩ (orec hE hM1.main (show mcl[8]? = some (RX6, TX6, 30) from rfl)) hS (fun q h => h.elim (fun h => hF.2.2 q h) (fun h => Nat.le_trans hS.1 h)) (fun q h => Or.inr h) (hM1.any (fun q h => Or.inl h)) rfl hl.1 (Nat.le_of_ble_eq_true rfl) dL_law_859 ⟨by show cc9 + 3 + 0 ≤ 601024; omega, by show ss9 + 18 + 0 ≤ 7293034; omega⟩ (fun E ce q9 H1 locs1 hx9 _ _ _ _ _ => hx9.elim) (fun v H2 locs2 hv2 hk2 hS => ?_)
      obtain ⟨x9, τ', rfl, hM2, hcm⟩ := hv2
      have hM3 : PM G (McL adm) adm τ' H2 := hM2.any (fun q h => h)
      have ho3 := ho2.kept (hk2.2 _ ho2.lt (fun h => h.elim hF.2.1 (fun h => absurd ho2.lt (Nat.not_lt.mpr h))))
      have hex : EXT G (AxL s.heap.size o adm) ad H1 N 2 τ' := by
        rcases sx_hang hR hI hx9 hcm with ⟨e1, z⟩ | ⟨e1, z⟩
        · exact absurd (eE.symm.trans e1) (by decide)
        · exact z
      obtain ⟨e27, ad', σ', qs', nT', nW', f', D', ea, hP3, hR2, hI2⟩ := hex
      have hP4 := hP3.kept hk2 (fun q h hlt h2 => h2.elim h.2.2 (fun h3 => absurd hlt (Nat.not_lt.mpr h3)))
      refine lv_istore (lv' := [(6, .int x9), (5, .int 2), (4, .int (nI (4 * i))), (0, .ref b), (1, .ref (ad 0 0)), (2, .ref (adm 30)), (3, .ref o)]) hx hb dL_law_862 hl (by decide) rfl (fun ls hl => ?_)
      refine lv_aload_n hx hb dL_law_864 rfl (lv_at hl 5 rfl) ?_
      refine hcallV (n := 0) C hE (kM_thrown l G (fun q => H2.size ≤ q) (McL adm) adm τ') wML_L_105 wIM_X6_thrown wSE_X6_X6_thrown wIN_X6 wCO_X6_thrown (by decide) rfl ⟨Nat.le_of_ble_eq_true rfl, Nat.le_of_ble_eq_true rfl⟩ (orec hE hM3.main (show mcl[8]? = some (RX6, TX6, 30) from rfl)) hS (fun q h => Nat.le_trans hS.1 h) (fun q h => h) hM3 rfl hl.1 (Nat.le_of_ble_eq_true rfl) dL_law_865 ⟨by show cc9 + 3 + 0 + 0 ≤ 601024; omega, by show ss9 + 18 + 0 + 0 ≤ 7293034; omega⟩ (fun E ce q9 H1 locs1 hx9 _ _ _ _ _ => hx9.elim) (fun v H3 locs3 hv3 hk3 hS => ?_)
      obtain rfl : v = some (.int 2) := by rw [hv3, e27]
      have hP5 := hP4.old hk3
      have hM5 := hM3.old hk3
      have ho5 := ho3.kept (hk3.2 _ ho3.lt (Nat.not_le.mpr ho3.lt))
      refine lv_iload hx hb dL_law_868 (lv_at hl 1 rfl) ?_
      refine lv_icmp_eq (tgt := 875) hx hb dL_law_870 (by decide) (fun c_870_6 => ?_) (fun c_870_6 => ?_)
      · refine lv_iload hx hb dL_law_875 (lv_at hl 1 rfl) ?_
        refine lv_if_ne (tgt := 892) hx hb dL_law_877 (by decide) (fun c_877_7 => ?_) (fun c_877_7 => ?_)
        · refine lv_goto (tgt := 1851) hx hb dL_law_892 (by decide) ?_
          exact kk H3 locs3 ls _ _ (show cc9 + 3 + 0 + 0 ≤ cc9 + 10 by omega) (show ss9 + 18 + 0 + 0 ≤ ss9 + 300 by omega) hS ⟨ad', σ', τ', qs', nT', nW', f', D', _, ea, hP5, hM5, ho5, hR2, hI2⟩ (lv_sub hl [2, 3, 4, 5, 6] rfl)
        · exact absurd c_877_7 (by decide)
      · exact absurd c_870_6 (by decide)
set_option maxHeartbeats 4000000 in
set_option maxRecDepth 100000 in
theorem LC_lend (l : Launch) (hl9 : l.stackTraces = false) {p : Program} {e : Env} {s : State} {m : MethodId} {below : List Frame} {meth : Method} {c : Code} {b L : Nat} {xs : Nat → Int32} {G : GE} {o a0 : Nat} {adm : Nat → Nat} (C : CallFix p m c cL_law 7 s #[Value.ref b] gTb RL) (hE : EN (fun q => s.heap.size ≤ q) G s s.heap) (hN : NCX s) (hX : va_X b L xs s s.heap) (hbl : b < s.heap.size) (hF : LFX s.heap.size o adm) (hL : L ≤ 2048) {i N cc9 ss9 : Nat} {Qw : State → Prop} {H : Heap} {locs : List Loc} {ls : Array Slot} (hi : 4 * i + 4 ≤ L) (hcc : cc9 ≤ 100 + 10 * i) (hss : ss9 ≤ 2000 + 300 * i) (hN2 : N < 1000) (hS : va_S (fun q => s.heap.size ≤ q) s.heap H locs) (hV : LINV G s.heap.size o a0 adm N H) (hl : lv_has ls 7 [(4, .int (nI (4 * i))), (0, .ref b), (1, .ref a0), (2, .ref (adm 30)), (3, .ref o)])
    (kk : ∀ (H1 : Heap) (locs1 : List Loc) (ls1 : Array Slot) (cc1 ss1 : Nat), cc1 ≤ cc9 + 10 → ss1 ≤ ss9 + 300 → va_S (fun q => s.heap.size ≤ q) s.heap H1 locs1 → LINV G s.heap.size o a0 adm (N + 1) H1 → lv_has ls1 7 [(4, .int (nI (4 * i))), (0, .ref b), (1, .ref a0), (2, .ref (adm 30)), (3, .ref o)] → W p l e room_1 s m #[Value.ref b] below meth c H1 locs1 cc1 ss1 Qw (F0 m 1851 ls1 [])) : W p l e room_1 s m #[Value.ref b] below meth c H locs cc9 ss9 Qw (F0 m 895 ls []) := by
  have hx := C.1
  have hb := C.2.1
  have hown := C.2.2.2.1
  have hts := C.2.2.2.2
  obtain ⟨ad, σ, τ, qs, nT, nW, f, D, y0, rfl, hP, hM, ho9, hR, hI⟩ := hV
  have h80 := hR.n80
  refine lv_aload_n hx hb dL_law_895 rfl (lv_at hl 2 rfl) ?_
  refine lv_aload_n hx hb dL_law_896 rfl (lv_at hl 1 rfl) ?_
  refine lv_iload hx hb dL_law_897 (lv_at hl 0 rfl) ?_
  refine lv_iconst (v := 1) hx hb dL_law_899 (by decide) ?_
  refine lv_iadd hx hb dL_law_900 ?_
  rw [i4_1]
  refine va_sld hx hb hX hbl (Nat.not_le.mpr hbl) hS (vp_in_nI (show 4 * i + 1 < L by omega) (by omega)) dL_law_901 ?_
  rw [nI_clamp (show 4 * i + 1 < 2 ^ 31 by omega)]
  refine lv_aload_n hx hb dL_law_902 rfl (lv_at hl 1 rfl) ?_
  refine lv_iload hx hb dL_law_903 (lv_at hl 0 rfl) ?_
  refine lv_iconst (v := 2) hx hb dL_law_905 (by decide) ?_
  refine lv_iadd hx hb dL_law_906 ?_
  rw [i4_2]
  refine va_sld hx hb hX hbl (Nat.not_le.mpr hbl) hS (vp_in_nI (show 4 * i + 2 < L by omega) (by omega)) dL_law_907 ?_
  rw [nI_clamp (show 4 * i + 2 < 2 ^ 31 by omega)]
  refine lv_aload_n hx hb dL_law_908 rfl (lv_at hl 1 rfl) ?_
  refine lv_iload hx hb dL_law_909 (lv_at hl 0 rfl) ?_
  refine lv_iconst (v := 3) hx hb dL_law_911 (by decide) ?_
  refine lv_iadd hx hb dL_law_912 ?_
  rw [i4_3]
  refine va_sld hx hb hX hbl (Nat.not_le.mpr hbl) hS (vp_in_nI (show 4 * i + 3 < L by omega) (by omega)) dL_law_913 ?_
  rw [nI_clamp (show 4 * i + 3 < 2 ^ 31 by omega)]
  refine lv_aload_n hx hb dL_law_914 rfl (lv_at hl 4 rfl) ?_
  refine hcallH (n := 5) C hE hN (hL_lend l G (AxL s.heap.size o adm) (fun q => AxL s.heap.size o adm q ∨ q = o) o (fun q h => Or.inl h) (Or.inr rfl) (fun h => h.2.1 rfl) ad σ qs nT nW hl9 (xs (4 * i + 1)) (xs (4 * i + 2)) (xs (4 * i + 3)) h80.2.1) wML_L_141 wST_L_lend wIN_L wCW_L_lend (by decide) rfl ⟨Nat.le_of_ble_eq_true rfl, Nat.le_of_ble_eq_true rfl⟩ hS (fun q h => h.elim (fun h => h.1) (fun h => h ▸ hF.1)) (fun q h => Or.inl (AxL.new hM ho9 hS.1 q h)) ⟨hP, ⟨_, ho9⟩, fun q h => AxL.new hM ho9 hS.1 q h⟩ rfl hl.1 (Nat.le_of_ble_eq_true rfl) dL_law_915 ⟨by show cc9 + 4 ≤ 601024; omega, by show ss9 + 24 ≤ 7293034; omega⟩ (fun v H1 locs1 hv hk hS => ?_)
  have hM1 : PM G (McL adm) adm τ H1 := hM.keptL hk (fun q hq h => h.elim (fun h => h.2.2 hq) (fun h => hF.2.1 (h ▸ hq)))
  rcases hv with ⟨x, H0, rfl, hq, ho2, z2, oq2⟩ | ⟨E, hx9, hcode, y2, ho2⟩
  · skip
    refine lv_istore (lv' := [(5, .int 0), (4, .int (nI (4 * i))), (0, .ref b), (1, .ref (ad 0 0)), (2, .ref (adm 30)), (3, .ref o)]) hx hb dL_law_918 hl (by decide) rfl (fun ls hl => ?_)
    refine lv_aload_n hx hb dL_law_920 rfl (lv_at hl 4 rfl) ?_
    refine lv_aload_n hx hb dL_law_921 rfl (lv_at hl 2 rfl) ?_
    refine lv_iload hx hb dL_law_922 (lv_at hl 1 rfl) ?_
    refine lv_iconst (v := 1) hx hb dL_law_924 (by decide) ?_
    refine lv_iadd hx hb dL_law_925 ?_
    rw [i4_1]
    refine va_sld hx hb hX hbl (Nat.not_le.mpr hbl) hS (vp_in_nI (show 4 * i + 1 < L by omega) (by omega)) dL_law_926 ?_
    rw [nI_clamp (show 4 * i + 1 < 2 ^ 31 by omega)]
    refine lv_aload_n hx hb dL_law_927 rfl (lv_at hl 2 rfl) ?_
    refine lv_iload hx hb dL_law_928 (lv_at hl 1 rfl) ?_
    refine lv_iconst (v := 2) hx hb dL_law_930 (by decide) ?_
    refine lv_iadd hx hb dL_law_931 ?_
    rw [i4_2]
    refine va_sld hx hb hX hbl (Nat.not_le.mpr hbl) hS (vp_in_nI (show 4 * i + 2 < L by omega) (by omega)) dL_law_932 ?_
    rw [nI_clamp (show 4 * i + 2 < 2 ^ 31 by omega)]
    refine lv_aload_n hx hb dL_law_933 rfl (lv_at hl 2 rfl) ?_
    refine lv_iload hx hb dL_law_934 (lv_at hl 1 rfl) ?_
    refine lv_iconst (v := 3) hx hb dL_law_936 (by decide) ?_
    refine lv_iadd hx hb dL_law_937 ?_
    rw [i4_3]
    refine va_sld hx hb hX hbl (Nat.not_le.mpr hbl) hS (vp_in_nI (show 4 * i + 3 < L by omega) (by omega)) dL_law_938 ?_
    rw [nI_clamp (show 4 * i + 3 < 2 ^ 31 by omega)]
    refine hcallV (n := 3) C hE (kR_lend l G (fun q => McL adm q ∨ H1.size ≤ q) adm τ (xs (4 * i + 1)) (xs (4 * i + 2)) (xs (4 * i + 3)) nW hR.1.2.2.2.2.1 h80.2.1) wML_L_144 wIM_X6_lend wSE_X6_X6_lend wIN_X6 wCO_X6_lend (by decide) rfl ⟨Nat.le_of_ble_eq_true rfl, Nat.le_of_ble_eq_true rfl⟩ (orec hE hM1.main (show mcl[8]? = some (RX6, TX6, 30) from rfl)) hS (fun q h => h.elim (fun h => hF.2.2 q h) (fun h => Nat.le_trans hS.1 h)) (fun q h => Or.inr h) (hM1.any (fun q h => Or.inl h)) rfl hl.1 (Nat.le_of_ble_eq_true rfl) dL_law_939 ⟨by show cc9 + 4 + 0 ≤ 601024; omega, by show ss9 + 24 + 0 ≤ 7293034; omega⟩ (fun E ce q9 H1 locs1 hx9 _ _ _ _ _ => hx9.elim) (fun v H2 locs2 hv2 hk2 hS => ?_)
    obtain ⟨x9, τ', rfl, hM2, hcm⟩ := hv2
    have hM3 : PM G (McL adm) adm τ' H2 := hM2.any (fun q h => h)
    have ho3 := ho2.kept (hk2.2 _ ho2.lt (fun h => h.elim hF.2.1 (fun h => absurd ho2.lt (Nat.not_lt.mpr h))))
    obtain ⟨e27, ex, ad', σ', qs', nT', nW', f', D', ea, hP2, hR2, hI2⟩ := st_lend hR hI hq hcm
    obtain rfl : x = x9 := by cases ex; rfl
    have hP3 := hP2.kept (A1 := fun q => q = o) ⟨Nat.le_of_eq z2.symm, fun q _ hne => oq2 q hne⟩ (fun q h _ e => h.2.1 e)
    have hP4 := hP3.kept hk2 (fun q h hlt h2 => h2.elim h.2.2 (fun h3 => absurd hlt (Nat.not_lt.mpr h3)))
    refine lv_istore (lv' := [(6, .int x), (5, .int 0), (4, .int (nI (4 * i))), (0, .ref b), (1, .ref (ad 0 0)), (2, .ref (adm 30)), (3, .ref o)]) hx hb dL_law_942 hl (by decide) rfl (fun ls hl => ?_)
    refine lv_aload_n hx hb dL_law_944 rfl (lv_at hl 5 rfl) ?_
    refine hcallV (n := 0) C hE (kM_thrown l G (fun q => H2.size ≤ q) (McL adm) adm τ') wML_L_105 wIM_X6_thrown wSE_X6_X6_thrown wIN_X6 wCO_X6_thrown (by decide) rfl ⟨Nat.le_of_ble_eq_true rfl, Nat.le_of_ble_eq_true rfl⟩ (orec hE hM3.main (show mcl[8]? = some (RX6, TX6, 30) from rfl)) hS (fun q h => Nat.le_trans hS.1 h) (fun q h => h) hM3 rfl hl.1 (Nat.le_of_ble_eq_true rfl) dL_law_945 ⟨by show cc9 + 4 + 0 + 0 ≤ 601024; omega, by show ss9 + 24 + 0 + 0 ≤ 7293034; omega⟩ (fun E ce q9 H1 locs1 hx9 _ _ _ _ _ => hx9.elim) (fun v H3 locs3 hv3 hk3 hS => ?_)
    obtain rfl : v = some (.int 0) := by rw [hv3, e27]
    have hP5 := hP4.old hk3
    have hM5 := hM3.old hk3
    have ho5 := ho3.kept (hk3.2 _ ho3.lt (Nat.not_le.mpr ho3.lt))
    refine lv_iload hx hb dL_law_948 (lv_at hl 1 rfl) ?_
    refine lv_icmp_eq (tgt := 955) hx hb dL_law_950 (by decide) (fun c_950_1 => ?_) (fun c_950_1 => ?_)
    · refine lv_iload hx hb dL_law_955 (lv_at hl 1 rfl) ?_
      refine lv_if_ne (tgt := 972) hx hb dL_law_957 (by decide) (fun c_957_2 => ?_) (fun c_957_2 => ?_)
      · exact absurd c_957_2 (by decide)
      · refine lv_aload_n hx hb dL_law_960 rfl (lv_at hl 6 rfl) ?_
        refine lv_iconst (v := 0) hx hb dL_law_961 (by decide) ?_
        refine xlald hx hb hE.1.1 ho5 dL_law_962 ?_
        refine lv_iload hx hb dL_law_963 (lv_at hl 0 rfl) ?_
        refine lv_i2l hx hb dL_law_965 rfl ?_
        refine W.lcmp hx hb dL_law_966 ?_
        rw [lcmp0]
        refine lv_if_eq (tgt := 972) hx hb dL_law_967 (by decide) (fun c_967_3 => ?_) (fun c_967_3 => ?_)
        · refine lv_goto (tgt := 1851) hx hb dL_law_972 (by decide) ?_
          exact kk H3 locs3 ls _ _ (show cc9 + 4 + 0 + 0 ≤ cc9 + 10 by omega) (show ss9 + 24 + 0 + 0 ≤ ss9 + 300 by omega) hS ⟨ad', σ', τ', qs', nT', nW', f', D', _, ea, hP5, hM5, ho5, hR2, hI2⟩ (lv_sub hl [2, 3, 4, 5, 6] rfl)
        · exact absurd c_967_3 (by decide)
    · exact absurd c_950_1 (by decide)
  · rcases hcode with ⟨eE, rfl⟩ | ⟨eE, rfl⟩ | ⟨eE, rfl⟩
    · skip
      refine lv_istore (lv' := [(5, .int 1), (4, .int (nI (4 * i))), (0, .ref b), (1, .ref (ad 0 0)), (2, .ref (adm 30)), (3, .ref o)]) hx hb dL_law_918 hl (by decide) rfl (fun ls hl => ?_)
      refine lv_aload_n hx hb dL_law_920 rfl (lv_at hl 4 rfl) ?_
      refine lv_aload_n hx hb dL_law_921 rfl (lv_at hl 2 rfl) ?_
      refine lv_iload hx hb dL_law_922 (lv_at hl 1 rfl) ?_
      refine lv_iconst (v := 1) hx hb dL_law_924 (by decide) ?_
      refine lv_iadd hx hb dL_law_925 ?_
      rw [i4_1]
      refine va_sld hx hb hX hbl (Nat.not_le.mpr hbl) hS (vp_in_nI (show 4 * i + 1 < L by omega) (by omega)) dL_law_926 ?_
      rw [nI_clamp (show 4 * i + 1 < 2 ^ 31 by omega)]
      refine lv_aload_n hx hb dL_law_927 rfl (lv_at hl 2 rfl) ?_
      refine lv_iload hx hb dL_law_928 (lv_at hl 1 rfl) ?_
      refine lv_iconst (v := 2) hx hb dL_law_930 (by decide) ?_
      refine lv_iadd hx hb dL_law_931 ?_
      rw [i4_2]
      refine va_sld hx hb hX hbl (Nat.not_le.mpr hbl) hS (vp_in_nI (show 4 * i + 2 < L by omega) (by omega)) dL_law_932 ?_
      rw [nI_clamp (show 4 * i + 2 < 2 ^ 31 by omega)]
      refine lv_aload_n hx hb dL_law_933 rfl (lv_at hl 2 rfl) ?_
      refine lv_iload hx hb dL_law_934 (lv_at hl 1 rfl) ?_
      refine lv_iconst (v := 3) hx hb dL_law_936 (by decide) ?_
      refine lv_iadd hx hb dL_law_937 ?_
      rw [i4_3]
      refine va_sld hx hb hX hbl (Nat.not_le.mpr hbl) hS (vp_in_nI (show 4 * i + 3 < L by omega) (by omega)) dL_law_938 ?_
      rw [nI_clamp (show 4 * i + 3 < 2 ^ 31 by omega)]
      refine hcallV (n := 3) C hE (kR_lend l G (fun q => McL adm q ∨ H1.size ≤ q) adm τ (xs (4 * i + 1)) (xs (4 * i + 2)) (xs (4 * i + 3)) nW hR.1.2.2.2.2.1 h80.2.1) wML_L_144 wIM_X6_lend wSE_X6_X6_lend wIN_X6 wCO_X6_lend (by decide) rfl ⟨Nat.le_of_ble_eq_true rfl, Nat.le_of_ble_eq_true rfl⟩ (orec hE hM1.main (show mcl[8]? = some (RX6, TX6, 30) from rfl)) hS (fun q h => h.elim (fun h => hF.2.2 q h) (fun h => Nat.le_trans hS.1 h)) (fun q h => Or.inr h) (hM1.any (fun q h => Or.inl h)) rfl hl.1 (Nat.le_of_ble_eq_true rfl) dL_law_939 ⟨by show cc9 + 4 + 0 ≤ 601024; omega, by show ss9 + 24 + 0 ≤ 7293034; omega⟩ (fun E ce q9 H1 locs1 hx9 _ _ _ _ _ => hx9.elim) (fun v H2 locs2 hv2 hk2 hS => ?_)
      obtain ⟨x9, τ', rfl, hM2, hcm⟩ := hv2
      have hM3 : PM G (McL adm) adm τ' H2 := hM2.any (fun q h => h)
      have ho3 := ho2.kept (hk2.2 _ ho2.lt (fun h => h.elim hF.2.1 (fun h => absurd ho2.lt (Nat.not_lt.mpr h))))
      have hex : EXT G (AxL s.heap.size o adm) ad H1 N 1 τ' := by
        rcases sx_lend hR hI hx9 hcm with ⟨e1, z⟩ | ⟨e1, z⟩ | ⟨e1, z⟩
        · exact z
        · exact absurd (eE.symm.trans e1) (by decide)
        · exact absurd (eE.symm.trans e1) (by decide)
      obtain ⟨e27, ad', σ', qs', nT', nW', f', D', ea, hP3, hR2, hI2⟩ := hex
      have hP4 := hP3.kept hk2 (fun q h hlt h2 => h2.elim h.2.2 (fun h3 => absurd hlt (Nat.not_lt.mpr h3)))
      refine lv_istore (lv' := [(6, .int x9), (5, .int 1), (4, .int (nI (4 * i))), (0, .ref b), (1, .ref (ad 0 0)), (2, .ref (adm 30)), (3, .ref o)]) hx hb dL_law_942 hl (by decide) rfl (fun ls hl => ?_)
      refine lv_aload_n hx hb dL_law_944 rfl (lv_at hl 5 rfl) ?_
      refine hcallV (n := 0) C hE (kM_thrown l G (fun q => H2.size ≤ q) (McL adm) adm τ') wML_L_105 wIM_X6_thrown wSE_X6_X6_thrown wIN_X6 wCO_X6_thrown (by decide) rfl ⟨Nat.le_of_ble_eq_true rfl, Nat.le_of_ble_eq_true rfl⟩ (orec hE hM3.main (show mcl[8]? = some (RX6, TX6, 30) from rfl)) hS (fun q h => Nat.le_trans hS.1 h) (fun q h => h) hM3 rfl hl.1 (Nat.le_of_ble_eq_true rfl) dL_law_945 ⟨by show cc9 + 4 + 0 + 0 ≤ 601024; omega, by show ss9 + 24 + 0 + 0 ≤ 7293034; omega⟩ (fun E ce q9 H1 locs1 hx9 _ _ _ _ _ => hx9.elim) (fun v H3 locs3 hv3 hk3 hS => ?_)
      obtain rfl : v = some (.int 1) := by rw [hv3, e27]
      have hP5 := hP4.old hk3
      have hM5 := hM3.old hk3
      have ho5 := ho3.kept (hk3.2 _ ho3.lt (Nat.not_le.mpr ho3.lt))
      refine lv_iload hx hb dL_law_948 (lv_at hl 1 rfl) ?_
      refine lv_icmp_eq (tgt := 955) hx hb dL_law_950 (by decide) (fun c_950_4 => ?_) (fun c_950_4 => ?_)
      · refine lv_iload hx hb dL_law_955 (lv_at hl 1 rfl) ?_
        refine lv_if_ne (tgt := 972) hx hb dL_law_957 (by decide) (fun c_957_5 => ?_) (fun c_957_5 => ?_)
        · refine lv_goto (tgt := 1851) hx hb dL_law_972 (by decide) ?_
          exact kk H3 locs3 ls _ _ (show cc9 + 4 + 0 + 0 ≤ cc9 + 10 by omega) (show ss9 + 24 + 0 + 0 ≤ ss9 + 300 by omega) hS ⟨ad', σ', τ', qs', nT', nW', f', D', _, ea, hP5, hM5, ho5, hR2, hI2⟩ (lv_sub hl [2, 3, 4, 5, 6] rfl)
        · exact absurd c_957_5 (by decide)
      · exact absurd c_950_4 (by decide)
    · skip
      refine lv_istore (lv' := [(5, .int 2), (4, .int (nI (4 * i))), (0, .ref b), (1, .ref (ad 0 0)), (2, .ref (adm 30)), (3, .ref o)]) hx hb dL_law_918 hl (by decide) rfl (fun ls hl => ?_)
      refine lv_aload_n hx hb dL_law_920 rfl (lv_at hl 4 rfl) ?_
      refine lv_aload_n hx hb dL_law_921 rfl (lv_at hl 2 rfl) ?_
      refine lv_iload hx hb dL_law_922 (lv_at hl 1 rfl) ?_
      refine lv_iconst (v := 1) hx hb dL_law_924 (by decide) ?_
      refine lv_iadd hx hb dL_law_925 ?_
      rw [i4_1]
      refine va_sld hx hb hX hbl (Nat.not_le.mpr hbl) hS (vp_in_nI (show 4 * i + 1 < L by omega) (by omega)) dL_law_926 ?_
      rw [nI_clamp (show 4 * i + 1 < 2 ^ 31 by omega)]
      refine lv_aload_n hx hb dL_law_927 rfl (lv_at hl 2 rfl) ?_
      refine lv_iload hx hb dL_law_928 (lv_at hl 1 rfl) ?_
      refine lv_iconst (v := 2) hx hb dL_law_930 (by decide) ?_
      refine lv_iadd hx hb dL_law_931 ?_
      rw [i4_2]
      refine va_sld hx hb hX hbl (Nat.not_le.mpr hbl) hS (vp_in_nI (show 4 * i + 2 < L by omega) (by omega)) dL_law_932 ?_
      rw [nI_clamp (show 4 * i + 2 < 2 ^ 31 by omega)]
      refine lv_aload_n hx hb dL_law_933 rfl (lv_at hl 2 rfl) ?_
      refine lv_iload hx hb dL_law_934 (lv_at hl 1 rfl) ?_
      refine lv_iconst (v := 3) hx hb dL_law_936 (by decide) ?_
      refine lv_iadd hx hb dL_law_937 ?_
      rw [i4_3]
      refine va_sld hx hb hX hbl (Nat.not_le.mpr hbl) hS (vp_in_nI (show 4 * i + 3 < L by omega) (by omega)) dL_law_938 ?_
      rw [nI_clamp (show 4 * i + 3 < 2 ^ 31 by omega)]
      refine hcallV (n := 3) C hE (kR_lend l G (fun q => McL adm q ∨ H1.size ≤ q) adm τ (xs (4 * i + 1)) (xs (4 * i + 2)) (xs (4 * i + 3)) nW hR.1.2.2.2.2.1 h80.2.1) wML_L_144 wIM_X6_lend wSE_X6_X6_lend wIN_X6 wCO_X6_lend (by decide) rfl ⟨Nat.le_of_ble_eq_true rfl, Nat.le_of_ble_eq_true rfl⟩ (orec hE hM1.main (show mcl[8]? = some (RX6, TX6, 30) from rfl)) hS (fun q h => h.elim (fun h => hF.2.2 q h) (fun h => Nat.le_trans hS.1 h)) (fun q h => Or.inr h) (hM1.any (fun q h => Or.inl h)) rfl hl.1 (Nat.le_of_ble_eq_true rfl) dL_law_939 ⟨by show cc9 + 4 + 0 ≤ 601024; omega, by show ss9 + 24 + 0 ≤ 7293034; omega⟩ (fun E ce q9 H1 locs1 hx9 _ _ _ _ _ => hx9.elim) (fun v H2 locs2 hv2 hk2 hS => ?_)
      obtain ⟨x9, τ', rfl, hM2, hcm⟩ := hv2
      have hM3 : PM G (McL adm) adm τ' H2 := hM2.any (fun q h => h)
      have ho3 := ho2.kept (hk2.2 _ ho2.lt (fun h => h.elim hF.2.1 (fun h => absurd ho2.lt (Nat.not_lt.mpr h))))
      have hex : EXT G (AxL s.heap.size o adm) ad H1 N 2 τ' := by
        rcases sx_lend hR hI hx9 hcm with ⟨e1, z⟩ | ⟨e1, z⟩ | ⟨e1, z⟩
        · exact absurd (eE.symm.trans e1) (by decide)
        · exact z
        · exact absurd (eE.symm.trans e1) (by decide)
      obtain ⟨e27, ad', σ', qs', nT', nW', f', D', ea, hP3, hR2, hI2⟩ := hex
      have hP4 := hP3.kept hk2 (fun q h hlt h2 => h2.elim h.2.2 (fun h3 => absurd hlt (Nat.not_lt.mpr h3)))
      refine lv_istore (lv' := [(6, .int x9), (5, .int 2), (4, .int (nI (4 * i))), (0, .ref b), (1, .ref (ad 0 0)), (2, .ref (adm 30)), (3, .ref o)]) hx hb dL_law_942 hl (by decide) rfl (fun ls hl => ?_)
      refine lv_aload_n hx hb dL_law_944 rfl (lv_at hl 5 rfl) ?_
      refine hcallV (n := 0) C hE (kM_thrown l G (fun q => H2.size ≤ q) (McL adm) adm τ') wML_L_105 wIM_X6_thrown wSE_X6_X6_thrown wIN_X6 wCO_X6_thrown (by decide) rfl ⟨Nat.le_of_ble_eq_true rfl, Nat.le_of_ble_eq_true rfl⟩ (orec hE hM3.main (show mcl[8]? = some (RX6, TX6, 30) from rfl)) hS (fun q h => Nat.le_trans hS.1 h) (fun q h => h) hM3 rfl hl.1 (Nat.le_of_ble_eq_true rfl) dL_law_945 ⟨by show cc9 + 4 + 0 + 0 ≤ 601024; omega, by show ss9 + 24 + 0 + 0 ≤ 7293034; omega⟩ (fun E ce q9 H1 locs1 hx9 _ _ _ _ _ => hx9.elim) (fun v H3 locs3 hv3 hk3 hS => ?_)
      obtain rfl : v = some (.int 2) := by rw [hv3, e27]
      have hP5 := hP4.old hk3
      have hM5 := hM3.old hk3
      have ho5 := ho3.kept (hk3.2 _ ho3.lt (Nat.not_le.mpr ho3.lt))
      refine lv_iload hx hb dL_law_948 (lv_at hl 1 rfl) ?_
      refine lv_icmp_eq (tgt := 955) hx hb dL_law_950 (by decide) (fun c_950_6 => ?_) (fun c_950_6 => ?_)
      · refine lv_iload hx hb dL_law_955 (lv_at hl 1 rfl) ?_
        refine lv_if_ne (tgt := 972) hx hb dL_law_957 (by decide) (fun c_957_7 => ?_) (fun c_957_7 => ?_)
        · refine lv_goto (tgt := 1851) hx hb dL_law_972 (by decide) ?_
          exact kk H3 locs3 ls _ _ (show cc9 + 4 + 0 + 0 ≤ cc9 + 10 by omega) (show ss9 + 24 + 0 + 0 ≤ ss9 + 300 by omega) hS ⟨ad', σ', τ', qs', nT', nW', f', D', _, ea, hP5, hM5, ho5, hR2, hI2⟩ (lv_sub hl [2, 3, 4, 5, 6] rfl)
        · exact absurd c_957_7 (by decide)
      · exact absurd c_950_6 (by decide)
    · skip
      refine lv_istore (lv' := [(5, .int 3), (4, .int (nI (4 * i))), (0, .ref b), (1, .ref (ad 0 0)), (2, .ref (adm 30)), (3, .ref o)]) hx hb dL_law_918 hl (by decide) rfl (fun ls hl => ?_)
      refine lv_aload_n hx hb dL_law_920 rfl (lv_at hl 4 rfl) ?_
      refine lv_aload_n hx hb dL_law_921 rfl (lv_at hl 2 rfl) ?_
      refine lv_iload hx hb dL_law_922 (lv_at hl 1 rfl) ?_
      refine lv_iconst (v := 1) hx hb dL_law_924 (by decide) ?_
      refine lv_iadd hx hb dL_law_925 ?_
      rw [i4_1]
      refine va_sld hx hb hX hbl (Nat.not_le.mpr hbl) hS (vp_in_nI (show 4 * i + 1 < L by omega) (by omega)) dL_law_926 ?_
      rw [nI_clamp (show 4 * i + 1 < 2 ^ 31 by omega)]
      refine lv_aload_n hx hb dL_law_927 rfl (lv_at hl 2 rfl) ?_
      refine lv_iload hx hb dL_law_928 (lv_at hl 1 rfl) ?_
      refine lv_iconst (v := 2) hx hb dL_law_930 (by decide) ?_
      refine lv_iadd hx hb dL_law_931 ?_
      rw [i4_2]
      refine va_sld hx hb hX hbl (Nat.not_le.mpr hbl) hS (vp_in_nI (show 4 * i + 2 < L by omega) (by omega)) dL_law_932 ?_
      rw [nI_clamp (show 4 * i + 2 < 2 ^ 31 by omega)]
      refine lv_aload_n hx hb dL_law_933 rfl (lv_at hl 2 rfl) ?_
      refine lv_iload hx hb dL_law_934 (lv_at hl 1 rfl) ?_
      refine lv_iconst (v := 3) hx hb dL_law_936 (by decide) ?_
      refine lv_iadd hx hb dL_law_937 ?_
      rw [i4_3]
      refine va_sld hx hb hX hbl (Nat.not_le.mpr hbl) hS (vp_in_nI (show 4 * i + 3 < L by omega) (by omega)) dL_law_938 ?_
      rw [nI_clamp (show 4 * i + 3 < 2 ^ 31 by omega)]
      refine hcallV (n := 3) C hE (kR_lend l G (fun q => McL adm q ∨ H1.size ≤ q) adm τ (xs (4 * i + 1)) (xs (4 * i + 2)) (xs (4 * i + 3)) nW hR.1.2.2.2.2.1 h80.2.1) wML_L_144 wIM_X6_lend wSE_X6_X6_lend wIN_X6 wCO_X6_lend (by decide) rfl ⟨Nat.le_of_ble_eq_true rfl, Nat.le_of_ble_eq_true rfl⟩ (orec hE hM1.main (show mcl[8]? = some (RX6, TX6, 30) from rfl)) hS (fun q h => h.elim (fun h => hF.2.2 q h) (fun h => Nat.le_trans hS.1 h)) (fun q h => Or.inr h) (hM1.any (fun q h => Or.inl h)) rfl hl.1 (Nat.le_of_ble_eq_true rfl) dL_law_939 ⟨by show cc9 + 4 + 0 ≤ 601024; omega, by show ss9 + 24 + 0 ≤ 7293034; omega⟩ (fun E ce q9 H1 locs1 hx9 _ _ _ _ _ => hx9.elim) (fun v H2 locs2 hv2 hk2 hS => ?_)
      obtain ⟨x9, τ', rfl, hM2, hcm⟩ := hv2
      have hM3 : PM G (McL adm) adm τ' H2 := hM2.any (fun q h => h)
      have ho3 := ho2.kept (hk2.2 _ ho2.lt (fun h => h.elim hF.2.1 (fun h => absurd ho2.lt (Nat.not_lt.mpr h))))
      have hex : EXT G (AxL s.heap.size o adm) ad H1 N 3 τ' := by
        rcases sx_lend hR hI hx9 hcm with ⟨e1, z⟩ | ⟨e1, z⟩ | ⟨e1, z⟩
        · exact absurd (eE.symm.trans e1) (by decide)
        · exact absurd (eE.symm.trans e1) (by decide)
        · exact z
      obtain ⟨e27, ad', σ', qs', nT', nW', f', D', ea, hP3, hR2, hI2⟩ := hex
      have hP4 := hP3.kept hk2 (fun q h hlt h2 => h2.elim h.2.2 (fun h3 => absurd hlt (Nat.not_lt.mpr h3)))
      refine lv_istore (lv' := [(6, .int x9), (5, .int 3), (4, .int (nI (4 * i))), (0, .ref b), (1, .ref (ad 0 0)), (2, .ref (adm 30)), (3, .ref o)]) hx hb dL_law_942 hl (by decide) rfl (fun ls hl => ?_)
      refine lv_aload_n hx hb dL_law_944 rfl (lv_at hl 5 rfl) ?_
      refine hcallV (n := 0) C hE (kM_thrown l G (fun q => H2.size ≤ q) (McL adm) adm τ') wML_L_105 wIM_X6_thrown wSE_X6_X6_thrown wIN_X6 wCO_X6_thrown (by decide) rfl ⟨Nat.le_of_ble_eq_true rfl, Nat.le_of_ble_eq_true rfl⟩ (orec hE hM3.main (show mcl[8]? = some (RX6, TX6, 30) from rfl)) hS (fun q h => Nat.le_trans hS.1 h) (fun q h => h) hM3 rfl hl.1 (Nat.le_of_ble_eq_true rfl) dL_law_945 ⟨by show cc9 + 4 + 0 + 0 ≤ 601024; omega, by show ss9 + 24 + 0 + 0 ≤ 7293034; omega⟩ (fun E ce q9 H1 locs1 hx9 _ _ _ _ _ => hx9.elim) (fun v H3 locs3 hv3 hk3 hS => ?_)
      obtain rfl : v = some (.int 3) := by rw [hv3, e27]
      have hP5 := hP4.old hk3
      have hM5 := hM3.old hk3
      have ho5 := ho3.kept (hk3.2 _ ho3.lt (Nat.not_le.mpr ho3.lt))
      refine lv_iload hx hb dL_law_948 (lv_at hl 1 rfl) ?_
      refine lv_icmp_eq (tgt := 955) hx hb dL_law_950 (by decide) (fun c_950_8 => ?_) (fun c_950_8 => ?_)
      · refine lv_iload hx hb dL_law_955 (lv_at hl 1 rfl) ?_
        refine lv_if_ne (tgt := 972) hx hb dL_law_957 (by decide) (fun c_957_9 => ?_) (fun c_957_9 => ?_)
        · refine lv_goto (tgt := 1851) hx hb dL_law_972 (by decide) ?_
          exact kk H3 locs3 ls _ _ (show cc9 + 4 + 0 + 0 ≤ cc9 + 10 by omega) (show ss9 + 24 + 0 + 0 ≤ ss9 + 300 by omega) hS ⟨ad', σ', τ', qs', nT', nW', f', D', _, ea, hP5, hM5, ho5, hR2, hI2⟩ (lv_sub hl [2, 3, 4, 5, 6] rfl)
        · exact absurd c_957_9 (by decide)
      · exact absurd c_950_8 (by decide)
set_option maxHeartbeats 4000000 in
set_option maxRecDepth 100000 in
theorem LC_bringHome (l : Launch) (hl9 : l.stackTraces = false) {p : Program} {e : Env} {s : State} {m : MethodId} {below : List Frame} {meth : Method} {c : Code} {b L : Nat} {xs : Nat → Int32} {G : GE} {o a0 : Nat} {adm : Nat → Nat} (C : CallFix p m c cL_law 7 s #[Value.ref b] gTb RL) (hE : EN (fun q => s.heap.size ≤ q) G s s.heap) (hN : NCX s) (hX : va_X b L xs s s.heap) (hbl : b < s.heap.size) (hF : LFX s.heap.size o adm) (hL : L ≤ 2048) {i N cc9 ss9 : Nat} {Qw : State → Prop} {H : Heap} {locs : List Loc} {ls : Array Slot} (hi : 4 * i + 4 ≤ L) (hcc : cc9 ≤ 100 + 10 * i) (hss : ss9 ≤ 2000 + 300 * i) (hN2 : N < 1000) (hS : va_S (fun q => s.heap.size ≤ q) s.heap H locs) (hV : LINV G s.heap.size o a0 adm N H) (hl : lv_has ls 7 [(4, .int (nI (4 * i))), (0, .ref b), (1, .ref a0), (2, .ref (adm 30)), (3, .ref o)])
    (kk : ∀ (H1 : Heap) (locs1 : List Loc) (ls1 : Array Slot) (cc1 ss1 : Nat), cc1 ≤ cc9 + 10 → ss1 ≤ ss9 + 300 → va_S (fun q => s.heap.size ≤ q) s.heap H1 locs1 → LINV G s.heap.size o a0 adm (N + 1) H1 → lv_has ls1 7 [(4, .int (nI (4 * i))), (0, .ref b), (1, .ref a0), (2, .ref (adm 30)), (3, .ref o)] → W p l e room_1 s m #[Value.ref b] below meth c H1 locs1 cc1 ss1 Qw (F0 m 1851 ls1 [])) : W p l e room_1 s m #[Value.ref b] below meth c H locs cc9 ss9 Qw (F0 m 975 ls []) := by
  have hx := C.1
  have hb := C.2.1
  have hown := C.2.2.2.1
  have hts := C.2.2.2.2
  obtain ⟨ad, σ, τ, qs, nT, nW, f, D, y0, rfl, hP, hM, ho9, hR, hI⟩ := hV
  have h80 := hR.n80
  refine lv_aload_n hx hb dL_law_975 rfl (lv_at hl 2 rfl) ?_
  refine lv_aload_n hx hb dL_law_976 rfl (lv_at hl 1 rfl) ?_
  refine lv_iload hx hb dL_law_977 (lv_at hl 0 rfl) ?_
  refine lv_iconst (v := 1) hx hb dL_law_979 (by decide) ?_
  refine lv_iadd hx hb dL_law_980 ?_
  rw [i4_1]
  refine va_sld hx hb hX hbl (Nat.not_le.mpr hbl) hS (vp_in_nI (show 4 * i + 1 < L by omega) (by omega)) dL_law_981 ?_
  rw [nI_clamp (show 4 * i + 1 < 2 ^ 31 by omega)]
  refine lv_aload_n hx hb dL_law_982 rfl (lv_at hl 1 rfl) ?_
  refine lv_iload hx hb dL_law_983 (lv_at hl 0 rfl) ?_
  refine lv_iconst (v := 2) hx hb dL_law_985 (by decide) ?_
  refine lv_iadd hx hb dL_law_986 ?_
  rw [i4_2]
  refine va_sld hx hb hX hbl (Nat.not_le.mpr hbl) hS (vp_in_nI (show 4 * i + 2 < L by omega) (by omega)) dL_law_987 ?_
  rw [nI_clamp (show 4 * i + 2 < 2 ^ 31 by omega)]
  refine lv_aload_n hx hb dL_law_988 rfl (lv_at hl 4 rfl) ?_
  refine hcallH (n := 4) C hE hN (hL_bringHome l G (AxL s.heap.size o adm) (fun q => AxL s.heap.size o adm q ∨ q = o) o (fun q h => Or.inl h) (Or.inr rfl) (fun h => h.2.1 rfl) ad σ qs nT nW hl9 (xs (4 * i + 1)) (xs (4 * i + 2)) h80.2.1) wML_L_145 wST_L_bringHome wIN_L wCW_L_bringHome (by decide) rfl ⟨Nat.le_of_ble_eq_true rfl, Nat.le_of_ble_eq_true rfl⟩ hS (fun q h => h.elim (fun h => h.1) (fun h => h ▸ hF.1)) (fun q h => Or.inl (AxL.new hM ho9 hS.1 q h)) ⟨hP, ⟨_, ho9⟩, fun q h => AxL.new hM ho9 hS.1 q h⟩ rfl hl.1 (Nat.le_of_ble_eq_true rfl) dL_law_989 ⟨by show cc9 + 3 ≤ 601024; omega, by show ss9 + 18 ≤ 7293034; omega⟩ (fun v H1 locs1 hv hk hS => ?_)
  have hM1 : PM G (McL adm) adm τ H1 := hM.keptL hk (fun q hq h => h.elim (fun h => h.2.2 hq) (fun h => hF.2.1 (h ▸ hq)))
  rcases hv with ⟨x, H0, rfl, hq, ho2, z2, oq2⟩ | ⟨E, hx9, hcode, y2, ho2⟩
  · skip
    refine lv_istore (lv' := [(5, .int 0), (4, .int (nI (4 * i))), (0, .ref b), (1, .ref (ad 0 0)), (2, .ref (adm 30)), (3, .ref o)]) hx hb dL_law_992 hl (by decide) rfl (fun ls hl => ?_)
    refine lv_aload_n hx hb dL_law_994 rfl (lv_at hl 4 rfl) ?_
    refine lv_aload_n hx hb dL_law_995 rfl (lv_at hl 2 rfl) ?_
    refine lv_iload hx hb dL_law_996 (lv_at hl 1 rfl) ?_
    refine lv_iconst (v := 1) hx hb dL_law_998 (by decide) ?_
    refine lv_iadd hx hb dL_law_999 ?_
    rw [i4_1]
    refine va_sld hx hb hX hbl (Nat.not_le.mpr hbl) hS (vp_in_nI (show 4 * i + 1 < L by omega) (by omega)) dL_law_1000 ?_
    rw [nI_clamp (show 4 * i + 1 < 2 ^ 31 by omega)]
    refine lv_aload_n hx hb dL_law_1001 rfl (lv_at hl 2 rfl) ?_
    refine lv_iload hx hb dL_law_1002 (lv_at hl 1 rfl) ?_
    refine lv_iconst (v := 2) hx hb dL_law_1004 (by decide) ?_
    refine lv_iadd hx hb dL_law_1005 ?_
    rw [i4_2]
    refine va_sld hx hb hX hbl (Nat.not_le.mpr hbl) hS (vp_in_nI (show 4 * i + 2 < L by omega) (by omega)) dL_law_1006 ?_
    rw [nI_clamp (show 4 * i + 2 < 2 ^ 31 by omega)]
    refine hcallV (n := 2) C hE (kR_bringHome l G (fun q => McL adm q ∨ H1.size ≤ q) adm τ (xs (4 * i + 1)) (xs (4 * i + 2)) nW hR.1.2.2.2.2.1 h80.2.1) wML_L_147 wIM_X6_bringHome wSE_X6_X6_bringHome wIN_X6 wCO_X6_bringHome (by decide) rfl ⟨Nat.le_of_ble_eq_true rfl, Nat.le_of_ble_eq_true rfl⟩ (orec hE hM1.main (show mcl[8]? = some (RX6, TX6, 30) from rfl)) hS (fun q h => h.elim (fun h => hF.2.2 q h) (fun h => Nat.le_trans hS.1 h)) (fun q h => Or.inr h) (hM1.any (fun q h => Or.inl h)) rfl hl.1 (Nat.le_of_ble_eq_true rfl) dL_law_1007 ⟨by show cc9 + 3 + 0 ≤ 601024; omega, by show ss9 + 18 + 0 ≤ 7293034; omega⟩ (fun E ce q9 H1 locs1 hx9 _ _ _ _ _ => hx9.elim) (fun v H2 locs2 hv2 hk2 hS => ?_)
    obtain ⟨x9, τ', rfl, hM2, hcm⟩ := hv2
    have hM3 : PM G (McL adm) adm τ' H2 := hM2.any (fun q h => h)
    have ho3 := ho2.kept (hk2.2 _ ho2.lt (fun h => h.elim hF.2.1 (fun h => absurd ho2.lt (Nat.not_lt.mpr h))))
    obtain ⟨e27, ex, ad', σ', qs', nT', nW', f', D', ea, hP2, hR2, hI2⟩ := st_bringHome hR hI hq hcm
    obtain rfl : x = x9 := by cases ex; rfl
    have hP3 := hP2.kept (A1 := fun q => q = o) ⟨Nat.le_of_eq z2.symm, fun q _ hne => oq2 q hne⟩ (fun q h _ e => h.2.1 e)
    have hP4 := hP3.kept hk2 (fun q h hlt h2 => h2.elim h.2.2 (fun h3 => absurd hlt (Nat.not_lt.mpr h3)))
    refine lv_istore (lv' := [(6, .int x), (5, .int 0), (4, .int (nI (4 * i))), (0, .ref b), (1, .ref (ad 0 0)), (2, .ref (adm 30)), (3, .ref o)]) hx hb dL_law_1010 hl (by decide) rfl (fun ls hl => ?_)
    refine lv_aload_n hx hb dL_law_1012 rfl (lv_at hl 5 rfl) ?_
    refine hcallV (n := 0) C hE (kM_thrown l G (fun q => H2.size ≤ q) (McL adm) adm τ') wML_L_105 wIM_X6_thrown wSE_X6_X6_thrown wIN_X6 wCO_X6_thrown (by decide) rfl ⟨Nat.le_of_ble_eq_true rfl, Nat.le_of_ble_eq_true rfl⟩ (orec hE hM3.main (show mcl[8]? = some (RX6, TX6, 30) from rfl)) hS (fun q h => Nat.le_trans hS.1 h) (fun q h => h) hM3 rfl hl.1 (Nat.le_of_ble_eq_true rfl) dL_law_1013 ⟨by show cc9 + 3 + 0 + 0 ≤ 601024; omega, by show ss9 + 18 + 0 + 0 ≤ 7293034; omega⟩ (fun E ce q9 H1 locs1 hx9 _ _ _ _ _ => hx9.elim) (fun v H3 locs3 hv3 hk3 hS => ?_)
    obtain rfl : v = some (.int 0) := by rw [hv3, e27]
    have hP5 := hP4.old hk3
    have hM5 := hM3.old hk3
    have ho5 := ho3.kept (hk3.2 _ ho3.lt (Nat.not_le.mpr ho3.lt))
    refine lv_iload hx hb dL_law_1016 (lv_at hl 1 rfl) ?_
    refine lv_icmp_eq (tgt := 1023) hx hb dL_law_1018 (by decide) (fun c_1018_1 => ?_) (fun c_1018_1 => ?_)
    · refine lv_iload hx hb dL_law_1023 (lv_at hl 1 rfl) ?_
      refine lv_if_ne (tgt := 1040) hx hb dL_law_1025 (by decide) (fun c_1025_2 => ?_) (fun c_1025_2 => ?_)
      · exact absurd c_1025_2 (by decide)
      · refine lv_aload_n hx hb dL_law_1028 rfl (lv_at hl 6 rfl) ?_
        refine lv_iconst (v := 0) hx hb dL_law_1029 (by decide) ?_
        refine xlald hx hb hE.1.1 ho5 dL_law_1030 ?_
        refine lv_iload hx hb dL_law_1031 (lv_at hl 0 rfl) ?_
        refine lv_i2l hx hb dL_law_1033 rfl ?_
        refine W.lcmp hx hb dL_law_1034 ?_
        rw [lcmp0]
        refine lv_if_eq (tgt := 1040) hx hb dL_law_1035 (by decide) (fun c_1035_3 => ?_) (fun c_1035_3 => ?_)
        · refine lv_goto (tgt := 1851) hx hb dL_law_1040 (by decide) ?_
          exact kk H3 locs3 ls _ _ (show cc9 + 3 + 0 + 0 ≤ cc9 + 10 by omega) (show ss9 + 18 + 0 + 0 ≤ ss9 + 300 by omega) hS ⟨ad', σ', τ', qs', nT', nW', f', D', _, ea, hP5, hM5, ho5, hR2, hI2⟩ (lv_sub hl [2, 3, 4, 5, 6] rfl)
        · exact absurd c_1035_3 (by decide)
    · exact absurd c_1018_1 (by decide)
  · rcases hcode with ⟨eE, rfl⟩ | ⟨eE, rfl⟩
    · skip
      refine lv_istore (lv' := [(5, .int 1), (4, .int (nI (4 * i))), (0, .ref b), (1, .ref (ad 0 0)), (2, .ref (adm 30)), (3, .ref o)]) hx hb dL_law_992 hl (by decide) rfl (fun ls hl => ?_)
      refine lv_aload_n hx hb dL_law_994 rfl (lv_at hl 4 rfl) ?_
      refine lv_aload_n hx hb dL_law_995 rfl (lv_at hl 2 rfl) ?_
      refine lv_iload hx hb dL_law_996 (lv_at hl 1 rfl) ?_
      refine lv_iconst (v := 1) hx hb dL_law_998 (by decide) ?_
      refine lv_iadd hx hb dL_law_999 ?_
      rw [i4_1]
      refine va_sld hx hb hX hbl (Nat.not_le.mpr hbl) hS (vp_in_nI (show 4 * i + 1 < L by omega) (by omega)) dL_law_1000 ?_
      rw [nI_clamp (show 4 * i + 1 < 2 ^ 31 by omega)]
      refine lv_aload_n hx hb dL_law_1001 rfl (lv_at hl 2 rfl) ?_
      refine lv_iload hx hb dL_law_1002 (lv_at hl 1 rfl) ?_
      refine lv_iconst (v := 2) hx hb dL_law_1004 (by decide) ?_
      refine lv_iadd hx hb dL_law_1005 ?_
      rw [i4_2]
      refine va_sld hx hb hX hbl (Nat.not_le.mpr hbl) hS (vp_in_nI (show 4 * i + 2 < L by omega) (by omega)) dL_law_1006 ?_
      rw [nI_clamp (show 4 * i + 2 < 2 ^ 31 by omega)]
      refine hcallV (n := 2) C hE (kR_bringHome l G (fun q => McL adm q ∨ H1.size ≤ q) adm τ (xs (4 * i + 1)) (xs (4 * i + 2)) nW hR.1.2.2.2.2.1 h80.2.1) wML_L_147 wIM_X6_bringHome wSE_X6_X6_bringHome wIN_X6 wCO_X6_bringHome (by decide) rfl ⟨Nat.le_of_ble_eq_true rfl, Nat.le_of_ble_eq_true rfl⟩ (orec hE hM1.main (show mcl[8]? = some (RX6, TX6, 30) from rfl)) hS (fun q h => h.elim (fun h => hF.2.2 q h) (fun h => Nat.le_trans hS.1 h)) (fun q h => Or.inr h) (hM1.any (fun q h => Or.inl h)) rfl hl.1 (Nat.le_of_ble_eq_true rfl) dL_law_1007 ⟨by show cc9 + 3 + 0 ≤ 601024; omega, by show ss9 + 18 + 0 ≤ 7293034; omega⟩ (fun E ce q9 H1 locs1 hx9 _ _ _ _ _ => hx9.elim) (fun v H2 locs2 hv2 hk2 hS => ?_)
      obtain ⟨x9, τ', rfl, hM2, hcm⟩ := hv2
      have hM3 : PM G (McL adm) adm τ' H2 := hM2.any (fun q h => h)
      have ho3 := ho2.kept (hk2.2 _ ho2.lt (fun h => h.elim hF.2.1 (fun h => absurd ho2.lt (Nat.not_lt.mpr h))))
      have hex : EXT G (AxL s.heap.size o adm) ad H1 N 1 τ' := by
        rcases sx_bringHome hR hI hx9 hcm with ⟨e1, z⟩ | ⟨e1, z⟩
        · exact z
        · exact absurd (eE.symm.trans e1) (by decide)
      obtain ⟨e27, ad', σ', qs', nT', nW', f', D', ea, hP3, hR2, hI2⟩ := hex
      have hP4 := hP3.kept hk2 (fun q h hlt h2 => h2.elim h.2.2 (fun h3 => absurd hlt (Nat.not_lt.mpr h3)))
      refine lv_istore (lv' := [(6, .int x9), (5, .int 1), (4, .int (nI (4 * i))), (0, .ref b), (1, .ref (ad 0 0)), (2, .ref (adm 30)), (3, .ref o)]) hx hb dL_law_1010 hl (by decide) rfl (fun ls hl => ?_)
      refine lv_aload_n hx hb dL_law_1012 rfl (lv_at hl 5 rfl) ?_
      refine hcallV (n := 0) C hE (kM_thrown l G (fun q => H2.size ≤ q) (McL adm) adm τ') wML_L_105 wIM_X6_thrown wSE_X6_X6_thrown wIN_X6 wCO_X6_thrown (by decide) rfl ⟨Nat.le_of_ble_eq_true rfl, Nat.le_of_ble_eq_true rfl⟩ (orec hE hM3.main (show mcl[8]? = some (RX6, TX6, 30) from rfl)) hS (fun q h => Nat.le_trans hS.1 h) (fun q h => h) hM3 rfl hl.1 (Nat.le_of_ble_eq_true rfl) dL_law_1013 ⟨by show cc9 + 3 + 0 + 0 ≤ 601024; omega, by show ss9 + 18 + 0 + 0 ≤ 7293034; omega⟩ (fun E ce q9 H1 locs1 hx9 _ _ _ _ _ => hx9.elim) (fun v H3 locs3 hv3 hk3 hS => ?_)
      obtain rfl : v = some (.int 1) := by rw [hv3, e27]
      have hP5 := hP4.old hk3
      have hM5 := hM3.old hk3
      have ho5 := ho3.kept (hk3.2 _ ho3.lt (Nat.not_le.mpr ho3.lt))
      refine lv_iload hx hb dL_law_1016 (lv_at hl 1 rfl) ?_
      refine lv_icmp_eq (tgt := 1023) hx hb dL_law_1018 (by decide) (fun c_1018_4 => ?_) (fun c_1018_4 => ?_)
      · refine lv_iload hx hb dL_law_1023 (lv_at hl 1 rfl) ?_
        refine lv_if_ne (tgt := 1040) hx hb dL_law_1025 (by decide) (fun c_1025_5 => ?_) (fun c_1025_5 => ?_)
        · refine lv_goto (tgt := 1851) hx hb dL_law_1040 (by decide) ?_
          exact kk H3 locs3 ls _ _ (show cc9 + 3 + 0 + 0 ≤ cc9 + 10 by omega) (show ss9 + 18 + 0 + 0 ≤ ss9 + 300 by omega) hS ⟨ad', σ', τ', qs', nT', nW', f', D', _, ea, hP5, hM5, ho5, hR2, hI2⟩ (lv_sub hl [2, 3, 4, 5, 6] rfl)
        · exact absurd c_1025_5 (by decide)
      · exact absurd c_1018_4 (by decide)
    · skip
      refine lv_istore (lv' := [(5, .int 2), (4, .int (nI (4 * i))), (0, .ref b), (1, .ref (ad 0 0)), (2, .ref (adm 30)), (3, .ref o)]) hx hb dL_law_992 hl (by decide) rfl (fun ls hl => ?_)
      refine lv_aload_n hx hb dL_law_994 rfl (lv_at hl 4 rfl) ?_
      refine lv_aload_n hx hb dL_law_995 rfl (lv_at hl 2 rfl) ?_
      refine lv_iload hx hb dL_law_996 (lv_at hl 1 rfl) ?_
      refine lv_iconst (v := 1) hx hb dL_law_998 (by decide) ?_
      refine lv_iadd hx hb dL_law_999 ?_
      rw [i4_1]
      refine va_sld hx hb hX hbl (Nat.not_le.mpr hbl) hS (vp_in_nI (show 4 * i + 1 < L by omega) (by omega)) dL_law_1000 ?_
      rw [nI_clamp (show 4 * i + 1 < 2 ^ 31 by omega)]
      refine lv_aload_n hx hb dL_law_1001 rfl (lv_at hl 2 rfl) ?_
      refine lv_iload hx hb dL_law_1002 (lv_at hl 1 rfl) ?_
      refine lv_iconst (v := 2) hx hb dL_law_1004 (by decide) ?_
      refine lv_iadd hx hb dL_law_1005 ?_
      rw [i4_2]
      refine va_sld hx hb hX hbl (Nat.not_le.mpr hbl) hS (vp_in_nI (show 4 * i + 2 < L by omega) (by omega)) dL_law_1006 ?_
      rw [nI_clamp (show 4 * i + 2 < 2 ^ 31 by omega)]
      refine hcallV (n := 2) C hE (kR_bringHome l G (fun q => McL adm q ∨ H1.size ≤ q) adm τ (xs (4 * i + 1)) (xs (4 * i + 2)) nW hR.1.2.2.2.2.1 h80.2.1) wML_L_147 wIM_X6_bringHome wSE_X6_X6_bringHome wIN_X6 wCO_X6_bringHome (by decide) rfl ⟨Nat.le_of_ble_eq_true rfl, Nat.le_of_ble_eq_true rfl⟩ (orec hE hM1.main (show mcl[8]? = some (RX6, TX6, 30) from rfl)) hS (fun q h => h.elim (fun h => hF.2.2 q h) (fun h => Nat.le_trans hS.1 h)) (fun q h => Or.inr h) (hM1.any (fun q h => Or.inl h)) rfl hl.1 (Nat.le_of_ble_eq_true rfl) dL_law_1007 ⟨by show cc9 + 3 + 0 ≤ 601024; omega, by show ss9 + 18 + 0 ≤ 7293034; omega⟩ (fun E ce q9 H1 locs1 hx9 _ _ _ _ _ => hx9.elim) (fun v H2 locs2 hv2 hk2 hS => ?_)
      obtain ⟨x9, τ', rfl, hM2, hcm⟩ := hv2
      have hM3 : PM G (McL adm) adm τ' H2 := hM2.any (fun q h => h)
      have ho3 := ho2.kept (hk2.2 _ ho2.lt (fun h => h.elim hF.2.1 (fun h => absurd ho2.lt (Nat.not_lt.mpr h))))
      have hex : EXT G (AxL s.heap.size o adm) ad H1 N 2 τ' := by
        rcases sx_bringHome hR hI hx9 hcm with ⟨e1, z⟩ | ⟨e1, z⟩
        · exact absurd (eE.symm.trans e1) (by decide)
        · exact z
      obtain ⟨e27, ad', σ', qs', nT', nW', f', D', ea, hP3, hR2, hI2⟩ := hex
      have hP4 := hP3.kept hk2 (fun q h hlt h2 => h2.elim h.2.2 (fun h3 => absurd hlt (Nat.not_lt.mpr h3)))
      refine lv_istore (lv' := [(6, .int x9), (5, .int 2), (4, .int (nI (4 * i))), (0, .ref b), (1, .ref (ad 0 0)), (2, .ref (adm 30)), (3, .ref o)]) hx hb dL_law_1010 hl (by decide) rfl (fun ls hl => ?_)
      refine lv_aload_n hx hb dL_law_1012 rfl (lv_at hl 5 rfl) ?_
      refine hcallV (n := 0) C hE (kM_thrown l G (fun q => H2.size ≤ q) (McL adm) adm τ') wML_L_105 wIM_X6_thrown wSE_X6_X6_thrown wIN_X6 wCO_X6_thrown (by decide) rfl ⟨Nat.le_of_ble_eq_true rfl, Nat.le_of_ble_eq_true rfl⟩ (orec hE hM3.main (show mcl[8]? = some (RX6, TX6, 30) from rfl)) hS (fun q h => Nat.le_trans hS.1 h) (fun q h => h) hM3 rfl hl.1 (Nat.le_of_ble_eq_true rfl) dL_law_1013 ⟨by show cc9 + 3 + 0 + 0 ≤ 601024; omega, by show ss9 + 18 + 0 + 0 ≤ 7293034; omega⟩ (fun E ce q9 H1 locs1 hx9 _ _ _ _ _ => hx9.elim) (fun v H3 locs3 hv3 hk3 hS => ?_)
      obtain rfl : v = some (.int 2) := by rw [hv3, e27]
      have hP5 := hP4.old hk3
      have hM5 := hM3.old hk3
      have ho5 := ho3.kept (hk3.2 _ ho3.lt (Nat.not_le.mpr ho3.lt))
      refine lv_iload hx hb dL_law_1016 (lv_at hl 1 rfl) ?_
      refine lv_icmp_eq (tgt := 1023) hx hb dL_law_1018 (by decide) (fun c_1018_6 => ?_) (fun c_1018_6 => ?_)
      · refine lv_iload hx hb dL_law_1023 (lv_at hl 1 rfl) ?_
        refine lv_if_ne (tgt := 1040) hx hb dL_law_1025 (by decide) (fun c_1025_7 => ?_) (fun c_1025_7 => ?_)
        · refine lv_goto (tgt := 1851) hx hb dL_law_1040 (by decide) ?_
          exact kk H3 locs3 ls _ _ (show cc9 + 3 + 0 + 0 ≤ cc9 + 10 by omega) (show ss9 + 18 + 0 + 0 ≤ ss9 + 300 by omega) hS ⟨ad', σ', τ', qs', nT', nW', f', D', _, ea, hP5, hM5, ho5, hR2, hI2⟩ (lv_sub hl [2, 3, 4, 5, 6] rfl)
        · exact absurd c_1025_7 (by decide)
      · exact absurd c_1018_6 (by decide)
set_option maxHeartbeats 4000000 in
set_option maxRecDepth 100000 in
theorem LC_setShare (l : Launch) (hl9 : l.stackTraces = false) {p : Program} {e : Env} {s : State} {m : MethodId} {below : List Frame} {meth : Method} {c : Code} {b L : Nat} {xs : Nat → Int32} {G : GE} {o a0 : Nat} {adm : Nat → Nat} (C : CallFix p m c cL_law 7 s #[Value.ref b] gTb RL) (hE : EN (fun q => s.heap.size ≤ q) G s s.heap) (hN : NCX s) (hX : va_X b L xs s s.heap) (hbl : b < s.heap.size) (hF : LFX s.heap.size o adm) (hL : L ≤ 2048) {i N cc9 ss9 : Nat} {Qw : State → Prop} {H : Heap} {locs : List Loc} {ls : Array Slot} (hi : 4 * i + 4 ≤ L) (hcc : cc9 ≤ 100 + 10 * i) (hss : ss9 ≤ 2000 + 300 * i) (hN2 : N < 1000) (hS : va_S (fun q => s.heap.size ≤ q) s.heap H locs) (hV : LINV G s.heap.size o a0 adm N H) (hl : lv_has ls 7 [(4, .int (nI (4 * i))), (0, .ref b), (1, .ref a0), (2, .ref (adm 30)), (3, .ref o)])
    (kk : ∀ (H1 : Heap) (locs1 : List Loc) (ls1 : Array Slot) (cc1 ss1 : Nat), cc1 ≤ cc9 + 10 → ss1 ≤ ss9 + 300 → va_S (fun q => s.heap.size ≤ q) s.heap H1 locs1 → LINV G s.heap.size o a0 adm (N + 1) H1 → lv_has ls1 7 [(4, .int (nI (4 * i))), (0, .ref b), (1, .ref a0), (2, .ref (adm 30)), (3, .ref o)] → W p l e room_1 s m #[Value.ref b] below meth c H1 locs1 cc1 ss1 Qw (F0 m 1851 ls1 [])) : W p l e room_1 s m #[Value.ref b] below meth c H locs cc9 ss9 Qw (F0 m 1043 ls []) := by
  have hx := C.1
  have hb := C.2.1
  have hown := C.2.2.2.1
  have hts := C.2.2.2.2
  obtain ⟨ad, σ, τ, qs, nT, nW, f, D, y0, rfl, hP, hM, ho9, hR, hI⟩ := hV
  have h80 := hR.n80
  refine lv_aload_n hx hb dL_law_1043 rfl (lv_at hl 2 rfl) ?_
  refine lv_aload_n hx hb dL_law_1044 rfl (lv_at hl 1 rfl) ?_
  refine lv_iload hx hb dL_law_1045 (lv_at hl 0 rfl) ?_
  refine lv_iconst (v := 1) hx hb dL_law_1047 (by decide) ?_
  refine lv_iadd hx hb dL_law_1048 ?_
  rw [i4_1]
  refine va_sld hx hb hX hbl (Nat.not_le.mpr hbl) hS (vp_in_nI (show 4 * i + 1 < L by omega) (by omega)) dL_law_1049 ?_
  rw [nI_clamp (show 4 * i + 1 < 2 ^ 31 by omega)]
  refine lv_aload_n hx hb dL_law_1050 rfl (lv_at hl 1 rfl) ?_
  refine lv_iload hx hb dL_law_1051 (lv_at hl 0 rfl) ?_
  refine lv_iconst (v := 2) hx hb dL_law_1053 (by decide) ?_
  refine lv_iadd hx hb dL_law_1054 ?_
  rw [i4_2]
  refine va_sld hx hb hX hbl (Nat.not_le.mpr hbl) hS (vp_in_nI (show 4 * i + 2 < L by omega) (by omega)) dL_law_1055 ?_
  rw [nI_clamp (show 4 * i + 2 < 2 ^ 31 by omega)]
  refine lv_aload_n hx hb dL_law_1056 rfl (lv_at hl 4 rfl) ?_
  refine hcallH (n := 4) C hE hN (hL_setShare l G (AxL s.heap.size o adm) (fun q => AxL s.heap.size o adm q ∨ q = o) o (fun q h => Or.inl h) (Or.inr rfl) (fun h => h.2.1 rfl) ad σ qs nT nW hl9 (xs (4 * i + 1)) (xs (4 * i + 2)) h80.2.1) wML_L_148 wST_L_setShare wIN_L wCW_L_setShare (by decide) rfl ⟨Nat.le_of_ble_eq_true rfl, Nat.le_of_ble_eq_true rfl⟩ hS (fun q h => h.elim (fun h => h.1) (fun h => h ▸ hF.1)) (fun q h => Or.inl (AxL.new hM ho9 hS.1 q h)) ⟨hP, ⟨_, ho9⟩, fun q h => AxL.new hM ho9 hS.1 q h⟩ rfl hl.1 (Nat.le_of_ble_eq_true rfl) dL_law_1057 ⟨by show cc9 + 2 ≤ 601024; omega, by show ss9 + 12 ≤ 7293034; omega⟩ (fun v H1 locs1 hv hk hS => ?_)
  have hM1 : PM G (McL adm) adm τ H1 := hM.keptL hk (fun q hq h => h.elim (fun h => h.2.2 hq) (fun h => hF.2.1 (h ▸ hq)))
  rcases hv with ⟨x, H0, rfl, hq, ho2, z2, oq2⟩ | ⟨E, hx9, hcode, y2, ho2⟩
  · skip
    refine lv_istore (lv' := [(5, .int 0), (4, .int (nI (4 * i))), (0, .ref b), (1, .ref (ad 0 0)), (2, .ref (adm 30)), (3, .ref o)]) hx hb dL_law_1060 hl (by decide) rfl (fun ls hl => ?_)
    refine lv_aload_n hx hb dL_law_1062 rfl (lv_at hl 4 rfl) ?_
    refine lv_aload_n hx hb dL_law_1063 rfl (lv_at hl 2 rfl) ?_
    refine lv_iload hx hb dL_law_1064 (lv_at hl 1 rfl) ?_
    refine lv_iconst (v := 1) hx hb dL_law_1066 (by decide) ?_
    refine lv_iadd hx hb dL_law_1067 ?_
    rw [i4_1]
    refine va_sld hx hb hX hbl (Nat.not_le.mpr hbl) hS (vp_in_nI (show 4 * i + 1 < L by omega) (by omega)) dL_law_1068 ?_
    rw [nI_clamp (show 4 * i + 1 < 2 ^ 31 by omega)]
    refine lv_aload_n hx hb dL_law_1069 rfl (lv_at hl 2 rfl) ?_
    refine lv_iload hx hb dL_law_1070 (lv_at hl 1 rfl) ?_
    refine lv_iconst (v := 2) hx hb dL_law_1072 (by decide) ?_
    refine lv_iadd hx hb dL_law_1073 ?_
    rw [i4_2]
    refine va_sld hx hb hX hbl (Nat.not_le.mpr hbl) hS (vp_in_nI (show 4 * i + 2 < L by omega) (by omega)) dL_law_1074 ?_
    rw [nI_clamp (show 4 * i + 2 < 2 ^ 31 by omega)]
    refine hcallV (n := 2) C hE (kR_setShare l G (fun q => McL adm q ∨ H1.size ≤ q) adm τ (xs (4 * i + 1)) (xs (4 * i + 2)) nW hR.1.2.2.2.2.1 h80.2.1) wML_L_150 wIM_X6_setShare wSE_X6_X6_setShare wIN_X6 wCO_X6_setShare (by decide) rfl ⟨Nat.le_of_ble_eq_true rfl, Nat.le_of_ble_eq_true rfl⟩ (orec hE hM1.main (show mcl[8]? = some (RX6, TX6, 30) from rfl)) hS (fun q h => h.elim (fun h => hF.2.2 q h) (fun h => Nat.le_trans hS.1 h)) (fun q h => Or.inr h) (hM1.any (fun q h => Or.inl h)) rfl hl.1 (Nat.le_of_ble_eq_true rfl) dL_law_1075 ⟨by show cc9 + 2 + 0 ≤ 601024; omega, by show ss9 + 12 + 0 ≤ 7293034; omega⟩ (fun E ce q9 H1 locs1 hx9 _ _ _ _ _ => hx9.elim) (fun v H2 locs2 hv2 hk2 hS => ?_)
    obtain ⟨x9, τ', rfl, hM2, hcm⟩ := hv2
    have hM3 : PM G (McL adm) adm τ' H2 := hM2.any (fun q h => h)
    have ho3 := ho2.kept (hk2.2 _ ho2.lt (fun h => h.elim hF.2.1 (fun h => absurd ho2.lt (Nat.not_lt.mpr h))))
    obtain ⟨e27, ex, ad', σ', qs', nT', nW', f', D', ea, hP2, hR2, hI2⟩ := st_setShare hR hI hq hcm
    obtain rfl : x = x9 := by cases ex; rfl
    have hP3 := hP2.kept (A1 := fun q => q = o) ⟨Nat.le_of_eq z2.symm, fun q _ hne => oq2 q hne⟩ (fun q h _ e => h.2.1 e)
    have hP4 := hP3.kept hk2 (fun q h hlt h2 => h2.elim h.2.2 (fun h3 => absurd hlt (Nat.not_lt.mpr h3)))
    refine lv_istore (lv' := [(6, .int x), (5, .int 0), (4, .int (nI (4 * i))), (0, .ref b), (1, .ref (ad 0 0)), (2, .ref (adm 30)), (3, .ref o)]) hx hb dL_law_1078 hl (by decide) rfl (fun ls hl => ?_)
    refine lv_aload_n hx hb dL_law_1080 rfl (lv_at hl 5 rfl) ?_
    refine hcallV (n := 0) C hE (kM_thrown l G (fun q => H2.size ≤ q) (McL adm) adm τ') wML_L_105 wIM_X6_thrown wSE_X6_X6_thrown wIN_X6 wCO_X6_thrown (by decide) rfl ⟨Nat.le_of_ble_eq_true rfl, Nat.le_of_ble_eq_true rfl⟩ (orec hE hM3.main (show mcl[8]? = some (RX6, TX6, 30) from rfl)) hS (fun q h => Nat.le_trans hS.1 h) (fun q h => h) hM3 rfl hl.1 (Nat.le_of_ble_eq_true rfl) dL_law_1081 ⟨by show cc9 + 2 + 0 + 0 ≤ 601024; omega, by show ss9 + 12 + 0 + 0 ≤ 7293034; omega⟩ (fun E ce q9 H1 locs1 hx9 _ _ _ _ _ => hx9.elim) (fun v H3 locs3 hv3 hk3 hS => ?_)
    obtain rfl : v = some (.int 0) := by rw [hv3, e27]
    have hP5 := hP4.old hk3
    have hM5 := hM3.old hk3
    have ho5 := ho3.kept (hk3.2 _ ho3.lt (Nat.not_le.mpr ho3.lt))
    refine lv_iload hx hb dL_law_1084 (lv_at hl 1 rfl) ?_
    refine lv_icmp_eq (tgt := 1091) hx hb dL_law_1086 (by decide) (fun c_1086_1 => ?_) (fun c_1086_1 => ?_)
    · refine lv_iload hx hb dL_law_1091 (lv_at hl 1 rfl) ?_
      refine lv_if_ne (tgt := 1108) hx hb dL_law_1093 (by decide) (fun c_1093_2 => ?_) (fun c_1093_2 => ?_)
      · exact absurd c_1093_2 (by decide)
      · refine lv_aload_n hx hb dL_law_1096 rfl (lv_at hl 6 rfl) ?_
        refine lv_iconst (v := 0) hx hb dL_law_1097 (by decide) ?_
        refine xlald hx hb hE.1.1 ho5 dL_law_1098 ?_
        refine lv_iload hx hb dL_law_1099 (lv_at hl 0 rfl) ?_
        refine lv_i2l hx hb dL_law_1101 rfl ?_
        refine W.lcmp hx hb dL_law_1102 ?_
        rw [lcmp0]
        refine lv_if_eq (tgt := 1108) hx hb dL_law_1103 (by decide) (fun c_1103_3 => ?_) (fun c_1103_3 => ?_)
        · refine lv_goto (tgt := 1851) hx hb dL_law_1108 (by decide) ?_
          exact kk H3 locs3 ls _ _ (show cc9 + 2 + 0 + 0 ≤ cc9 + 10 by omega) (show ss9 + 12 + 0 + 0 ≤ ss9 + 300 by omega) hS ⟨ad', σ', τ', qs', nT', nW', f', D', _, ea, hP5, hM5, ho5, hR2, hI2⟩ (lv_sub hl [2, 3, 4, 5, 6] rfl)
        · exact absurd c_1103_3 (by decide)
    · exact absurd c_1086_1 (by decide)
  · rcases hcode with ⟨eE, rfl⟩ | ⟨eE, rfl⟩
    · skip
      refine lv_istore (lv' := [(5, .int 1), (4, .int (nI (4 * i))), (0, .ref b), (1, .ref (ad 0 0)), (2, .ref (adm 30)), (3, .ref o)]) hx hb dL_law_1060 hl (by decide) rfl (fun ls hl => ?_)
      refine lv_aload_n hx hb dL_law_1062 rfl (lv_at hl 4 rfl) ?_
      refine lv_aload_n hx hb dL_law_1063 rfl (lv_at hl 2 rfl) ?_
      refine lv_iload hx hb dL_law_1064 (lv_at hl 1 rfl) ?_
      refine lv_iconst (v := 1) hx hb dL_law_1066 (by decide) ?_
      refine lv_iadd hx hb dL_law_1067 ?_
      rw [i4_1]
      refine va_sld hx hb hX hbl (Nat.not_le.mpr hbl) hS (vp_in_nI (show 4 * i + 1 < L by omega) (by omega)) dL_law_1068 ?_
      rw [nI_clamp (show 4 * i + 1 < 2 ^ 31 by omega)]
      refine lv_aload_n hx hb dL_law_1069 rfl (lv_at hl 2 rfl) ?_
      refine lv_iload hx hb dL_law_1070 (lv_at hl 1 rfl) ?_
      refine lv_iconst (v := 2) hx hb dL_law_1072 (by decide) ?_
      refine lv_iadd hx hb dL_law_1073 ?_
      rw [i4_2]
      refine va_sld hx hb hX hbl (Nat.not_le.mpr hbl) hS (vp_in_nI (show 4 * i + 2 < L by omega) (by omega)) dL_law_1074 ?_
      rw [nI_clamp (show 4 * i + 2 < 2 ^ 31 by omega)]
      refine hcallV (n := 2) C hE (kR_setShare l G (fun q => McL adm q ∨ H1.size ≤ q) adm τ (xs (4 * i + 1)) (xs (4 * i + 2)) nW hR.1.2.2.2.2.1 h80.2.1) wML_L_150 wIM_X6_setShare wSE_X6_X6_setShare wIN_X6 wCO_X6_setShare (by decide) rfl ⟨Nat.le_of_ble_eq_true rfl, Nat.le_of_ble_eq_true rfl⟩ (orec hE hM1.main (show mcl[8]? = some (RX6, TX6, 30) from rfl)) hS (fun q h => h.elim (fun h => hF.2.2 q h) (fun h => Nat.le_trans hS.1 h)) (fun q h => Or.inr h) (hM1.any (fun q h => Or.inl h)) rfl hl.1 (Nat.le_of_ble_eq_true rfl) dL_law_1075 ⟨by show cc9 + 2 + 0 ≤ 601024; omega, by show ss9 + 12 + 0 ≤ 7293034; omega⟩ (fun E ce q9 H1 locs1 hx9 _ _ _ _ _ => hx9.elim) (fun v H2 locs2 hv2 hk2 hS => ?_)
      obtain ⟨x9, τ', rfl, hM2, hcm⟩ := hv2
      have hM3 : PM G (McL adm) adm τ' H2 := hM2.any (fun q h => h)
      have ho3 := ho2.kept (hk2.2 _ ho2.lt (fun h => h.elim hF.2.1 (fun h => absurd ho2.lt (Nat.not_lt.mpr h))))
      have hex : EXT G (AxL s.heap.size o adm) ad H1 N 1 τ' := by
        rcases sx_setShare hR hI hx9 hcm with ⟨e1, z⟩ | ⟨e1, z⟩
        · exact z
        · exact absurd (eE.symm.trans e1) (by decide)
      obtain ⟨e27, ad', σ', qs', nT', nW', f', D', ea, hP3, hR2, hI2⟩ := hex
      have hP4 := hP3.kept hk2 (fun q h hlt h2 => h2.elim h.2.2 (fun h3 => absurd hlt (Nat.not_lt.mpr h3)))
      refine lv_istore (lv' := [(6, .int x9), (5, .int 1), (4, .int (nI (4 * i))), (0, .ref b), (1, .ref (ad 0 0)), (2, .ref (adm 30)), (3, .ref o)]) hx hb dL_law_1078 hl (by decide) rfl (fun ls hl => ?_)
      refine lv_aload_n hx hb dL_law_1080 rfl (lv_at hl 5 rfl) ?_
      refine hcallV (n := 0) C hE (kM_thrown l G (fun q => H2.size ≤ q) (McL adm) adm τ') wML_L_105 wIM_X6_thrown wSE_X6_X6_thrown wIN_X6 wCO_X6_thrown (by decide) rfl ⟨Nat.le_of_ble_eq_true rfl, Nat.le_of_ble_eq_true rfl⟩ (orec hE hM3.main (show mcl[8]? = some (RX6, TX6, 30) from rfl)) hS (fun q h => Nat.le_trans hS.1 h) (fun q h => h) hM3 rfl hl.1 (Nat.le_of_ble_eq_true rfl) dL_law_1081 ⟨by show cc9 + 2 + 0 + 0 ≤ 601024; omega, by show ss9 + 12 + 0 + 0 ≤ 7293034; omega⟩ (fun E ce q9 H1 locs1 hx9 _ _ _ _ _ => hx9.elim) (fun v H3 locs3 hv3 hk3 hS => ?_)
      obtain rfl : v = some (.int 1) := by rw [hv3, e27]
      have hP5 := hP4.old hk3
      have hM5 := hM3.old hk3
      have ho5 := ho3.kept (hk3.2 _ ho3.lt (Nat.not_le.mpr ho3.lt))
      refine lv_iload hx hb dL_law_1084 (lv_at hl 1 rfl) ?_
      refine lv_icmp_eq (tgt := 1091) hx hb dL_law_1086 (by decide) (fun c_1086_4 => ?_) (fun c_1086_4 => ?_)
      · refine lv_iload hx hb dL_law_1091 (lv_at hl 1 rfl) ?_
        refine lv_if_ne (tgt := 1108) hx hb dL_law_1093 (by decide) (fun c_1093_5 => ?_) (fun c_1093_5 => ?_)
        · refine lv_goto (tgt := 1851) hx hb dL_law_1108 (by decide) ?_
          exact kk H3 locs3 ls _ _ (show cc9 + 2 + 0 + 0 ≤ cc9 + 10 by omega) (show ss9 + 12 + 0 + 0 ≤ ss9 + 300 by omega) hS ⟨ad', σ', τ', qs', nT', nW', f', D', _, ea, hP5, hM5, ho5, hR2, hI2⟩ (lv_sub hl [2, 3, 4, 5, 6] rfl)
        · exact absurd c_1093_5 (by decide)
      · exact absurd c_1086_4 (by decide)
    · skip
      refine lv_istore (lv' := [(5, .int 2), (4, .int (nI (4 * i))), (0, .ref b), (1, .ref (ad 0 0)), (2, .ref (adm 30)), (3, .ref o)]) hx hb dL_law_1060 hl (by decide) rfl (fun ls hl => ?_)
      refine lv_aload_n hx hb dL_law_1062 rfl (lv_at hl 4 rfl) ?_
      refine lv_aload_n hx hb dL_law_1063 rfl (lv_at hl 2 rfl) ?_
      refine lv_iload hx hb dL_law_1064 (lv_at hl 1 rfl) ?_
      refine lv_iconst (v := 1) hx hb dL_law_1066 (by decide) ?_
      refine lv_iadd hx hb dL_law_1067 ?_
      rw [i4_1]
      refine va_sld hx hb hX hbl (Nat.not_le.mpr hbl) hS (vp_in_nI (show 4 * i + 1 < L by omega) (by omega)) dL_law_1068 ?_
      rw [nI_clamp (show 4 * i + 1 < 2 ^ 31 by omega)]
      refine lv_aload_n hx hb dL_law_1069 rfl (lv_at hl 2 rfl) ?_
      refine lv_iload hx hb dL_law_1070 (lv_at hl 1 rfl) ?_
      refine lv_iconst (v := 2) hx hb dL_law_1072 (by decide) ?_
      refine lv_iadd hx hb dL_law_1073 ?_
      rw [i4_2]
      refine va_sld hx hb hX hbl (Nat.not_le.mpr hbl) hS (vp_in_nI (show 4 * i + 2 < L by omega) (by omega)) dL_law_1074 ?_
      rw [nI_clamp (show 4 * i + 2 < 2 ^ 31 by omega)]
      refine hcallV (n := 2) C hE (kR_setShare l G (fun q => McL adm q ∨ H1.size ≤ q) adm τ (xs (4 * i + 1)) (xs (4 * i + 2)) nW hR.1.2.2.2.2.1 h80.2.1) wML_L_150 wIM_X6_setShare wSE_X6_X6_setShare wIN_X6 wCO_X6_setShare (by decide) rfl ⟨Nat.le_of_ble_eq_true rfl, Nat.le_of_ble_eq_true rfl⟩ (orec hE hM1.main (show mcl[8]? = some (RX6, TX6, 30) from rfl)) hS (fun q h => h.elim (fun h => hF.2.2 q h) (fun h => Nat.le_trans hS.1 h)) (fun q h => Or.inr h) (hM1.any (fun q h => Or.inl h)) rfl hl.1 (Nat.le_of_ble_eq_true rfl) dL_law_1075 ⟨by show cc9 + 2 + 0 ≤ 601024; omega, by show ss9 + 12 + 0 ≤ 7293034; omega⟩ (fun E ce q9 H1 locs1 hx9 _ _ _ _ _ => hx9.elim) (fun v H2 locs2 hv2 hk2 hS => ?_)
      obtain ⟨x9, τ', rfl, hM2, hcm⟩ := hv2
      have hM3 : PM G (McL adm) adm τ' H2 := hM2.any (fun q h => h)
      have ho3 := ho2.kept (hk2.2 _ ho2.lt (fun h => h.elim hF.2.1 (fun h => absurd ho2.lt (Nat.not_lt.mpr h))))
      have hex : EXT G (AxL s.heap.size o adm) ad H1 N 2 τ' := by
        rcases sx_setShare hR hI hx9 hcm with ⟨e1, z⟩ | ⟨e1, z⟩
        · exact absurd (eE.symm.trans e1) (by decide)
        · exact z
      obtain ⟨e27, ad', σ', qs', nT', nW', f', D', ea, hP3, hR2, hI2⟩ := hex
      have hP4 := hP3.kept hk2 (fun q h hlt h2 => h2.elim h.2.2 (fun h3 => absurd hlt (Nat.not_lt.mpr h3)))
      refine lv_istore (lv' := [(6, .int x9), (5, .int 2), (4, .int (nI (4 * i))), (0, .ref b), (1, .ref (ad 0 0)), (2, .ref (adm 30)), (3, .ref o)]) hx hb dL_law_1078 hl (by decide) rfl (fun ls hl => ?_)
      refine lv_aload_n hx hb dL_law_1080 rfl (lv_at hl 5 rfl) ?_
      refine hcallV (n := 0) C hE (kM_thrown l G (fun q => H2.size ≤ q) (McL adm) adm τ') wML_L_105 wIM_X6_thrown wSE_X6_X6_thrown wIN_X6 wCO_X6_thrown (by decide) rfl ⟨Nat.le_of_ble_eq_true rfl, Nat.le_of_ble_eq_true rfl⟩ (orec hE hM3.main (show mcl[8]? = some (RX6, TX6, 30) from rfl)) hS (fun q h => Nat.le_trans hS.1 h) (fun q h => h) hM3 rfl hl.1 (Nat.le_of_ble_eq_true rfl) dL_law_1081 ⟨by show cc9 + 2 + 0 + 0 ≤ 601024; omega, by show ss9 + 12 + 0 + 0 ≤ 7293034; omega⟩ (fun E ce q9 H1 locs1 hx9 _ _ _ _ _ => hx9.elim) (fun v H3 locs3 hv3 hk3 hS => ?_)
      obtain rfl : v = some (.int 2) := by rw [hv3, e27]
      have hP5 := hP4.old hk3
      have hM5 := hM3.old hk3
      have ho5 := ho3.kept (hk3.2 _ ho3.lt (Nat.not_le.mpr ho3.lt))
      refine lv_iload hx hb dL_law_1084 (lv_at hl 1 rfl) ?_
      refine lv_icmp_eq (tgt := 1091) hx hb dL_law_1086 (by decide) (fun c_1086_6 => ?_) (fun c_1086_6 => ?_)
      · refine lv_iload hx hb dL_law_1091 (lv_at hl 1 rfl) ?_
        refine lv_if_ne (tgt := 1108) hx hb dL_law_1093 (by decide) (fun c_1093_7 => ?_) (fun c_1093_7 => ?_)
        · refine lv_goto (tgt := 1851) hx hb dL_law_1108 (by decide) ?_
          exact kk H3 locs3 ls _ _ (show cc9 + 2 + 0 + 0 ≤ cc9 + 10 by omega) (show ss9 + 12 + 0 + 0 ≤ ss9 + 300 by omega) hS ⟨ad', σ', τ', qs', nT', nW', f', D', _, ea, hP5, hM5, ho5, hR2, hI2⟩ (lv_sub hl [2, 3, 4, 5, 6] rfl)
        · exact absurd c_1093_7 (by decide)
      · exact absurd c_1086_6 (by decide)
set_option maxHeartbeats 4000000 in
set_option maxRecDepth 100000 in
theorem LC_sell (l : Launch) (hl9 : l.stackTraces = false) {p : Program} {e : Env} {s : State} {m : MethodId} {below : List Frame} {meth : Method} {c : Code} {b L : Nat} {xs : Nat → Int32} {G : GE} {o a0 : Nat} {adm : Nat → Nat} (C : CallFix p m c cL_law 7 s #[Value.ref b] gTb RL) (hE : EN (fun q => s.heap.size ≤ q) G s s.heap) (hN : NCX s) (hX : va_X b L xs s s.heap) (hbl : b < s.heap.size) (hF : LFX s.heap.size o adm) (hL : L ≤ 2048) {i N cc9 ss9 : Nat} {Qw : State → Prop} {H : Heap} {locs : List Loc} {ls : Array Slot} (hi : 4 * i + 4 ≤ L) (hcc : cc9 ≤ 100 + 10 * i) (hss : ss9 ≤ 2000 + 300 * i) (hN2 : N < 1000) (hS : va_S (fun q => s.heap.size ≤ q) s.heap H locs) (hV : LINV G s.heap.size o a0 adm N H) (hl : lv_has ls 7 [(4, .int (nI (4 * i))), (0, .ref b), (1, .ref a0), (2, .ref (adm 30)), (3, .ref o)])
    (kk : ∀ (H1 : Heap) (locs1 : List Loc) (ls1 : Array Slot) (cc1 ss1 : Nat), cc1 ≤ cc9 + 10 → ss1 ≤ ss9 + 300 → va_S (fun q => s.heap.size ≤ q) s.heap H1 locs1 → LINV G s.heap.size o a0 adm (N + 1) H1 → lv_has ls1 7 [(4, .int (nI (4 * i))), (0, .ref b), (1, .ref a0), (2, .ref (adm 30)), (3, .ref o)] → W p l e room_1 s m #[Value.ref b] below meth c H1 locs1 cc1 ss1 Qw (F0 m 1851 ls1 [])) : W p l e room_1 s m #[Value.ref b] below meth c H locs cc9 ss9 Qw (F0 m 1111 ls []) := by
  have hx := C.1
  have hb := C.2.1
  have hown := C.2.2.2.1
  have hts := C.2.2.2.2
  obtain ⟨ad, σ, τ, qs, nT, nW, f, D, y0, rfl, hP, hM, ho9, hR, hI⟩ := hV
  have h80 := hR.n80
  refine lv_aload_n hx hb dL_law_1111 rfl (lv_at hl 2 rfl) ?_
  refine lv_aload_n hx hb dL_law_1112 rfl (lv_at hl 1 rfl) ?_
  refine lv_iload hx hb dL_law_1113 (lv_at hl 0 rfl) ?_
  refine lv_iconst (v := 1) hx hb dL_law_1115 (by decide) ?_
  refine lv_iadd hx hb dL_law_1116 ?_
  rw [i4_1]
  refine va_sld hx hb hX hbl (Nat.not_le.mpr hbl) hS (vp_in_nI (show 4 * i + 1 < L by omega) (by omega)) dL_law_1117 ?_
  rw [nI_clamp (show 4 * i + 1 < 2 ^ 31 by omega)]
  refine lv_aload_n hx hb dL_law_1118 rfl (lv_at hl 1 rfl) ?_
  refine lv_iload hx hb dL_law_1119 (lv_at hl 0 rfl) ?_
  refine lv_iconst (v := 2) hx hb dL_law_1121 (by decide) ?_
  refine lv_iadd hx hb dL_law_1122 ?_
  rw [i4_2]
  refine va_sld hx hb hX hbl (Nat.not_le.mpr hbl) hS (vp_in_nI (show 4 * i + 2 < L by omega) (by omega)) dL_law_1123 ?_
  rw [nI_clamp (show 4 * i + 2 < 2 ^ 31 by omega)]
  refine lv_aload_n hx hb dL_law_1124 rfl (lv_at hl 1 rfl) ?_
  refine lv_iload hx hb dL_law_1125 (lv_at hl 0 rfl) ?_
  refine lv_iconst (v := 3) hx hb dL_law_1127 (by decide) ?_
  refine lv_iadd hx hb dL_law_1128 ?_
  rw [i4_3]
  refine va_sld hx hb hX hbl (Nat.not_le.mpr hbl) hS (vp_in_nI (show 4 * i + 3 < L by omega) (by omega)) dL_law_1129 ?_
  rw [nI_clamp (show 4 * i + 3 < 2 ^ 31 by omega)]
  refine lv_aload_n hx hb dL_law_1130 rfl (lv_at hl 4 rfl) ?_
  refine hcallH (n := 5) C hE hN (hL_sell l G (AxL s.heap.size o adm) (fun q => AxL s.heap.size o adm q ∨ q = o) o (fun q h => Or.inl h) (Or.inr rfl) (fun h => h.2.1 rfl) ad σ qs nT nW hl9 (xs (4 * i + 1)) (xs (4 * i + 2)) (xs (4 * i + 3)) h80.2.1 (L_wf hR)) wML_L_151 wST_L_sell wIN_L wCW_L_sell (by decide) rfl ⟨Nat.le_of_ble_eq_true rfl, Nat.le_of_ble_eq_true rfl⟩ hS (fun q h => h.elim (fun h => h.1) (fun h => h ▸ hF.1)) (fun q h => Or.inl (AxL.new hM ho9 hS.1 q h)) ⟨hP, ⟨_, ho9⟩, fun q h => AxL.new hM ho9 hS.1 q h⟩ rfl hl.1 (Nat.le_of_ble_eq_true rfl) dL_law_1131 ⟨by show cc9 + 4 ≤ 601024; omega, by show ss9 + 24 ≤ 7293034; omega⟩ (fun v H1 locs1 hv hk hS => ?_)
  have hM1 : PM G (McL adm) adm τ H1 := hM.keptL hk (fun q hq h => h.elim (fun h => h.2.2 hq) (fun h => hF.2.1 (h ▸ hq)))
  rcases hv with ⟨x, H0, rfl, hq, ho2, z2, oq2⟩ | ⟨E, hx9, hcode, y2, ho2⟩
  · skip
    refine lv_istore (lv' := [(5, .int 0), (4, .int (nI (4 * i))), (0, .ref b), (1, .ref (ad 0 0)), (2, .ref (adm 30)), (3, .ref o)]) hx hb dL_law_1134 hl (by decide) rfl (fun ls hl => ?_)
    refine lv_aload_n hx hb dL_law_1136 rfl (lv_at hl 4 rfl) ?_
    refine lv_aload_n hx hb dL_law_1137 rfl (lv_at hl 2 rfl) ?_
    refine lv_iload hx hb dL_law_1138 (lv_at hl 1 rfl) ?_
    refine lv_iconst (v := 1) hx hb dL_law_1140 (by decide) ?_
    refine lv_iadd hx hb dL_law_1141 ?_
    rw [i4_1]
    refine va_sld hx hb hX hbl (Nat.not_le.mpr hbl) hS (vp_in_nI (show 4 * i + 1 < L by omega) (by omega)) dL_law_1142 ?_
    rw [nI_clamp (show 4 * i + 1 < 2 ^ 31 by omega)]
    refine lv_aload_n hx hb dL_law_1143 rfl (lv_at hl 2 rfl) ?_
    refine lv_iload hx hb dL_law_1144 (lv_at hl 1 rfl) ?_
    refine lv_iconst (v := 2) hx hb dL_law_1146 (by decide) ?_
    refine lv_iadd hx hb dL_law_1147 ?_
    rw [i4_2]
    refine va_sld hx hb hX hbl (Nat.not_le.mpr hbl) hS (vp_in_nI (show 4 * i + 2 < L by omega) (by omega)) dL_law_1148 ?_
    rw [nI_clamp (show 4 * i + 2 < 2 ^ 31 by omega)]
    refine lv_aload_n hx hb dL_law_1149 rfl (lv_at hl 2 rfl) ?_
    refine lv_iload hx hb dL_law_1150 (lv_at hl 1 rfl) ?_
    refine lv_iconst (v := 3) hx hb dL_law_1152 (by decide) ?_
    refine lv_iadd hx hb dL_law_1153 ?_
    rw [i4_3]
    refine va_sld hx hb hX hbl (Nat.not_le.mpr hbl) hS (vp_in_nI (show 4 * i + 3 < L by omega) (by omega)) dL_law_1154 ?_
    rw [nI_clamp (show 4 * i + 3 < 2 ^ 31 by omega)]
    refine hcallV (n := 3) C hE (kR_sell l G (fun q => McL adm q ∨ H1.size ≤ q) adm τ (xs (4 * i + 1)) (xs (4 * i + 2)) (xs (4 * i + 3)) nW hR.1.2.2.2.2.1 h80.2.1 (L_wfm hR)) wML_L_153 wIM_X6_sell wSE_X6_X6_sell wIN_X6 wCO_X6_sell (by decide) rfl ⟨Nat.le_of_ble_eq_true rfl, Nat.le_of_ble_eq_true rfl⟩ (orec hE hM1.main (show mcl[8]? = some (RX6, TX6, 30) from rfl)) hS (fun q h => h.elim (fun h => hF.2.2 q h) (fun h => Nat.le_trans hS.1 h)) (fun q h => Or.inr h) (hM1.any (fun q h => Or.inl h)) rfl hl.1 (Nat.le_of_ble_eq_true rfl) dL_law_1155 ⟨by show cc9 + 4 + 0 ≤ 601024; omega, by show ss9 + 24 + 0 ≤ 7293034; omega⟩ (fun E ce q9 H1 locs1 hx9 _ _ _ _ _ => hx9.elim) (fun v H2 locs2 hv2 hk2 hS => ?_)
    obtain ⟨x9, τ', rfl, hM2, hcm⟩ := hv2
    have hM3 : PM G (McL adm) adm τ' H2 := hM2.any (fun q h => h)
    have ho3 := ho2.kept (hk2.2 _ ho2.lt (fun h => h.elim hF.2.1 (fun h => absurd ho2.lt (Nat.not_lt.mpr h))))
    obtain ⟨e27, ex, ad', σ', qs', nT', nW', f', D', ea, hP2, hR2, hI2⟩ := st_sell hR hI hq hcm
    obtain rfl : x = x9 := by cases ex; rfl
    have hP3 := hP2.kept (A1 := fun q => q = o) ⟨Nat.le_of_eq z2.symm, fun q _ hne => oq2 q hne⟩ (fun q h _ e => h.2.1 e)
    have hP4 := hP3.kept hk2 (fun q h hlt h2 => h2.elim h.2.2 (fun h3 => absurd hlt (Nat.not_lt.mpr h3)))
    refine lv_istore (lv' := [(6, .int x), (5, .int 0), (4, .int (nI (4 * i))), (0, .ref b), (1, .ref (ad 0 0)), (2, .ref (adm 30)), (3, .ref o)]) hx hb dL_law_1158 hl (by decide) rfl (fun ls hl => ?_)
    refine lv_aload_n hx hb dL_law_1160 rfl (lv_at hl 5 rfl) ?_
    refine hcallV (n := 0) C hE (kM_thrown l G (fun q => H2.size ≤ q) (McL adm) adm τ') wML_L_105 wIM_X6_thrown wSE_X6_X6_thrown wIN_X6 wCO_X6_thrown (by decide) rfl ⟨Nat.le_of_ble_eq_true rfl, Nat.le_of_ble_eq_true rfl⟩ (orec hE hM3.main (show mcl[8]? = some (RX6, TX6, 30) from rfl)) hS (fun q h => Nat.le_trans hS.1 h) (fun q h => h) hM3 rfl hl.1 (Nat.le_of_ble_eq_true rfl) dL_law_1161 ⟨by show cc9 + 4 + 0 + 0 ≤ 601024; omega, by show ss9 + 24 + 0 + 0 ≤ 7293034; omega⟩ (fun E ce q9 H1 locs1 hx9 _ _ _ _ _ => hx9.elim) (fun v H3 locs3 hv3 hk3 hS => ?_)
    obtain rfl : v = some (.int 0) := by rw [hv3, e27]
    have hP5 := hP4.old hk3
    have hM5 := hM3.old hk3
    have ho5 := ho3.kept (hk3.2 _ ho3.lt (Nat.not_le.mpr ho3.lt))
    refine lv_iload hx hb dL_law_1164 (lv_at hl 1 rfl) ?_
    refine lv_icmp_eq (tgt := 1171) hx hb dL_law_1166 (by decide) (fun c_1166_1 => ?_) (fun c_1166_1 => ?_)
    · refine lv_iload hx hb dL_law_1171 (lv_at hl 1 rfl) ?_
      refine lv_if_ne (tgt := 1188) hx hb dL_law_1173 (by decide) (fun c_1173_2 => ?_) (fun c_1173_2 => ?_)
      · exact absurd c_1173_2 (by decide)
      · refine lv_aload_n hx hb dL_law_1176 rfl (lv_at hl 6 rfl) ?_
        refine lv_iconst (v := 0) hx hb dL_law_1177 (by decide) ?_
        refine xlald hx hb hE.1.1 ho5 dL_law_1178 ?_
        refine lv_iload hx hb dL_law_1179 (lv_at hl 0 rfl) ?_
        refine lv_i2l hx hb dL_law_1181 rfl ?_
        refine W.lcmp hx hb dL_law_1182 ?_
        rw [lcmp0]
        refine lv_if_eq (tgt := 1188) hx hb dL_law_1183 (by decide) (fun c_1183_3 => ?_) (fun c_1183_3 => ?_)
        · refine lv_goto (tgt := 1851) hx hb dL_law_1188 (by decide) ?_
          exact kk H3 locs3 ls _ _ (show cc9 + 4 + 0 + 0 ≤ cc9 + 10 by omega) (show ss9 + 24 + 0 + 0 ≤ ss9 + 300 by omega) hS ⟨ad', σ', τ', qs', nT', nW', f', D', _, ea, hP5, hM5, ho5, hR2, hI2⟩ (lv_sub hl [2, 3, 4, 5, 6] rfl)
        · exact absurd c_1183_3 (by decide)
    · exact absurd c_1166_1 (by decide)
  · rcases hcode with ⟨eE, rfl⟩ | ⟨eE, rfl⟩
    · skip
      refine lv_istore (lv' := [(5, .int 1), (4, .int (nI (4 * i))), (0, .ref b), (1, .ref (ad 0 0)), (2, .ref (adm 30)), (3, .ref o)]) hx hb dL_law_1134 hl (by decide) rfl (fun ls hl => ?_)
      refine lv_aload_n hx hb dL_law_1136 rfl (lv_at hl 4 rfl) ?_
      refine lv_aload_n hx hb dL_law_1137 rfl (lv_at hl 2 rfl) ?_
      refine lv_iload hx hb dL_law_1138 (lv_at hl 1 rfl) ?_
      refine lv_iconst (v := 1) hx hb dL_law_1140 (by decide) ?_
      refine lv_iadd hx hb dL_law_1141 ?_
      rw [i4_1]
      refine va_sld hx hb hX hbl (Nat.not_le.mpr hbl) hS (vp_in_nI (show 4 * i + 1 < L by omega) (by omega)) dL_law_1142 ?_
      rw [nI_clamp (show 4 * i + 1 < 2 ^ 31 by omega)]
      refine lv_aload_n hx hb dL_law_1143 rfl (lv_at hl 2 rfl) ?_
      refine lv_iload hx hb dL_law_1144 (lv_at hl 1 rfl) ?_
      refine lv_iconst (v := 2) hx hb dL_law_1146 (by decide) ?_
      refine lv_iadd hx hb dL_law_1147 ?_
      rw [i4_2]
      refine va_sld hx hb hX hbl (Nat.not_le.mpr hbl) hS (vp_in_nI (show 4 * i + 2 < L by omega) (by omega)) dL_law_1148 ?_
      rw [nI_clamp (show 4 * i + 2 < 2 ^ 31 by omega)]
      refine lv_aload_n hx hb dL_law_1149 rfl (lv_at hl 2 rfl) ?_
      refine lv_iload hx hb dL_law_1150 (lv_at hl 1 rfl) ?_
      refine lv_iconst (v := 3) hx hb dL_law_1152 (by decide) ?_
      refine lv_iadd hx hb dL_law_1153 ?_
      rw [i4_3]
      refine va_sld hx hb hX hbl (Nat.not_le.mpr hbl) hS (vp_in_nI (show 4 * i + 3 < L by omega) (by omega)) dL_law_1154 ?_
      rw [nI_clamp (show 4 * i + 3 < 2 ^ 31 by omega)]
      refine hcallV (n := 3) C hE (kR_sell l G (fun q => McL adm q ∨ H1.size ≤ q) adm τ (xs (4 * i + 1)) (xs (4 * i + 2)) (xs (4 * i + 3)) nW hR.1.2.2.2.2.1 h80.2.1 (L_wfm hR)) wML_L_153 wIM_X6_sell wSE_X6_X6_sell wIN_X6 wCO_X6_sell (by decide) rfl ⟨Nat.le_of_ble_eq_true rfl, Nat.le_of_ble_eq_true rfl⟩ (orec hE hM1.main (show mcl[8]? = some (RX6, TX6, 30) from rfl)) hS (fun q h => h.elim (fun h => hF.2.2 q h) (fun h => Nat.le_trans hS.1 h)) (fun q h => Or.inr h) (hM1.any (fun q h => Or.inl h)) rfl hl.1 (Nat.le_of_ble_eq_true rfl) dL_law_1155 ⟨by show cc9 + 4 + 0 ≤ 601024; omega, by show ss9 + 24 + 0 ≤ 7293034; omega⟩ (fun E ce q9 H1 locs1 hx9 _ _ _ _ _ => hx9.elim) (fun v H2 locs2 hv2 hk2 hS => ?_)
      obtain ⟨x9, τ', rfl, hM2, hcm⟩ := hv2
      have hM3 : PM G (McL adm) adm τ' H2 := hM2.any (fun q h => h)
      have ho3 := ho2.kept (hk2.2 _ ho2.lt (fun h => h.elim hF.2.1 (fun h => absurd ho2.lt (Nat.not_lt.mpr h))))
      have hex : EXT G (AxL s.heap.size o adm) ad H1 N 1 τ' := by
        rcases sx_sell hR hI hx9 hcm with ⟨e1, z⟩ | ⟨e1, z⟩
        · exact z
        · exact absurd (eE.symm.trans e1) (by decide)
      obtain ⟨e27, ad', σ', qs', nT', nW', f', D', ea, hP3, hR2, hI2⟩ := hex
      have hP4 := hP3.kept hk2 (fun q h hlt h2 => h2.elim h.2.2 (fun h3 => absurd hlt (Nat.not_lt.mpr h3)))
      refine lv_istore (lv' := [(6, .int x9), (5, .int 1), (4, .int (nI (4 * i))), (0, .ref b), (1, .ref (ad 0 0)), (2, .ref (adm 30)), (3, .ref o)]) hx hb dL_law_1158 hl (by decide) rfl (fun ls hl => ?_)
      refine lv_aload_n hx hb dL_law_1160 rfl (lv_at hl 5 rfl) ?_
      refine hcallV (n := 0) C hE (kM_thrown l G (fun q => H2.size ≤ q) (McL adm) adm τ') wML_L_105 wIM_X6_thrown wSE_X6_X6_thrown wIN_X6 wCO_X6_thrown (by decide) rfl ⟨Nat.le_of_ble_eq_true rfl, Nat.le_of_ble_eq_true rfl⟩ (orec hE hM3.main (show mcl[8]? = some (RX6, TX6, 30) from rfl)) hS (fun q h => Nat.le_trans hS.1 h) (fun q h => h) hM3 rfl hl.1 (Nat.le_of_ble_eq_true rfl) dL_law_1161 ⟨by show cc9 + 4 + 0 + 0 ≤ 601024; omega, by show ss9 + 24 + 0 + 0 ≤ 7293034; omega⟩ (fun E ce q9 H1 locs1 hx9 _ _ _ _ _ => hx9.elim) (fun v H3 locs3 hv3 hk3 hS => ?_)
      obtain rfl : v = some (.int 1) := by rw [hv3, e27]
      have hP5 := hP4.old hk3
      have hM5 := hM3.old hk3
      have ho5 := ho3.kept (hk3.2 _ ho3.lt (Nat.not_le.mpr ho3.lt))
      refine lv_iload hx hb dL_law_1164 (lv_at hl 1 rfl) ?_
      refine lv_icmp_eq (tgt := 1171) hx hb dL_law_1166 (by decide) (fun c_1166_4 => ?_) (fun c_1166_4 => ?_)
      · refine lv_iload hx hb dL_law_1171 (lv_at hl 1 rfl) ?_
        refine lv_if_ne (tgt := 1188) hx hb dL_law_1173 (by decide) (fun c_1173_5 => ?_) (fun c_1173_5 => ?_)
        · refine lv_goto (tgt := 1851) hx hb dL_law_1188 (by decide) ?_
          exact kk H3 locs3 ls _ _ (show cc9 + 4 + 0 + 0 ≤ cc9 + 10 by omega) (show ss9 + 24 + 0 + 0 ≤ ss9 + 300 by omega) hS ⟨ad', σ', τ', qs', nT', nW', f', D', _, ea, hP5, hM5, ho5, hR2, hI2⟩ (lv_sub hl [2, 3, 4, 5, 6] rfl)
        · exact absurd c_1173_5 (by decide)
      · exact absurd c_1166_4 (by decide)
    · skip
      refine lv_istore (lv' := [(5, .int 2), (4, .int (nI (4 * i))), (0, .ref b), (1, .ref (ad 0 0)), (2, .ref (adm 30)), (3, .ref o)]) hx hb dL_law_1134 hl (by decide) rfl (fun ls hl => ?_)
      refine lv_aload_n hx hb dL_law_1136 rfl (lv_at hl 4 rfl) ?_
      refine lv_aload_n hx hb dL_law_1137 rfl (lv_at hl 2 rfl) ?_
      refine lv_iload hx hb dL_law_1138 (lv_at hl 1 rfl) ?_
      refine lv_iconst (v := 1) hx hb dL_law_1140 (by decide) ?_
      refine lv_iadd hx hb dL_law_1141 ?_
      rw [i4_1]
      refine va_sld hx hb hX hbl (Nat.not_le.mpr hbl) hS (vp_in_nI (show 4 * i + 1 < L by omega) (by omega)) dL_law_1142 ?_
      rw [nI_clamp (show 4 * i + 1 < 2 ^ 31 by omega)]
      refine lv_aload_n hx hb dL_law_1143 rfl (lv_at hl 2 rfl) ?_
      refine lv_iload hx hb dL_law_1144 (lv_at hl 1 rfl) ?_
      refine lv_iconst (v := 2) hx hb dL_law_1146 (by decide) ?_
      refine lv_iadd hx hb dL_law_1147 ?_
      rw [i4_2]
      refine va_sld hx hb hX hbl (Nat.not_le.mpr hbl) hS (vp_in_nI (show 4 * i + 2 < L by omega) (by omega)) dL_law_1148 ?_
      rw [nI_clamp (show 4 * i + 2 < 2 ^ 31 by omega)]
      refine lv_aload_n hx hb dL_law_1149 rfl (lv_at hl 2 rfl) ?_
      refine lv_iload hx hb dL_law_1150 (lv_at hl 1 rfl) ?_
      refine lv_iconst (v := 3) hx hb dL_law_1152 (by decide) ?_
      refine lv_iadd hx hb dL_law_1153 ?_
      rw [i4_3]
      refine va_sld hx hb hX hbl (Nat.not_le.mpr hbl) hS (vp_in_nI (show 4 * i + 3 < L by omega) (by omega)) dL_law_1154 ?_
      rw [nI_clamp (show 4 * i + 3 < 2 ^ 31 by omega)]
      refine hcallV (n := 3) C hE (kR_sell l G (fun q => McL adm q ∨ H1.size ≤ q) adm τ (xs (4 * i + 1)) (xs (4 * i + 2)) (xs (4 * i + 3)) nW hR.1.2.2.2.2.1 h80.2.1 (L_wfm hR)) wML_L_153 wIM_X6_sell wSE_X6_X6_sell wIN_X6 wCO_X6_sell (by decide) rfl ⟨Nat.le_of_ble_eq_true rfl, Nat.le_of_ble_eq_true rfl⟩ (orec hE hM1.main (show mcl[8]? = some (RX6, TX6, 30) from rfl)) hS (fun q h => h.elim (fun h => hF.2.2 q h) (fun h => Nat.le_trans hS.1 h)) (fun q h => Or.inr h) (hM1.any (fun q h => Or.inl h)) rfl hl.1 (Nat.le_of_ble_eq_true rfl) dL_law_1155 ⟨by show cc9 + 4 + 0 ≤ 601024; omega, by show ss9 + 24 + 0 ≤ 7293034; omega⟩ (fun E ce q9 H1 locs1 hx9 _ _ _ _ _ => hx9.elim) (fun v H2 locs2 hv2 hk2 hS => ?_)
      obtain ⟨x9, τ', rfl, hM2, hcm⟩ := hv2
      have hM3 : PM G (McL adm) adm τ' H2 := hM2.any (fun q h => h)
      have ho3 := ho2.kept (hk2.2 _ ho2.lt (fun h => h.elim hF.2.1 (fun h => absurd ho2.lt (Nat.not_lt.mpr h))))
      have hex : EXT G (AxL s.heap.size o adm) ad H1 N 2 τ' := by
        rcases sx_sell hR hI hx9 hcm with ⟨e1, z⟩ | ⟨e1, z⟩
        · exact absurd (eE.symm.trans e1) (by decide)
        · exact z
      obtain ⟨e27, ad', σ', qs', nT', nW', f', D', ea, hP3, hR2, hI2⟩ := hex
      have hP4 := hP3.kept hk2 (fun q h hlt h2 => h2.elim h.2.2 (fun h3 => absurd hlt (Nat.not_lt.mpr h3)))
      refine lv_istore (lv' := [(6, .int x9), (5, .int 2), (4, .int (nI (4 * i))), (0, .ref b), (1, .ref (ad 0 0)), (2, .ref (adm 30)), (3, .ref o)]) hx hb dL_law_1158 hl (by decide) rfl (fun ls hl => ?_)
      refine lv_aload_n hx hb dL_law_1160 rfl (lv_at hl 5 rfl) ?_
      refine hcallV (n := 0) C hE (kM_thrown l G (fun q => H2.size ≤ q) (McL adm) adm τ') wML_L_105 wIM_X6_thrown wSE_X6_X6_thrown wIN_X6 wCO_X6_thrown (by decide) rfl ⟨Nat.le_of_ble_eq_true rfl, Nat.le_of_ble_eq_true rfl⟩ (orec hE hM3.main (show mcl[8]? = some (RX6, TX6, 30) from rfl)) hS (fun q h => Nat.le_trans hS.1 h) (fun q h => h) hM3 rfl hl.1 (Nat.le_of_ble_eq_true rfl) dL_law_1161 ⟨by show cc9 + 4 + 0 + 0 ≤ 601024; omega, by show ss9 + 24 + 0 + 0 ≤ 7293034; omega⟩ (fun E ce q9 H1 locs1 hx9 _ _ _ _ _ => hx9.elim) (fun v H3 locs3 hv3 hk3 hS => ?_)
      obtain rfl : v = some (.int 2) := by rw [hv3, e27]
      have hP5 := hP4.old hk3
      have hM5 := hM3.old hk3
      have ho5 := ho3.kept (hk3.2 _ ho3.lt (Nat.not_le.mpr ho3.lt))
      refine lv_iload hx hb dL_law_1164 (lv_at hl 1 rfl) ?_
      refine lv_icmp_eq (tgt := 1171) hx hb dL_law_1166 (by decide) (fun c_1166_6 => ?_) (fun c_1166_6 => ?_)
      · refine lv_iload hx hb dL_law_1171 (lv_at hl 1 rfl) ?_
        refine lv_if_ne (tgt := 1188) hx hb dL_law_1173 (by decide) (fun c_1173_7 => ?_) (fun c_1173_7 => ?_)
        · refine lv_goto (tgt := 1851) hx hb dL_law_1188 (by decide) ?_
          exact kk H3 locs3 ls _ _ (show cc9 + 4 + 0 + 0 ≤ cc9 + 10 by omega) (show ss9 + 24 + 0 + 0 ≤ ss9 + 300 by omega) hS ⟨ad', σ', τ', qs', nT', nW', f', D', _, ea, hP5, hM5, ho5, hR2, hI2⟩ (lv_sub hl [2, 3, 4, 5, 6] rfl)
        · exact absurd c_1173_7 (by decide)
      · exact absurd c_1166_6 (by decide)
