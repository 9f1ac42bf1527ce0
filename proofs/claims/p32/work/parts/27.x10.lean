theorem rg_of {x : Int32} {n : Nat} (hn : n < 2 ^ 31) (h0 : ¬ x < 0) (h1 : x ≤ nI n) : ∃ c, c ≤ n ∧ x = nI c := by
  obtain ⟨c, hc, rfl⟩ := nI_of h0
  exact ⟨c, (nI_leI hc hn).mp h1, rfl⟩
theorem nI_m1 {v : Nat} : nI (v + 1) - 1 = nI v := by rw [← nI_1 v]; exact Int32.add_sub_cancel _ _
theorem fQue_len {σ : SG} {qs : Nat → List Nat} {r t : Nat} : (fQue σ qs r t).length = (qs r).length + 1 := by
  unfold fQue
  split
  · rw [List.length_insertIdx_of_le_length (fWait_le _ _)]
  · simp
theorem qrem_len (t : Nat) : ∀ q : List Nat, (qrem t q).length ≤ q.length
  | [] => Nat.le_refl _
  | x :: q => by
    simp only [qrem]
    split
    · simp
    · have := qrem_len t q
      simp; omega
set_option maxHeartbeats 4000000 in
set_option maxRecDepth 100000 in
theorem kP_join (l : Launch) (G : GE) (A : Nat → Prop) (ad : Nat → Nat → Nat) (σ : SG) (qs : Nat → List Nat) (nT nW : Nat) (hl9 : l.stackTraces = false) (vm : Int32) : KM l G A yX5_join cX5_join 3 (some .int) (rmL 5 2 12) [.ref (ad 0 0), .int vm] (PX G A ad σ qs nT nW) (fun v H => ∃ j, j < 6 ∧ vm = nI j ∧ fBel (σ 9 j) (σ 25 0) = false ∧ v = some (.int ((σ 25 0 + 30) - 1)) ∧ PX G A ad (up (up (up σ 8 j (σ 8 j + 1)) 9 j ((σ 25 0 + 30) - 1)) 27 0 (σ 27 0 + 6000)) qs nT nW H) (fun E H => PX G A ad σ qs nT nW H ∧ ((E = xIO ∧ ¬ (∃ j, j < 6 ∧ vm = nI j)) ∨ (E = xIS ∧ ∃ j, j < 6 ∧ vm = nI j ∧ fBel (σ 9 j) (σ 25 0) = true))) := by
  refine KM.of (by decide) (Nat.le_of_ble_eq_true rfl) ?_
  intro p e s m args below meth c F hP ls hl
  have hx := F.1.1
  have hb := F.1.2.1
  have hown := F.1.2.2.2.1
  have hts := F.1.2.2.2.2
  have hr := F.2.1
  have hlocks := F.2.2.1
  have hE := F.2.2.2.2.2.1
  have hA := F.2.2.2.2.2.2
  have hS : va_S A s.heap s.heap [] := va_S.rf
  have hl : lv_has ls 3 [(0, .ref (ad 0 0)), (1, .int vm)] := hl
  have hP := hP
  refine lv_aload_n hx hb dX5_join_0 rfl (lv_at hl 0 rfl) ?_
  refine lv_iload_n hx hb dX5_join_1 rfl (lv_at hl 1 rfl) ?_
  refine kcallV (n := 1) F (kX5_memberAt l G (fun q => s.heap.size ≤ q) A ad σ qs nT nW hl9 vm) wML_X5_61 wIM_X5_memberAt wSE_X5_X5_memberAt wIN_X5 wCO_X5_memberAt (by decide) rfl ⟨by decide, by decide⟩ (frec F (hP.main rfl) _ rfl) hS (fun q h => hA q (Nat.le_trans hS.1 h)) (fun q h => h) hP rfl hl.1 (Nat.le_of_ble_eq_true rfl) dX5_join_2 ⟨by decide, by decide⟩ (fun E ce q9 H1 locs1 hx9 hk9 hS hc9 hv9 hf9 => kout (G := G) F.2.2.2.2.1 hlocks hS (by decide) (by decide) hc9 hv9 hf9 (⟨hP.old hk9, Or.inl (⟨hx9.1, hx9.2⟩)⟩)) (fun v H1 locs1 hv hk hS => ?_)
  have hP := hP.old hk
  obtain ⟨j, hj, rfl, rfl⟩ := hv
  refine lv_astore_n (lv' := [(2, .ref (ad 6 j)), (0, .ref (ad 0 0)), (1, .int (nI j))]) hx hb dX5_join_5 rfl hl (by decide) rfl (fun ls hl => ?_)
  refine lv_aload_n hx hb dX5_join_6 rfl (lv_at hl 0 rfl) ?_
  refine lv_aload_n hx hb dX5_join_7 rfl (lv_at hl 1 rfl) ?_
  refine gX5 F (hP.main rfl) 5 (by decide) wFL_X5_65 (fun _ h9 => h9) (v := .int (σ 25 0)) rfl dX5_join_8 ?_
  refine kcallV (n := 1) F (kX0_belongs l G (fun q => H1.size ≤ q) A ad σ qs nT nW j hj (σ 25 0)) wML_X5_68 wIM_X0_belongs wSE_X0_X0_belongs wIN_X0 wCO_X0_belongs (by decide) rfl ⟨by decide, by decide⟩ (frec F (hP.member hj) _ rfl) hS (fun q h => hA q (Nat.le_trans hS.1 h)) (fun q h => h) hP rfl hl.1 (Nat.le_of_ble_eq_true rfl) dX5_join_11 ⟨by decide, by decide⟩ (fun E ce q9 H1 locs1 hx9 _ _ _ _ _ => hx9.elim) (fun v H1 locs1 hv hk hS => ?_)
  have hP := hP.old hk
  subst hv
  refine lv_if_eq (tgt := 27) hx hb dX5_join_14 (by decide) (fun c_14_1 => ?_) (fun c_14_1 => ?_)
  · refine lv_aload_n hx hb dX5_join_27 rfl (lv_at hl 0 rfl) ?_
    refine lv_dup hx hb dX5_join_28 rfl ?_
    refine gX0 F (hP.member hj) 0 (by decide) wFL_X5_121 (fun _ h9 => h9) (v := .int (σ 8 j)) rfl dX5_join_29 ?_
    refine lv_iconst (v := 1) hx hb dX5_join_32 (by decide) ?_
    refine lv_iadd hx hb dX5_join_33 ?_
    refine pX0 F hS (hP.member hj) (hP.omember hj) 0 (by decide) wFL_X5_121 (fun _ h9 => h9) rfl rfl rfl (by simp) dX5_join_34 (fun H1 locs1 he1 z1 oq1 hS => ?_)
    have hP := hP.p8 hj he1 oq1
    refine lv_aload_n hx hb dX5_join_37 rfl (lv_at hl 0 rfl) ?_
    refine lv_aload_n hx hb dX5_join_38 rfl (lv_at hl 1 rfl) ?_
    refine gX5 F (hP.main rfl) 5 (by decide) wFL_X5_65 (fun _ h9 => h9) (v := .int (σ 25 0)) rfl dX5_join_39 ?_
    refine lv_bipush (v := 30) hx hb dX5_join_42 (by decide) ?_
    refine lv_iadd hx hb dX5_join_44 ?_
    refine lv_iconst (v := 1) hx hb dX5_join_45 (by decide) ?_
    refine lv_isub hx hb dX5_join_46 ?_
    refine pX0 F hS (hP.member hj) (hP.omember hj) 1 (by decide) wFL_X5_124 (fun _ h9 => h9) rfl rfl rfl (by simp) dX5_join_47 (fun H1 locs1 he1 z1 oq1 hS => ?_)
    have hP := hP.p9 hj he1 oq1
    refine lv_aload_n hx hb dX5_join_50 rfl (lv_at hl 1 rfl) ?_
    refine lv_dup hx hb dX5_join_51 rfl ?_
    refine gX5 F (hP.main rfl) 7 (by decide) wFL_X5_113 (fun _ h9 => h9) (v := .int (σ 27 0)) rfl dX5_join_52 ?_
    refine lv_sipush (v := 6000) hx hb dX5_join_55 (by decide) ?_
    refine lv_iadd hx hb dX5_join_58 ?_
    refine pX5 F hS (hP.main rfl) (hP.omain rfl) 7 (by decide) wFL_X5_113 (fun _ h9 => h9) rfl rfl rfl (by simp) dX5_join_59 (fun H1 locs1 he1 z1 oq1 hS => ?_)
    have hP := hP.p27 rfl he1 oq1
    refine lv_aload_n hx hb dX5_join_62 rfl (lv_at hl 0 rfl) ?_
    refine gX0 F (hP.member hj) 1 (by decide) wFL_X5_124 (fun _ h9 => h9) (v := .int (((σ 25 0) + 30) - 1)) (by simp [up]) dX5_join_63 ?_
    exact kiret hx hb hr hlocks hS (by decide) (by decide) dX5_join_66 (⟨j, hj, rfl, b2i_0.mp c_14_1, rfl, hP⟩)
  · exact kthrow F hl9 hS hl.1 (cls := xIS) (text := "the membership is not over") (ik := 72) (is := 119) (ic := 76) (by decide +kernel) wCL_X5_72 wIN_java_lang_IllegalStateException tx_119 (by simp [nwCast]) is_good is_bad is_ot dX5_join_17 dX5_join_20 dX5_join_21 dX5_join_23 dX5_join_26 (by decide) (Nat.le_of_ble_eq_true rfl) (by decide) (by decide) (by decide) (by decide) (fun H1 hz hq => ⟨hP.old ⟨hz, fun q h _ => hq q h⟩, Or.inr (⟨rfl, j, hj, rfl, b2i_1.mp c_14_1⟩)⟩)

set_option maxHeartbeats 4000000 in
set_option maxRecDepth 100000 in
theorem kP_setCap (l : Launch) (G : GE) (A : Nat → Prop) (ad : Nat → Nat → Nat) (σ : SG) (qs : Nat → List Nat) (nT nW : Nat) (hl9 : l.stackTraces = false) (vr vv : Int32) (hnW : nW ≤ 12) (hW0 : WFw σ nW) (hV : ∀ r, r < 12 → ∃ v, v ≤ 100 ∧ σ 7 r = nI v) (hQ0 : ∀ r, r < 12 → (qs r).length ≤ 100) : KM l G A yX5_setCap cX5_setCap 4 (some .int) (rmL 8 2 12) [.ref (ad 0 0), .int vr, .int vv] (PX G A ad σ qs nT nW) (fun v H => ∃ r c v9, r < 12 ∧ vr = nI r ∧ c ≤ 20 ∧ vv = nI c ∧ σ 7 r = nI v9 ∧ v9 ≤ 100 ∧ v = some (.int ((fLet nW r (c - v9) (up σ 5 r (nI c)) qs).1 7 r)) ∧ PX G A ad (fLet nW r (c - v9) (up σ 5 r (nI c)) qs).1 (fLet nW r (c - v9) (up σ 5 r (nI c)) qs).2 nT nW H) (fun E H => PX G A ad σ qs nT nW H ∧ ((E = xIO ∧ ¬ (∃ j, j < 12 ∧ vr = nI j)) ∨ (E = xIA ∧ (∃ j, j < 12 ∧ vr = nI j) ∧ (vv < 0 ∨ ¬ vv ≤ 20)))) := by
  refine KM.of (by decide) (Nat.le_of_ble_eq_true rfl) ?_
  intro p e s m args below meth c F hP ls hl
  have hx := F.1.1
  have hb := F.1.2.1
  have hown := F.1.2.2.2.1
  have hts := F.1.2.2.2.2
  have hr := F.2.1
  have hlocks := F.2.2.1
  have hE := F.2.2.2.2.2.1
  have hA := F.2.2.2.2.2.2
  have hS : va_S A s.heap s.heap [] := va_S.rf
  have hl : lv_has ls 4 [(0, .ref (ad 0 0)), (1, .int vr), (2, .int vv)] := hl
  have hP := hP
  refine lv_aload_n hx hb dX5_setCap_0 rfl (lv_at hl 0 rfl) ?_
  refine lv_iload_n hx hb dX5_setCap_1 rfl (lv_at hl 1 rfl) ?_
  refine kcallV (n := 1) F (kX5_roomAt l G (fun q => s.heap.size ≤ q) A ad σ qs nT nW hl9 vr) wML_X5_127 wIM_X5_roomAt wSE_X5_X5_roomAt wIN_X5 wCO_X5_roomAt (by decide) rfl ⟨by decide, by decide⟩ (frec F (hP.main rfl) _ rfl) hS (fun q h => hA q (Nat.le_trans hS.1 h)) (fun q h => h) hP rfl hl.1 (Nat.le_of_ble_eq_true rfl) dX5_setCap_2 ⟨by decide, by decide⟩ (fun E ce q9 H1 locs1 hx9 hk9 hS hc9 hv9 hf9 => kout (G := G) F.2.2.2.2.1 hlocks hS (by decide) (by decide) hc9 hv9 hf9 (⟨hP.old hk9, Or.inl (⟨hx9.1, hx9.2⟩)⟩)) (fun v H1 locs1 hv hk hS => ?_)
  have hP := hP.old hk
  obtain ⟨r, hr9, rfl, rfl⟩ := hv
  refine lv_astore_n (lv' := [(3, .ref (ad 5 r)), (0, .ref (ad 0 0)), (1, .int (nI r)), (2, .int vv)]) hx hb dX5_setCap_5 rfl hl (by decide) rfl (fun ls hl => ?_)
  refine lv_iload_n hx hb dX5_setCap_6 rfl (lv_at hl 3 rfl) ?_
  refine lv_iconst (v := 0) hx hb dX5_setCap_7 (by decide) ?_
  refine lv_bipush (v := 20) hx hb dX5_setCap_8 (by decide) ?_
  refine kcallS (n := 3) F (kX5_checkRange l G (fun q => H1.size ≤ q) hl9 vv 0 20) wML_X5_46 wST_X5_checkRange wIN_X5 wCO_X5_checkRange (by decide) rfl ⟨by decide, by decide⟩ hS (fun q h => hA q (Nat.le_trans hS.1 h)) (fun q h => h) trivial rfl hl.1 (Nat.le_of_ble_eq_true rfl) dX5_setCap_10 ⟨by decide, by decide⟩ (fun E ce q9 H1 locs1 hx9 hk9 hS hc9 hv9 hf9 => kout (G := G) F.2.2.2.2.1 hlocks hS (by decide) (by decide) hc9 hv9 hf9 (⟨hP.old hk9, Or.inr (⟨hx9.1, ⟨⟨r, hr9, rfl⟩, hx9.2⟩⟩)⟩)) (fun v H1 locs1 hv hk hS => ?_)
  obtain ⟨rfl, h1, h2⟩ := hv
  have hP := hP.old hk
  obtain ⟨c9, hc9, rfl⟩ := rg_of (n := 20) (by decide) h1 (show _ ≤ nI 20 from h2)
  obtain ⟨v9, hv9, ev9⟩ := hV r hr9
  refine lv_aload_n hx hb dX5_setCap_13 rfl (lv_at hl 0 rfl) ?_
  refine lv_iload_n hx hb dX5_setCap_14 rfl (lv_at hl 3 rfl) ?_
  refine pX1 F hS (hP.room hr9) (hP.oroom hr9) 2 (by decide) wFL_X5_131 (fun _ h9 => h9) rfl rfl rfl (by simp) dX5_setCap_15 (fun H1 locs1 he1 z1 oq1 hS => ?_)
  have hP := hP.p5 hr9 he1 oq1
  refine lv_aload_n hx hb dX5_setCap_18 rfl (lv_at hl 1 rfl) ?_
  refine lv_aload_n hx hb dX5_setCap_19 rfl (lv_at hl 0 rfl) ?_
  refine kcallV (n := 1) F (kX5_letQueueIn l G A ad (up σ 5 r (nI c9)) qs nT nW r c9 v9 hr9 hnW (fun w9 hw9 => hW0 w9 hw9) (⟨by simp [up], ev9, by omega, by omega⟩) (Nat.le_trans (hQ0 r hr9) (by decide))) wML_X5_134 wIM_X5_letQueueIn wSE_X5_X5_letQueueIn wIN_X5 wCO_X5_letQueueIn (by decide) rfl ⟨by decide, by decide⟩ (frec F (hP.main rfl) _ rfl) hS (fun _ h => h) (fun q h => hA q (Nat.le_trans hS.1 h)) hP rfl hl.1 (Nat.le_of_ble_eq_true rfl) dX5_setCap_20 ⟨by decide, by decide⟩ (fun E ce q9 H1 locs1 hx9 _ _ _ _ _ => hx9.elim) (fun v H1 locs1 hv hk hS => ?_)
  obtain ⟨rfl, hP⟩ := hv
  refine lv_aload_n hx hb dX5_setCap_23 rfl (lv_at hl 0 rfl) ?_
  refine gX1 F (hP.room hr9) 4 (by decide) wFL_X5_138 (fun _ h9 => h9) (v := .int ((fLet nW r (c9 - v9) (up σ 5 r (nI c9)) qs).1 7 r)) rfl dX5_setCap_24 ?_
  exact kiret hx hb hr hlocks hS (by decide) (by decide) dX5_setCap_27 (⟨r, c9, v9, hr9, rfl, hc9, rfl, ev9, hv9, rfl, hP⟩)

set_option maxHeartbeats 4000000 in
set_option maxRecDepth 100000 in
theorem kP_close (l : Launch) (G : GE) (A : Nat → Prop) (ad : Nat → Nat → Nat) (σ : SG) (qs : Nat → List Nat) (nT nW : Nat) (hl9 : l.stackTraces = false) (vr : Int32) (gb : Bool) (f : Nat) (hf : σ 26 0 = nI f) (hfn : f ≤ nT) (hnT : nT ≤ 80) : KM l G A yX5_close cX5_close 4 (some .int) (rmL 5 1 6) [.ref (ad 0 0), .int vr, .int (b2i gb)] (PX G A ad σ qs nT nW) (fun v H => ∃ r, r < 12 ∧ vr = nI r ∧ ((gb = true ∧ v = some (.int (σ 7 r + nI (qs r).length)) ∧ PX G A ad (fSend f nT r (up σ 6 r (b2i gb))) (sq qs r []) nT nW H) ∨ (gb = false ∧ v = some (.int 0) ∧ PX G A ad (up σ 6 r (b2i gb)) qs nT nW H))) (fun E H => PX G A ad σ qs nT nW H ∧ ((E = xIO ∧ ¬ (∃ j, j < 12 ∧ vr = nI j)))) := by
  refine KM.of (by decide) (Nat.le_of_ble_eq_true rfl) ?_
  intro p e s m args below meth c F hP ls hl
  have hx := F.1.1
  have hb := F.1.2.1
  have hown := F.1.2.2.2.1
  have hts := F.1.2.2.2.2
  have hr := F.2.1
  have hlocks := F.2.2.1
  have hE := F.2.2.2.2.2.1
  have hA := F.2.2.2.2.2.2
  have hS : va_S A s.heap s.heap [] := va_S.rf
  have hl : lv_has ls 4 [(0, .ref (ad 0 0)), (1, .int vr), (2, .int (b2i gb))] := hl
  have hP := hP
  refine lv_aload_n hx hb dX5_close_0 rfl (lv_at hl 0 rfl) ?_
  refine lv_iload_n hx hb dX5_close_1 rfl (lv_at hl 1 rfl) ?_
  refine kcallV (n := 1) F (kX5_roomAt l G (fun q => s.heap.size ≤ q) A ad σ qs nT nW hl9 vr) wML_X5_127 wIM_X5_roomAt wSE_X5_X5_roomAt wIN_X5 wCO_X5_roomAt (by decide) rfl ⟨by decide, by decide⟩ (frec F (hP.main rfl) _ rfl) hS (fun q h => hA q (Nat.le_trans hS.1 h)) (fun q h => h) hP rfl hl.1 (Nat.le_of_ble_eq_true rfl) dX5_close_2 ⟨by decide, by decide⟩ (fun E ce q9 H1 locs1 hx9 hk9 hS hc9 hv9 hf9 => kout (G := G) F.2.2.2.2.1 hlocks hS (by decide) (by decide) hc9 hv9 hf9 (⟨hP.old hk9, ⟨hx9.1, hx9.2⟩⟩)) (fun v H1 locs1 hv hk hS => ?_)
  have hP := hP.old hk
  obtain ⟨r, hr9, rfl, rfl⟩ := hv
  refine lv_astore_n (lv' := [(3, .ref (ad 5 r)), (0, .ref (ad 0 0)), (1, .int (nI r)), (2, .int (b2i gb))]) hx hb dX5_close_5 rfl hl (by decide) rfl (fun ls hl => ?_)
  refine lv_aload_n hx hb dX5_close_6 rfl (lv_at hl 0 rfl) ?_
  refine lv_iload_n hx hb dX5_close_7 rfl (lv_at hl 3 rfl) ?_
  refine pX1 F hS (hP.room hr9) (hP.oroom hr9) 3 (by decide) wFL_X5_141 (fun _ h9 => h9) rfl (nz (b2i_or gb)) (fz (b2i_or gb)) (by simp) dX5_close_8 (fun H1 locs1 he1 z1 oq1 hS => ?_)
  have hP := hP.p6 hr9 he1 oq1
  refine lv_iload_n hx hb dX5_close_11 rfl (lv_at hl 3 rfl) ?_
  refine lv_if_eq (tgt := 23) hx hb dX5_close_12 (by decide) (fun c_12_1 => ?_) (fun c_12_1 => ?_)
  · refine lv_iconst (v := 0) hx hb dX5_close_23 (by decide) ?_
    exact kiret hx hb hr hlocks hS (by decide) (by decide) dX5_close_24 (⟨r, hr9, rfl, Or.inr ⟨b2i_0.mp c_12_1, rfl, hP⟩⟩)
  · refine lv_aload_n hx hb dX5_close_15 rfl (lv_at hl 1 rfl) ?_
    refine lv_aload_n hx hb dX5_close_16 rfl (lv_at hl 0 rfl) ?_
    refine kcallV (n := 1) F (kX5_sendAllOut l G A ad (up σ 6 r (b2i gb)) qs nT nW r hr9 f hf hfn hnT) wML_X5_144 wIM_X5_sendAllOut wSE_X5_X5_sendAllOut wIN_X5 wCO_X5_sendAllOut (by decide) rfl ⟨by decide, by decide⟩ (frec F (hP.main rfl) _ rfl) hS (fun _ h => h) (fun q h => hA q (Nat.le_trans hS.1 h)) hP rfl hl.1 (Nat.le_of_ble_eq_true rfl) dX5_close_17 ⟨by decide, by decide⟩ (fun E ce q9 H1 locs1 hx9 _ _ _ _ _ => hx9.elim) (fun v H1 locs1 hv hk hS => ?_)
    obtain ⟨rfl, hP⟩ := hv
    refine lv_goto (tgt := 24) hx hb dX5_close_20 (by decide) ?_
    exact kiret hx hb hr hlocks hS (by decide) (by decide) dX5_close_24 (⟨r, hr9, rfl, Or.inl ⟨b2i_1.mp c_12_1, rfl, hP⟩⟩)

set_option maxHeartbeats 4000000 in
set_option maxRecDepth 100000 in
theorem kP_enter (l : Launch) (G : GE) (A : Nat → Prop) (ad : Nat → Nat → Nat) (σ : SG) (qs : Nat → List Nat) (nT nW : Nat) (hl9 : l.stackTraces = false) (vt vr : Int32) (hnT : nT ≤ 80) (hnW : nW ≤ 12) (hW0 : WFw σ nW) (hV : ∀ r, r < 12 → ∃ c v, freeN σ r c v) (hQ0 : ∀ r, r < 12 → (qs r).length ≤ 80) : KM l G A yX5_enter cX5_enter 5 (some .boolean) (rmL 9 6 250) [.ref (ad 0 0), .int vt, .int vr] (PX G A ad σ qs nT nW) (fun v H => ∃ t r c v9, t < nT ∧ vt = nI t ∧ r < 12 ∧ vr = nI r ∧ (¬ nI t < σ 26 0 ∧ σ 14 t = 0) ∧ (fFor (σ 11 t) (nI (r / 3)) = true ∧ σ 16 t = -1 ∧ σ 6 r = 0) ∧ freeN σ r c v9 ∧ v = some (.int (b2i (decide ((fLet nW r (c - v9) (up (up σ 16 t (nI r)) 17 t 1) (sq qs r (fQue σ qs r t))).1 17 t = 0)))) ∧ PX G A ad (fLet nW r (c - v9) (up (up σ 16 t (nI r)) 17 t 1) (sq qs r (fQue σ qs r t))).1 (fLet nW r (c - v9) (up (up σ 16 t (nI r)) 17 t 1) (sq qs r (fQue σ qs r t))).2 nT nW H) (fun E H => PX G A ad σ qs nT nW H ∧ ((E = xIO ∧ ¬ (∃ j, j < nT ∧ vt = nI j)) ∨ (E = xIO ∧ ¬ (∃ j, j < 12 ∧ vr = nI j)) ∨ (E = xIS ∧ ∃ t, t < nT ∧ vt = nI t ∧ (∃ j, j < 12 ∧ vr = nI j) ∧ (nI t < σ 26 0 ∨ ¬ σ 14 t = 0)) ∨ (E = xIS ∧ ∃ t, t < nT ∧ vt = nI t ∧ ∃ r, r < 12 ∧ vr = nI r ∧ ¬ (fFor (σ 11 t) (nI (r / 3)) = true ∧ σ 16 t = -1 ∧ σ 6 r = 0)))) := by
  refine KM.of (by decide) (Nat.le_of_ble_eq_true rfl) ?_
  intro p e s m args below meth c F hP ls hl
  have hx := F.1.1
  have hb := F.1.2.1
  have hown := F.1.2.2.2.1
  have hts := F.1.2.2.2.2
  have hr := F.2.1
  have hlocks := F.2.2.1
  have hE := F.2.2.2.2.2.1
  have hA := F.2.2.2.2.2.2
  have hS : va_S A s.heap s.heap [] := va_S.rf
  have hl : lv_has ls 5 [(0, .ref (ad 0 0)), (1, .int vt), (2, .int vr)] := hl
  have hP := hP
  refine lv_aload_n hx hb dX5_enter_0 rfl (lv_at hl 0 rfl) ?_
  refine lv_iload_n hx hb dX5_enter_1 rfl (lv_at hl 1 rfl) ?_
  refine kcallV (n := 1) F (kX5_ticketAt l G (fun q => s.heap.size ≤ q) A ad σ qs nT nW hl9 vt hnT) wML_X5_87 wIM_X5_ticketAt wSE_X5_X5_ticketAt wIN_X5 wCO_X5_ticketAt (by decide) rfl ⟨by decide, by decide⟩ (frec F (hP.main rfl) _ rfl) hS (fun q h => hA q (Nat.le_trans hS.1 h)) (fun q h => h) hP rfl hl.1 (Nat.le_of_ble_eq_true rfl) dX5_enter_2 ⟨by decide, by decide⟩ (fun E ce q9 H1 locs1 hx9 hk9 hS hc9 hv9 hf9 => kout (G := G) F.2.2.2.2.1 hlocks hS (by decide) (by decide) hc9 hv9 hf9 (⟨hP.old hk9, Or.inl (⟨hx9.1, hx9.2⟩)⟩)) (fun v H1 locs1 hv hk hS => ?_)
  have hP := hP.old hk
  obtain ⟨t, ht, rfl, rfl⟩ := hv
  refine lv_astore_n (lv' := [(3, .ref (ad 10 t)), (0, .ref (ad 0 0)), (1, .int (nI t)), (2, .int vr)]) hx hb dX5_enter_5 rfl hl (by decide) rfl (fun ls hl => ?_)
  refine lv_aload_n hx hb dX5_enter_6 rfl (lv_at hl 1 rfl) ?_
  refine lv_iload_n hx hb dX5_enter_7 rfl (lv_at hl 3 rfl) ?_
  refine kcallV (n := 1) F (kX5_roomAt l G (fun q => H1.size ≤ q) A ad σ qs nT nW hl9 vr) wML_X5_127 wIM_X5_roomAt wSE_X5_X5_roomAt wIN_X5 wCO_X5_roomAt (by decide) rfl ⟨by decide, by decide⟩ (frec F (hP.main rfl) _ rfl) hS (fun q h => hA q (Nat.le_trans hS.1 h)) (fun q h => h) hP rfl hl.1 (Nat.le_of_ble_eq_true rfl) dX5_enter_8 ⟨by decide, by decide⟩ (fun E ce q9 H1 locs1 hx9 hk9 hS hc9 hv9 hf9 => kout (G := G) F.2.2.2.2.1 hlocks hS (by decide) (by decide) hc9 hv9 hf9 (⟨hP.old hk9, Or.inr (Or.inl (⟨hx9.1, hx9.2⟩))⟩)) (fun v H1 locs1 hv hk hS => ?_)
  have hP := hP.old hk
  obtain ⟨r, hr9, rfl, rfl⟩ := hv
  refine lv_astore (lv' := [(4, .ref (ad 5 r)), (3, .ref (ad 10 t)), (0, .ref (ad 0 0)), (1, .int (nI t)), (2, .int (nI r))]) hx hb dX5_enter_11 hl (by decide) rfl (fun ls hl => ?_)
  refine lv_aload_n hx hb dX5_enter_13 rfl (lv_at hl 2 rfl) ?_
  refine lv_aload_n hx hb dX5_enter_14 rfl (lv_at hl 1 rfl) ?_
  refine kcallV (n := 1) F (kX5_checkUsable l G (fun q => H1.size ≤ q) A ad σ qs nT nW hl9 t ht) wML_X5_91 wIM_X5_checkUsable wSE_X5_X5_checkUsable wIN_X5 wCO_X5_checkUsable (by decide) rfl ⟨by decide, by decide⟩ (frec F (hP.main rfl) _ rfl) hS (fun q h => hA q (Nat.le_trans hS.1 h)) (fun q h => h) hP rfl hl.1 (Nat.le_of_ble_eq_true rfl) dX5_enter_15 ⟨by decide, by decide⟩ (fun E ce q9 H1 locs1 hx9 hk9 hS hc9 hv9 hf9 => kout (G := G) F.2.2.2.2.1 hlocks hS (by decide) (by decide) hc9 hv9 hf9 (⟨hP.old hk9, Or.inr (Or.inr (Or.inl (⟨hx9.1, ⟨t, ht, rfl, ⟨r, hr9, rfl⟩, hx9.2⟩⟩)))⟩)) (fun v H1 locs1 hv hk hS => ?_)
  have hP := hP.old hk
  obtain ⟨rfl, hu1, hu2⟩ := hv
  refine lv_aload_n hx hb dX5_enter_18 rfl (lv_at hl 1 rfl) ?_
  refine lv_aload hx hb dX5_enter_19 (lv_at hl 0 rfl) ?_
  refine gX1 F (hP.room hr9) 1 (by decide) wFL_X5_148 (fun _ h9 => h9) (v := .int (nI (r / 3))) rfl dX5_enter_21 ?_
  refine kcallV (n := 1) F (kX2_isFor l G (fun q => H1.size ≤ q) A ad σ qs nT nW t ht (nI (r / 3))) wML_X5_151 wIM_X2_isFor wSE_X2_X2_isFor wIN_X2 wCO_X2_isFor (by decide) rfl ⟨by decide, by decide⟩ (frec F (hP.tick ht) _ rfl) hS (fun q h => hA q (Nat.le_trans hS.1 h)) (fun q h => h) hP rfl hl.1 (Nat.le_of_ble_eq_true rfl) dX5_enter_24 ⟨by decide, by decide⟩ (fun E ce q9 H1 locs1 hx9 _ _ _ _ _ => hx9.elim) (fun v H1 locs1 hv hk hS => ?_)
  have hP := hP.old hk
  subst hv
  refine lv_if_eq (tgt := 46) hx hb dX5_enter_27 (by decide) (fun c_27_1 => ?_) (fun c_27_1 => ?_)
  · exact kthrow F hl9 hS hl.1 (cls := xIS) (text := "may not enter") (ik := 72) (is := 157) (ic := 76) (by decide +kernel) wCL_X5_72 wIN_java_lang_IllegalStateException tx_157 (by simp [nwCast]) is_good is_bad is_ot dX5_enter_46 dX5_enter_49 dX5_enter_50 dX5_enter_52 dX5_enter_55 (by decide) (Nat.le_of_ble_eq_true rfl) (by decide) (by decide) (by decide) (by decide) (fun H1 hz hq => ⟨hP.old ⟨hz, fun q h _ => hq q h⟩, Or.inr (Or.inr (Or.inr (⟨rfl, t, ht, rfl, r, hr9, rfl, fun z => by rw [b2i_0.mp c_27_1] at z; exact absurd z.1 (by decide)⟩)))⟩)
  · refine lv_aload_n hx hb dX5_enter_30 rfl (lv_at hl 1 rfl) ?_
    refine gX2 F (hP.tick ht) 7 (by decide) wFL_X5_154 (fun _ h9 => h9) (v := .int (σ 16 t)) rfl dX5_enter_31 ?_
    refine lv_iconst (v := (-1)) hx hb dX5_enter_34 (by decide) ?_
    refine lv_icmp_ne (tgt := 46) hx hb dX5_enter_35 (by decide) (fun c_35_2 => ?_) (fun c_35_2 => ?_)
    · exact kthrow F hl9 hS hl.1 (cls := xIS) (text := "may not enter") (ik := 72) (is := 157) (ic := 76) (by decide +kernel) wCL_X5_72 wIN_java_lang_IllegalStateException tx_157 (by simp [nwCast]) is_good is_bad is_ot dX5_enter_46 dX5_enter_49 dX5_enter_50 dX5_enter_52 dX5_enter_55 (by decide) (Nat.le_of_ble_eq_true rfl) (by decide) (by decide) (by decide) (by decide) (fun H1 hz hq => ⟨hP.old ⟨hz, fun q h _ => hq q h⟩, Or.inr (Or.inr (Or.inr (⟨rfl, t, ht, rfl, r, hr9, rfl, fun z => c_35_2 z.2.1⟩)))⟩)
    · refine lv_aload hx hb dX5_enter_38 (lv_at hl 0 rfl) ?_
      refine gX1 F (hP.room hr9) 3 (by decide) wFL_X5_141 (fun _ h9 => h9) (v := .int (σ 6 r)) rfl dX5_enter_40 ?_
      refine lv_if_eq (tgt := 56) hx hb dX5_enter_43 (by decide) (fun c_43_3 => ?_) (fun c_43_3 => ?_)
      · refine lv_aload hx hb dX5_enter_56 (lv_at hl 0 rfl) ?_
        refine lv_aload_n hx hb dX5_enter_58 rfl (lv_at hl 1 rfl) ?_
        refine kcallV (n := 1) F (kX1_queueUp l G A ad σ qs nT nW r t hr9 ht (by have := hQ0 r hr9; omega)) wML_X5_159 wIM_X1_queueUp wSE_X1_X1_queueUp wIN_X1 wCO_X1_queueUp (by decide) rfl ⟨by decide, by decide⟩ (frec F (hP.room hr9) _ rfl) hS (fun _ h => h) (fun q h => hA q (Nat.le_trans hS.1 h)) hP rfl hl.1 (Nat.le_of_ble_eq_true rfl) dX5_enter_59 ⟨by decide, by decide⟩ (fun E ce q9 H1 locs1 hx9 _ _ _ _ _ => hx9.elim) (fun v H1 locs1 hv hk hS => ?_)
        obtain ⟨rfl, hP⟩ := hv
        obtain ⟨c9, v9, hfr⟩ := hV r hr9
        refine lv_aload_n hx hb dX5_enter_62 rfl (lv_at hl 2 rfl) ?_
        refine lv_aload hx hb dX5_enter_63 (lv_at hl 0 rfl) ?_
        refine kcallV (n := 1) F (kX5_letQueueIn l G A ad (up (up σ 16 t (nI r)) 17 t 1) (sq qs r (fQue σ qs r t)) nT nW r c9 v9 hr9 hnW (fun w9 hw9 => hW0 w9 hw9) hfr (by rw [sq_s, fQue_len]; have := hQ0 r hr9; omega)) wML_X5_134 wIM_X5_letQueueIn wSE_X5_X5_letQueueIn wIN_X5 wCO_X5_letQueueIn (by decide) rfl ⟨by decide, by decide⟩ (frec F (hP.main rfl) _ rfl) hS (fun _ h => h) (fun q h => hA q (Nat.le_trans hS.1 h)) hP rfl hl.1 (Nat.le_of_ble_eq_true rfl) dX5_enter_65 ⟨by decide, by decide⟩ (fun E ce q9 H1 locs1 hx9 _ _ _ _ _ => hx9.elim) (fun v H1 locs1 hv hk hS => ?_)
        obtain ⟨rfl, hP⟩ := hv
        refine lv_aload_n hx hb dX5_enter_68 rfl (lv_at hl 1 rfl) ?_
        refine gX2 F (hP.tick ht) 8 (by decide) wFL_X5_100 (fun _ h9 => h9) (v := .int ((fLet nW r (c9 - v9) (up (up σ 16 t (nI r)) 17 t 1) (sq qs r (fQue σ qs r t))).1 17 t)) rfl dX5_enter_69 ?_
        refine lv_if_ne (tgt := 79) hx hb dX5_enter_72 (by decide) (fun c_72_4 => ?_) (fun c_72_4 => ?_)
        · refine lv_iconst (v := 0) hx hb dX5_enter_79 (by decide) ?_
          exact kzret hx hb hr hlocks hS (by decide) (by decide) (Or.inl rfl) dX5_enter_80 (⟨t, r, c9, v9, ht, rfl, hr9, rfl, ⟨hu1, hu2⟩, ⟨b2i_1.mp c_27_1, c_35_2, c_43_3⟩, hfr, by simp [b2i, c_72_4], hP⟩)
        · refine lv_iconst (v := 1) hx hb dX5_enter_75 (by decide) ?_
          refine lv_goto (tgt := 80) hx hb dX5_enter_76 (by decide) ?_
          exact kzret hx hb hr hlocks hS (by decide) (by decide) (Or.inr rfl) dX5_enter_80 (⟨t, r, c9, v9, ht, rfl, hr9, rfl, ⟨hu1, hu2⟩, ⟨b2i_1.mp c_27_1, c_35_2, c_43_3⟩, hfr, by simp [b2i, c_72_4], hP⟩)
      · exact kthrow F hl9 hS hl.1 (cls := xIS) (text := "may not enter") (ik := 72) (is := 157) (ic := 76) (by decide +kernel) wCL_X5_72 wIN_java_lang_IllegalStateException tx_157 (by simp [nwCast]) is_good is_bad is_ot dX5_enter_46 dX5_enter_49 dX5_enter_50 dX5_enter_52 dX5_enter_55 (by decide) (Nat.le_of_ble_eq_true rfl) (by decide) (by decide) (by decide) (by decide) (fun H1 hz hq => ⟨hP.old ⟨hz, fun q h _ => hq q h⟩, Or.inr (Or.inr (Or.inr (⟨rfl, t, ht, rfl, r, hr9, rfl, fun z => c_43_3 z.2.2⟩)))⟩)

set_option maxHeartbeats 4000000 in
set_option maxRecDepth 100000 in
theorem kP_goOut (l : Launch) (G : GE) (A : Nat → Prop) (ad : Nat → Nat → Nat) (σ : SG) (qs : Nat → List Nat) (nT nW : Nat) (hl9 : l.stackTraces = false) (vt : Int32) (hnT : nT ≤ 80) (hnW : nW ≤ 12) (hW0 : WFw σ nW) (hV : ∀ r, r < 12 → ∃ c v, freeN σ r c v) (hQ0 : ∀ r, r < 12 → (qs r).length ≤ 80) (hR : ∀ t, t < nT → σ 16 t = -1 ∨ ∃ r, r < 12 ∧ σ 16 t = nI r) (hv1 : ∀ t r, t < nT → r < 12 → σ 16 t = nI r → σ 17 t = 0 → ∀ c v, freeN σ r c v → v ≠ 0) : KM l G A yX5_goOut cX5_goOut 4 (some .int) (rmL 8 2 12) [.ref (ad 0 0), .int vt] (PX G A ad σ qs nT nW) (fun v H => ∃ t r c v9, t < nT ∧ vt = nI t ∧ r < 12 ∧ σ 16 t = nI r ∧ freeN σ r c v9 ∧ v = some (.int (nI r)) ∧ ((¬ σ 17 t = 0 ∧ PX G A ad (fLet nW r (c - v9) (up (up σ 16 t (-1)) 17 t 0) (sq qs r (qrem t (qs r)))).1 (fLet nW r (c - v9) (up (up σ 16 t (-1)) 17 t 0) (sq qs r (qrem t (qs r)))).2 nT nW H) ∨ (σ 17 t = 0 ∧ v9 ≠ 0 ∧ PX G A ad (fLet nW r (c - (v9 - 1)) (up (up (up σ 7 r (σ 7 r - 1)) 16 t (-1)) 17 t 0) qs).1 (fLet nW r (c - (v9 - 1)) (up (up (up σ 7 r (σ 7 r - 1)) 16 t (-1)) 17 t 0) qs).2 nT nW H))) (fun E H => PX G A ad σ qs nT nW H ∧ ((E = xIO ∧ ¬ (∃ j, j < nT ∧ vt = nI j)) ∨ (E = xIS ∧ ∃ t, t < nT ∧ vt = nI t ∧ σ 16 t = -1))) := by
  refine KM.of (by decide) (Nat.le_of_ble_eq_true rfl) ?_
  intro p e s m args below meth c F hP ls hl
  have hx := F.1.1
  have hb := F.1.2.1
  have hown := F.1.2.2.2.1
  have hts := F.1.2.2.2.2
  have hr := F.2.1
  have hlocks := F.2.2.1
  have hE := F.2.2.2.2.2.1
  have hA := F.2.2.2.2.2.2
  have hS : va_S A s.heap s.heap [] := va_S.rf
  have hl : lv_has ls 4 [(0, .ref (ad 0 0)), (1, .int vt)] := hl
  have hP := hP
  refine lv_aload_n hx hb dX5_goOut_0 rfl (lv_at hl 0 rfl) ?_
  refine lv_iload_n hx hb dX5_goOut_1 rfl (lv_at hl 1 rfl) ?_
  refine kcallV (n := 1) F (kX5_ticketAt l G (fun q => s.heap.size ≤ q) A ad σ qs nT nW hl9 vt hnT) wML_X5_87 wIM_X5_ticketAt wSE_X5_X5_ticketAt wIN_X5 wCO_X5_ticketAt (by decide) rfl ⟨by decide, by decide⟩ (frec F (hP.main rfl) _ rfl) hS (fun q h => hA q (Nat.le_trans hS.1 h)) (fun q h => h) hP rfl hl.1 (Nat.le_of_ble_eq_true rfl) dX5_goOut_2 ⟨by decide, by decide⟩ (fun E ce q9 H1 locs1 hx9 hk9 hS hc9 hv9 hf9 => kout (G := G) F.2.2.2.2.1 hlocks hS (by decide) (by decide) hc9 hv9 hf9 (⟨hP.old hk9, Or.inl (⟨hx9.1, hx9.2⟩)⟩)) (fun v H1 locs1 hv hk hS => ?_)
  have hP := hP.old hk
  obtain ⟨t, ht, rfl, rfl⟩ := hv
  refine lv_astore_n (lv' := [(2, .ref (ad 10 t)), (0, .ref (ad 0 0)), (1, .int (nI t))]) hx hb dX5_goOut_5 rfl hl (by decide) rfl (fun ls hl => ?_)
  refine lv_aload_n hx hb dX5_goOut_6 rfl (lv_at hl 0 rfl) ?_
  refine gX2 F (hP.tick ht) 7 (by decide) wFL_X5_154 (fun _ h9 => h9) (v := .int (σ 16 t)) rfl dX5_goOut_7 ?_
  refine lv_iconst (v := (-1)) hx hb dX5_goOut_10 (by decide) ?_
  refine lv_icmp_ne (tgt := 24) hx hb dX5_goOut_11 (by decide) (fun c_11_1 => ?_) (fun c_11_1 => ?_)
  · refine lv_aload_n hx hb dX5_goOut_24 rfl (lv_at hl 1 rfl) ?_
    refine lv_aload_n hx hb dX5_goOut_25 rfl (lv_at hl 0 rfl) ?_
    refine gX2 F (hP.tick ht) 7 (by decide) wFL_X5_154 (fun _ h9 => h9) (v := .int (σ 16 t)) rfl dX5_goOut_26 ?_
    obtain ⟨r, hr9, er⟩ := (hR t ht).resolve_left c_11_1
    refine W.eq (g2 := F0 m 29 ls [.int (nI r), .ref (ad 0 0)]) (congrArg (fun z => F0 m 29 ls [.int z, .ref (ad 0 0)]) (er)) ?_
    refine kcallV (n := 1) F (kX5_roomAt0 l G (fun q => H1.size ≤ q) A ad σ qs nT nW r hr9) wML_X5_127 wIM_X5_roomAt wSE_X5_X5_roomAt wIN_X5 wCO_X5_roomAt (by decide) rfl ⟨by decide, by decide⟩ (frec F (hP.main rfl) _ rfl) hS (fun q h => hA q (Nat.le_trans hS.1 h)) (fun q h => h) hP rfl hl.1 (Nat.le_of_ble_eq_true rfl) dX5_goOut_29 ⟨by decide, by decide⟩ (fun E ce q9 H1 locs1 hx9 _ _ _ _ _ => hx9.elim) (fun v H1 locs1 hv hk hS => ?_)
    have hP := hP.old hk
    subst hv
    refine lv_astore_n (lv' := [(3, .ref (ad 5 r)), (2, .ref (ad 10 t)), (0, .ref (ad 0 0)), (1, .int (nI t))]) hx hb dX5_goOut_32 rfl hl (by decide) rfl (fun ls hl => ?_)
    refine lv_aload_n hx hb dX5_goOut_33 rfl (lv_at hl 1 rfl) ?_
    refine gX2 F (hP.tick ht) 8 (by decide) wFL_X5_100 (fun _ h9 => h9) (v := .int (σ 17 t)) rfl dX5_goOut_34 ?_
    refine lv_if_eq (tgt := 48) hx hb dX5_goOut_37 (by decide) (fun c_37_2 => ?_) (fun c_37_2 => ?_)
    · refine lv_aload_n hx hb dX5_goOut_48 rfl (lv_at hl 0 rfl) ?_
      refine lv_dup hx hb dX5_goOut_49 rfl ?_
      refine gX1 F (hP.room hr9) 4 (by decide) wFL_X5_138 (fun _ h9 => h9) (v := .int (σ 7 r)) rfl dX5_goOut_50 ?_
      refine lv_iconst (v := 1) hx hb dX5_goOut_53 (by decide) ?_
      refine lv_isub hx hb dX5_goOut_54 ?_
      refine pX1 F hS (hP.room hr9) (hP.oroom hr9) 4 (by decide) wFL_X5_138 (fun _ h9 => h9) rfl rfl rfl (by simp) dX5_goOut_55 (fun H1 locs1 he1 z1 oq1 hS => ?_)
      have hP := hP.p7 hr9 he1 oq1
      refine lv_aload_n hx hb dX5_goOut_58 rfl (lv_at hl 1 rfl) ?_
      refine kcallV (n := 0) F (kX2_leaveRoom l G A ad (up σ 7 r ((σ 7 r) - 1)) qs nT nW t ht) wML_X5_167 wIM_X2_leaveRoom wSE_X2_X2_leaveRoom wIN_X2 wCO_X2_leaveRoom (by decide) rfl ⟨by decide, by decide⟩ (frec F (hP.tick ht) _ rfl) hS (fun _ h => h) (fun q h => hA q (Nat.le_trans hS.1 h)) hP rfl hl.1 (Nat.le_of_ble_eq_true rfl) dX5_goOut_59 ⟨by decide, by decide⟩ (fun E ce q9 H1 locs1 hx9 _ _ _ _ _ => hx9.elim) (fun v H1 locs1 hv hk hS => ?_)
      obtain ⟨rfl, hP⟩ := hv
      obtain ⟨c9, v9, hfr⟩ := hV r hr9
      obtain ⟨u9, rfl⟩ := Nat.exists_eq_succ_of_ne_zero (hv1 t r ht hr9 er c_37_2 c9 v9 hfr)
      refine lv_aload_n hx hb dX5_goOut_62 rfl (lv_at hl 2 rfl) ?_
      refine lv_aload_n hx hb dX5_goOut_63 rfl (lv_at hl 0 rfl) ?_
      refine kcallV (n := 1) F (kX5_letQueueIn l G A ad (up (up (up σ 7 r ((σ 7 r) - 1)) 16 t (-1)) 17 t 0) qs nT nW r c9 u9 hr9 hnW (fun w9 hw9 => hW0 w9 hw9) (⟨hfr.1, by simp [up, hfr.2.1, nI_m1], hfr.2.2.1, by have := hfr.2.2.2; omega⟩) (by first | exact Nat.le_trans (hQ0 r hr9) (by decide) | (rw [sq_s]; have := hQ0 r hr9; have := qrem_len t (qs r); omega))) wML_X5_134 wIM_X5_letQueueIn wSE_X5_X5_letQueueIn wIN_X5 wCO_X5_letQueueIn (by decide) rfl ⟨by decide, by decide⟩ (frec F (hP.main rfl) _ rfl) hS (fun _ h => h) (fun q h => hA q (Nat.le_trans hS.1 h)) hP rfl hl.1 (Nat.le_of_ble_eq_true rfl) dX5_goOut_64 ⟨by decide, by decide⟩ (fun E ce q9 H1 locs1 hx9 _ _ _ _ _ => hx9.elim) (fun v H1 locs1 hv hk hS => ?_)
      obtain ⟨rfl, hP⟩ := hv
      refine lv_aload_n hx hb dX5_goOut_67 rfl (lv_at hl 0 rfl) ?_
      refine gX1 F (hP.room hr9) 0 (by decide) wFL_X5_170 (fun _ h9 => h9) (v := .int (nI r)) rfl dX5_goOut_68 ?_
      exact kiret hx hb hr hlocks hS (by decide) (by decide) dX5_goOut_71 (⟨t, r, c9, u9 + 1, ht, rfl, hr9, er, hfr, rfl, Or.inr ⟨c_37_2, Nat.succ_ne_zero _, hP⟩⟩)
    · refine lv_aload_n hx hb dX5_goOut_40 rfl (lv_at hl 0 rfl) ?_
      refine lv_aload_n hx hb dX5_goOut_41 rfl (lv_at hl 1 rfl) ?_
      refine kcallV (n := 1) F (kX1_leaveQueue l G A ad σ qs nT nW r t hr9 ht (Nat.le_trans (hQ0 r hr9) (by decide))) wML_X5_164 wIM_X1_leaveQueue wSE_X1_X1_leaveQueue wIN_X1 wCO_X1_leaveQueue (by decide) rfl ⟨by decide, by decide⟩ (frec F (hP.room hr9) _ rfl) hS (fun _ h => h) (fun q h => hA q (Nat.le_trans hS.1 h)) hP rfl hl.1 (Nat.le_of_ble_eq_true rfl) dX5_goOut_42 ⟨by decide, by decide⟩ (fun E ce q9 H1 locs1 hx9 _ _ _ _ _ => hx9.elim) (fun v H1 locs1 hv hk hS => ?_)
      obtain ⟨rfl, hP⟩ := hv
      refine lv_goto (tgt := 58) hx hb dX5_goOut_45 (by decide) ?_
      refine lv_aload_n hx hb dX5_goOut_58 rfl (lv_at hl 1 rfl) ?_
      refine kcallV (n := 0) F (kX2_leaveRoom l G A ad σ (sq qs r (qrem t (qs r))) nT nW t ht) wML_X5_167 wIM_X2_leaveRoom wSE_X2_X2_leaveRoom wIN_X2 wCO_X2_leaveRoom (by decide) rfl ⟨by decide, by decide⟩ (frec F (hP.tick ht) _ rfl) hS (fun _ h => h) (fun q h => hA q (Nat.le_trans hS.1 h)) hP rfl hl.1 (Nat.le_of_ble_eq_true rfl) dX5_goOut_59 ⟨by decide, by decide⟩ (fun E ce q9 H1 locs1 hx9 _ _ _ _ _ => hx9.elim) (fun v H1 locs1 hv hk hS => ?_)
      obtain ⟨rfl, hP⟩ := hv
      obtain ⟨c9, v9, hfr⟩ := hV r hr9
      refine lv_aload_n hx hb dX5_goOut_62 rfl (lv_at hl 2 rfl) ?_
      refine lv_aload_n hx hb dX5_goOut_63 rfl (lv_at hl 0 rfl) ?_
      refine kcallV (n := 1) F (kX5_letQueueIn l G A ad (up (up σ 16 t (-1)) 17 t 0) (sq qs r (qrem t (qs r))) nT nW r c9 v9 hr9 hnW (fun w9 hw9 => hW0 w9 hw9) hfr (by first | exact Nat.le_trans (hQ0 r hr9) (by decide) | (rw [sq_s]; have := hQ0 r hr9; have := qrem_len t (qs r); omega))) wML_X5_134 wIM_X5_letQueueIn wSE_X5_X5_letQueueIn wIN_X5 wCO_X5_letQueueIn (by decide) rfl ⟨by decide, by decide⟩ (frec F (hP.main rfl) _ rfl) hS (fun _ h => h) (fun q h => hA q (Nat.le_trans hS.1 h)) hP rfl hl.1 (Nat.le_of_ble_eq_true rfl) dX5_goOut_64 ⟨by decide, by decide⟩ (fun E ce q9 H1 locs1 hx9 _ _ _ _ _ => hx9.elim) (fun v H1 locs1 hv hk hS => ?_)
      obtain ⟨rfl, hP⟩ := hv
      refine lv_aload_n hx hb dX5_goOut_67 rfl (lv_at hl 0 rfl) ?_
      refine gX1 F (hP.room hr9) 0 (by decide) wFL_X5_170 (fun _ h9 => h9) (v := .int (nI r)) rfl dX5_goOut_68 ?_
      exact kiret hx hb hr hlocks hS (by decide) (by decide) dX5_goOut_71 (⟨t, r, c9, v9, ht, rfl, hr9, er, hfr, rfl, Or.inl ⟨c_37_2, hP⟩⟩)
  · exact kthrow F hl9 hS hl.1 (cls := xIS) (text := "in no room and in no queue") (ik := 72) (is := 162) (ic := 76) (by decide +kernel) wCL_X5_72 wIN_java_lang_IllegalStateException tx_162 (by simp [nwCast]) is_good is_bad is_ot dX5_goOut_14 dX5_goOut_17 dX5_goOut_18 dX5_goOut_20 dX5_goOut_23 (by decide) (Nat.le_of_ble_eq_true rfl) (by decide) (by decide) (by decide) (by decide) (fun H1 hz hq => ⟨hP.old ⟨hz, fun q h _ => hq q h⟩, Or.inr (⟨rfl, t, ht, rfl, c_11_1⟩)⟩)

