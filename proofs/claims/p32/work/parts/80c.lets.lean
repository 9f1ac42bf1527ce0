theorem mQ_neg {τ : SG} {n r : Nat} {pp : Int32} (h : mQ τ n r pp ≠ -1) (hn : n ≤ 80) : ¬ mQ τ n r pp < 0 := by
  obtain ⟨i, hi, e, -⟩ := mQ_some h
  rw [e]
  exact nI_pos (by omega)
set_option maxHeartbeats 4000000 in
set_option maxRecDepth 100000 in
theorem kL_letsIn (l : Launch) (G : GE) (A : Nat → Prop) (al : Nat → Nat) (μ τ : SG) (nT nW : Nat) (hR : LR μ τ nT nW) (r : Nat) (hr9 : r < 12) : KM l G A yL_letsIn cL_letsIn 12 none (rmL 2 0 0) [.ref (al 0), .ref (al 3), .ref (al 5), .ref (al 6), .ref (al 7), .ref (al 8), .ref (al 9), .ref (al 10), .ref (al 12), .ref (al 13), .int (nI r)] (PL G A al μ 14) (fun v H => v = none ∧ ∃ μ2, LR μ2 (mLet nW nT r nT τ) nT nW ∧ PL G A al μ2 14 H) (fun _ _ => False) := by
  refine KM.of (by decide) (Nat.le_of_ble_eq_true rfl) ?_
  intro p e s m args below meth c F hP ls hl
  have hx := F.1.1
  have hb := F.1.2.1
  have hown := F.1.2.2.2.1
  have hts := F.1.2.2.2.2
  have hr := F.2.1
  have hlocks := F.2.2.1
  have hE := F.2.2.2.2.2.1
  have hA := F.2.2.2.2.2.2
  have hS : va_S A s.heap s.heap [] := va_S.rf
  have hl : lv_has ls 12 [(0, .ref (al 0)), (1, .ref (al 3)), (2, .ref (al 5)), (3, .ref (al 6)), (4, .ref (al 7)), (5, .ref (al 8)), (6, .ref (al 9)), (7, .ref (al 10)), (8, .ref (al 12)), (9, .ref (al 13)), (10, .int (nI r))] := hl
  have hP := hP
  obtain ⟨h60, h10⟩ := lr_n60 hR
  refine lv_aload_n hx hb dL_letsIn_0 rfl (lv_at hl 0 rfl) ?_
  refine lv_aload_n hx hb dL_letsIn_1 rfl (lv_at hl 1 rfl) ?_
  refine lv_aload_n hx hb dL_letsIn_2 rfl (lv_at hl 3 rfl) ?_
  refine lv_aload hx hb dL_letsIn_3 (lv_at hl 4 rfl) ?_
  refine lv_iload hx hb dL_letsIn_5 (lv_at hl 10 rfl) ?_
  refine lv_iconst (v := (-1)) hx hb dL_letsIn_7 (by decide) ?_
  refine kcallS (n := 6) F (kL_queued l G (fun q => s.heap.size ≤ q) A al μ τ nT nW hR r hr9 (-1)) wML_L_10 wST_L_queued wIN_L wCO_L_queued (by decide) rfl ⟨by decide, by decide⟩ hS (fun q h => hA q (Nat.le_trans hS.1 h)) (fun q h => h) hP rfl hl.1 (Nat.le_of_ble_eq_true rfl) dL_letsIn_8 ⟨by decide, by decide⟩ (fun E ce q9 H1 locs1 hx9 _ _ _ _ _ => hx9.elim) (fun v H1 locs1 hv hk hS => ?_)
  have hP := hP.old hk
  subst hv
  refine W.eq (g2 := F0 m 11 ls [.int (mQ τ nT r 0)]) (congrArg (fun z => F0 m 11 ls [.int z]) (lQue_0 (lr_QB hR) (by omega))) ?_
  refine lv_istore (lv' := [(11, .int (mQ τ nT r 0)), (0, .ref (al 0)), (1, .ref (al 3)), (2, .ref (al 5)), (3, .ref (al 6)), (4, .ref (al 7)), (5, .ref (al 8)), (6, .ref (al 9)), (7, .ref (al 10)), (8, .ref (al 12)), (9, .ref (al 13)), (10, .int (nI r))]) hx hb dL_letsIn_11 hl (by decide) rfl (fun ls hl => ?_)
  have L13 : ∀ (n9 : Nat) (μ1 τ1 : SG) (k9 : Nat) (hk9 : mQn τ1 nT r ≤ k9) (h2 : k9 < n9) (hR1 : LR μ1 τ1 nT nW) (hT : mLet nW nT r k9 τ1 = mLet nW nT r nT τ) (H : Heap) (locs : List Loc) (ls : Array Slot), va_S A s.heap H locs → PL G A al μ1 14 H → lv_has ls 12 [(11, .int (mQ τ1 nT r 0)), (10, .int (nI r)), (0, .ref (al 0)), (1, .ref (al 3)), (2, .ref (al 5)), (3, .ref (al 6)), (4, .ref (al 7)), (5, .ref (al 8)), (6, .ref (al 9)), (7, .ref (al 10)), (8, .ref (al 12)), (9, .ref (al 13))] → W p l e (rmL 2 0 0) s m args below meth c H locs 0 0 (KE below A (fun v H => v = none ∧ ∃ μ2, LR μ2 (mLet nW nT r nT τ) nT nW ∧ PL G A al μ2 14 H) (fun _ _ => False) args s (rmL 2 0 0)) (F0 m 13 ls []) := by
    intro n9
    induction n9 with
    | zero =>
      intro μ1 τ1 k9 hk9 h2 hR1 hT H locs ls hS hP hl
      exact absurd True.intro (by omega)
    | succ n9 ih13 =>
      intro μ1 τ1 k9 hk9 h2 hR1 hT H locs ls hS hP hl
      refine lv_iload hx hb dL_letsIn_13 (lv_at hl 0 rfl) ?_
      refine lv_if_lt (tgt := 67) hx hb dL_letsIn_15 (by decide) (fun c_15_1 => ?_) (fun c_15_1 => ?_)
      · rw [mLet_end (fun z => mQ_neg z.1 (by omega) c_15_1)] at hT
        exact kvret hx hb hr hlocks hS (by decide) (by decide) dL_letsIn_67 (⟨rfl, _, by rw [← hT]; exact hR1, hP⟩)
      · obtain ⟨u, hu, eq, e10⟩ := mQ_some (τ := τ1) (n := nT) (r := r) (pp := 0) (fun z => c_15_1 (by rw [z]; decide))
        refine lv_aload_n hx hb dL_letsIn_18 rfl (lv_at hl 2 rfl) ?_
        refine lv_aload_n hx hb dL_letsIn_19 rfl (lv_at hl 5 rfl) ?_
        refine lv_iload hx hb dL_letsIn_20 (lv_at hl 1 rfl) ?_
        refine kcallS (n := 3) F (kL_inside l G (fun q => H.size ≤ q) A al μ1 τ1 nT nW hR1 r hr9) wML_L_16 wST_L_inside wIN_L wCO_L_inside (by decide) rfl ⟨by decide, by decide⟩ hS (fun q h => hA q (Nat.le_trans hS.1 h)) (fun q h => h) hP rfl hl.1 (Nat.le_of_ble_eq_true rfl) dL_letsIn_22 ⟨by decide, by decide⟩ (fun E ce q9 H1 locs1 hx9 _ _ _ _ _ => hx9.elim) (fun v H1 locs1 hv hk hS => ?_)
        have hP := hP.old hk
        subst hv
        refine lv_aload hx hb dL_letsIn_25 (lv_at hl 7 rfl) ?_
        refine lv_iload hx hb dL_letsIn_27 (lv_at hl 1 rfl) ?_
        refine xiald hx hb hE.1.1 (hP.arr 8 (by decide)) 0 rfl (k := r) rfl (show _ < 12 by omega) (by decide) dL_letsIn_29 ?_
        refine W.eq (g2 := F0 m 30 ls [.int (τ1 14 r), .int (nI (cntF (mIn τ1 (nI r)) 0 nT))]) (congrArg (fun z => F0 m 30 ls [.int z, .int (nI (cntF (mIn τ1 (nI r)) 0 nT))]) (lr_k hR1 hr9)) ?_
        refine lv_icmp_ge (tgt := 67) hx hb dL_letsIn_30 (by decide) (fun c_30_2 => ?_) (fun c_30_2 => ?_)
        · rw [mLet_end (fun z => Int32.not_le.mpr z.2 c_30_2)] at hT
          exact kvret hx hb hr hlocks hS (by decide) (by decide) dL_letsIn_67 (⟨rfl, _, by rw [← hT]; exact hR1, hP⟩)
        · have hlt : nI (cntF (mIn τ1 (nI r)) 0 nT) < τ1 14 r := Int32.not_le.mp c_30_2
          refine lv_aload_n hx hb dL_letsIn_33 rfl (lv_at hl 2 rfl) ?_
          refine lv_aload_n hx hb dL_letsIn_34 rfl (lv_at hl 4 rfl) ?_
          refine lv_aload_n hx hb dL_letsIn_35 rfl (lv_at hl 5 rfl) ?_
          refine lv_aload hx hb dL_letsIn_36 (lv_at hl 8 rfl) ?_
          refine lv_aload hx hb dL_letsIn_38 (lv_at hl 9 rfl) ?_
          refine lv_aload hx hb dL_letsIn_40 (lv_at hl 10 rfl) ?_
          refine lv_aload hx hb dL_letsIn_42 (lv_at hl 11 rfl) ?_
          refine lv_iload hx hb dL_letsIn_44 (lv_at hl 0 rfl) ?_
          refine W.eq (g2 := F0 m 46 ls [.int (nI u), .ref (al 13), .ref (al 12), .ref (al 10), .ref (al 9), .ref (al 6), .ref (al 5), .ref (al 0)]) (congrArg (fun z => F0 m 46 ls [.int z, .ref (al 13), .ref (al 12), .ref (al 10), .ref (al 9), .ref (al 6), .ref (al 5), .ref (al 0)]) (eq)) ?_
          refine lv_iload hx hb dL_letsIn_46 (lv_at hl 1 rfl) ?_
          refine kcallS (n := 9) F (kL_sees l G A al μ1 τ1 nT nW hR1 u r hu hr9) wML_L_20 wST_L_sees wIN_L wCO_L_sees (by decide) rfl ⟨by decide, by decide⟩ hS (fun _ h => h) (fun q h => hA q (Nat.le_trans hS.1 h)) hP rfl hl.1 (Nat.le_of_ble_eq_true rfl) dL_letsIn_48 ⟨by decide, by decide⟩ (fun E ce q9 H1 locs1 hx9 _ _ _ _ _ => hx9.elim) (fun v H1 locs1 hv hk hS => ?_)
          obtain ⟨rfl, μ_3, hR_4, hP⟩ := hv
          refine lv_aload_n hx hb dL_letsIn_51 rfl (lv_at hl 2 rfl) ?_
          refine lv_aload_n hx hb dL_letsIn_52 rfl (lv_at hl 3 rfl) ?_
          refine lv_aload_n hx hb dL_letsIn_53 rfl (lv_at hl 5 rfl) ?_
          refine lv_aload hx hb dL_letsIn_54 (lv_at hl 6 rfl) ?_
          refine lv_iload hx hb dL_letsIn_56 (lv_at hl 1 rfl) ?_
          refine lv_iconst (v := (-1)) hx hb dL_letsIn_58 (by decide) ?_
          refine kcallS (n := 6) F (kL_queued l G (fun q => H1.size ≤ q) A al μ_3 (mSee nW u r τ1) nT nW hR_4 r hr9 (-1)) wML_L_10 wST_L_queued wIN_L wCO_L_queued (by decide) rfl ⟨by decide, by decide⟩ hS (fun q h => hA q (Nat.le_trans hS.1 h)) (fun q h => h) hP rfl hl.1 (Nat.le_of_ble_eq_true rfl) dL_letsIn_59 ⟨by decide, by decide⟩ (fun E ce q9 H1 locs1 hx9 _ _ _ _ _ => hx9.elim) (fun v H1 locs1 hv hk hS => ?_)
          have hP := hP.old hk
          subst hv
          refine W.eq (g2 := F0 m 62 ls [.int (mQ (mSee nW u r τ1) nT r 0)]) (congrArg (fun z => F0 m 62 ls [.int z]) (lQue_0 (lr_QB hR_4) (by omega))) ?_
          refine lv_istore (lv' := [(11, .int (mQ (mSee nW u r τ1) nT r 0)), (10, .int (nI r)), (0, .ref (al 0)), (1, .ref (al 3)), (2, .ref (al 5)), (3, .ref (al 6)), (4, .ref (al 7)), (5, .ref (al 8)), (6, .ref (al 9)), (7, .ref (al 10)), (8, .ref (al 12)), (9, .ref (al 13))]) hx hb dL_letsIn_62 hl (by decide) rfl (fun ls hl => ?_)
          refine lv_goto (tgt := 13) hx hb dL_letsIn_64 (by decide) ?_
          exact ih13 _ (mSee nW u r τ1) (k9 - 1) (by have := mQn_see (nW := nW) hr9 hu e10; omega) (by have := mQn_see (nW := nW) hr9 hu e10; omega) hR_4 (by have h8 := mQn_see (nW := nW) hr9 hu e10; rw [← hT]; obtain ⟨k8, hk8⟩ : ∃ k8, k9 = k8 + 1 := ⟨k9 - 1, by omega⟩; rw [hk8, mLet_go ⟨(fun z => c_15_1 (by rw [z]; decide)), hlt⟩ eq (by omega)]; rfl) _ _ _ hS hP (lv_sub hl [0, 1, 2, 3, 4, 5, 6, 7, 8, 9, 10, 11] rfl)
  exact L13 (nT + 1) μ τ nT (by have := cntF_le (fun t => decide (τ 10 t = 100 + nI r)) nT 0; exact this) (by omega) hR rfl _ _ _ hS hP (lv_sub hl [0, 11, 1, 2, 3, 4, 5, 6, 7, 8, 9, 10] rfl)

