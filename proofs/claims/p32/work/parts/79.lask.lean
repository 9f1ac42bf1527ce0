set_option maxHeartbeats 4000000 in
set_option maxRecDepth 100000 in
theorem kL_isNow (l : Launch) (G : GE) (A1 A : Nat → Prop) (al : Nat → Nat) (μ τ : SG) (nT nW : Nat) (hR : LR μ τ nT nW) (i : Nat) (hi : i < nT) : KM l G A1 yL_isNow cL_isNow 4 (some .boolean) (rmL 1 0 0) [.ref (al 0), .ref (al 3), .ref (al 4), .int (nI i)] (PL G A al μ 14) (fun v _ => v = some (.int (b2i (mNow τ i)))) (fun _ _ => False) := by
  refine KM.of (by decide) (Nat.le_of_ble_eq_true rfl) ?_
  intro p e s m args below meth c F hP ls hl
  have hx := F.1.1
  have hb := F.1.2.1
  have hown := F.1.2.2.2.1
  have hts := F.1.2.2.2.2
  have hr := F.2.1
  have hlocks := F.2.2.1
  have hE := F.2.2.2.2.2.1
  have hA := F.2.2.2.2.2.2
  have hS : va_S A1 s.heap s.heap [] := va_S.rf
  have hl : lv_has ls 4 [(0, .ref (al 0)), (1, .ref (al 3)), (2, .ref (al 4)), (3, .int (nI i))] := hl
  have hP := hP
  obtain ⟨h60, h10⟩ := lr_n60 hR
  refine lv_aload_n hx hb dL_isNow_0 rfl (lv_at hl 1 rfl) ?_
  refine lv_iload_n hx hb dL_isNow_1 rfl (lv_at hl 3 rfl) ?_
  refine xiald hx hb hE.1.1 (hP.arr 3 (by decide)) 0 rfl (k := i) rfl (show _ < 60 by omega) (by decide) dL_isNow_2 ?_
  refine lv_sipush (v := 128) hx hb dL_isNow_3 (by decide) ?_
  refine lv_idiv hx hb dL_isNow_6 (by decide) ?_
  refine W.eq (g2 := F0 m 7 ls [.int (τ 7 i)]) (congrArg (fun z => F0 m 7 ls [.int z]) (lr_day hR hi)) ?_
  refine lv_aload_n hx hb dL_isNow_7 rfl (lv_at hl 0 rfl) ?_
  refine lv_iconst (v := 2) hx hb dL_isNow_8 (by decide) ?_
  refine xiald hx hb hE.1.1 (hP.arr 0 (by decide)) 0 rfl (k := 2) rfl (show _ < 7 by omega) (by decide) dL_isNow_9 ?_
  refine W.eq (g2 := F0 m 10 ls [.int (τ 26 0), .int (τ 7 i)]) (congrArg (fun z => F0 m 10 ls [.int z, .int (τ 7 i)]) (lr_n2 hR)) ?_
  refine lv_icmp_ne (tgt := 23) hx hb dL_isNow_10 (by decide) (fun c_10_1 => ?_) (fun c_10_1 => ?_)
  · refine lv_iconst (v := 0) hx hb dL_isNow_23 (by decide) ?_
    exact kzret hx hb hr hlocks hS (by decide) (by decide) (Or.inl rfl) dL_isNow_24 (by rw [Bool.eq_false_iff.mpr (fun z => c_10_1 ((lr_now hR hi).mp z).1)]; rfl)
  · refine lv_aload_n hx hb dL_isNow_13 rfl (lv_at hl 2 rfl) ?_
    refine lv_iload_n hx hb dL_isNow_14 rfl (lv_at hl 3 rfl) ?_
    refine xiald hx hb hE.1.1 (hP.arr 4 (by decide)) 0 rfl (k := i) rfl (show _ < 60 by omega) (by decide) dL_isNow_15 ?_
    refine lv_if_lt (tgt := 23) hx hb dL_isNow_16 (by decide) (fun c_16_2 => ?_) (fun c_16_2 => ?_)
    · refine lv_iconst (v := 0) hx hb dL_isNow_23 (by decide) ?_
      exact kzret hx hb hr hlocks hS (by decide) (by decide) (Or.inl rfl) dL_isNow_24 (by rw [Bool.eq_false_iff.mpr (fun z => ((lr_now hR hi).mp z).2 c_16_2)]; rfl)
    · refine lv_iconst (v := 1) hx hb dL_isNow_19 (by decide) ?_
      refine lv_goto (tgt := 24) hx hb dL_isNow_20 (by decide) ?_
      exact kzret hx hb hr hlocks hS (by decide) (by decide) (Or.inr rfl) dL_isNow_24 (by rw [(lr_now hR hi).mpr ⟨c_10_1, c_16_2⟩]; rfl)

set_option maxHeartbeats 4000000 in
set_option maxRecDepth 100000 in
theorem kL_inside (l : Launch) (G : GE) (A1 A : Nat → Prop) (al : Nat → Nat) (μ τ : SG) (nT nW : Nat) (hR : LR μ τ nT nW) (r : Nat) (hr9 : r < 12) : KM l G A1 yL_inside cL_inside 5 (some .int) (rmL 1 0 0) [.ref (al 0), .ref (al 6), .int (nI r)] (PL G A al μ 14) (fun v _ => v = some (.int (nI (cntF (mIn τ (nI r)) 0 nT)))) (fun _ _ => False) := by
  refine KM.of (by decide) (Nat.le_of_ble_eq_true rfl) ?_
  intro p e s m args below meth c F hP ls hl
  have hx := F.1.1
  have hb := F.1.2.1
  have hown := F.1.2.2.2.1
  have hts := F.1.2.2.2.2
  have hr := F.2.1
  have hlocks := F.2.2.1
  have hE := F.2.2.2.2.2.1
  have hA := F.2.2.2.2.2.2
  have hS : va_S A1 s.heap s.heap [] := va_S.rf
  have hl : lv_has ls 5 [(0, .ref (al 0)), (1, .ref (al 6)), (2, .int (nI r))] := hl
  have hP := hP
  obtain ⟨h60, h10⟩ := lr_n60 hR
  refine lv_iconst (v := 0) hx hb dL_inside_0 (by decide) ?_
  refine lv_istore_n (lv' := [(3, .int 0), (0, .ref (al 0)), (1, .ref (al 6)), (2, .int (nI r))]) hx hb dL_inside_1 rfl hl (by decide) rfl (fun ls hl => ?_)
  refine lv_iconst (v := 0) hx hb dL_inside_2 (by decide) ?_
  refine lv_istore (lv' := [(4, .int 0), (3, .int 0), (0, .ref (al 0)), (1, .ref (al 6)), (2, .int (nI r))]) hx hb dL_inside_3 hl (by decide) rfl (fun ls hl => ?_)
  have L5 : ∀ (n9 : Nat) (x1 : Int32) (i : Nat) (h1 : i ≤ nT) (h2 : nT < i + n9) (hT : itr (cI (mIn τ (nI r))) i (nT - i) x1 = itr (cI (mIn τ (nI r))) 0 (nT - 0) 0) (H : Heap) (locs : List Loc) (ls : Array Slot), va_S A1 s.heap H locs → PL G A al μ 14 H → lv_has ls 5 [(4, .int (nI i)), (3, .int x1), (0, .ref (al 0)), (1, .ref (al 6)), (2, .int (nI r))] → W p l e (rmL 1 0 0) s m args below meth c H locs 0 0 (KE below A1 (fun v _ => v = some (.int (nI (cntF (mIn τ (nI r)) 0 nT)))) (fun _ _ => False) args s (rmL 1 0 0)) (F0 m 5 ls []) := by
    intro n9
    induction n9 with
    | zero =>
      intro x1 i h1 h2 hT H locs ls hS hP hl
      exact absurd True.intro (by omega)
    | succ n9 ih5 =>
      intro x1 i h1 h2 hT H locs ls hS hP hl
      refine lv_iload hx hb dL_inside_5 (lv_at hl 0 rfl) ?_
      refine lv_aload_n hx hb dL_inside_7 rfl (lv_at hl 2 rfl) ?_
      refine lv_iconst (v := 0) hx hb dL_inside_8 (by decide) ?_
      refine xiald hx hb hE.1.1 (hP.arr 0 (by decide)) 0 rfl (k := 0) rfl (show _ < 7 by omega) (by decide) dL_inside_9 ?_
      refine W.eq (g2 := F0 m 10 ls [.int (nI nT), .int (nI i)]) (congrArg (fun z => F0 m 10 ls [.int z, .int (nI i)]) (lr_n0 hR)) ?_
      refine lv_icmp_ge (tgt := 37) hx hb dL_inside_10 (by decide) (fun c_10_1 => ?_) (fun c_10_1 => ?_)
      · have ei := nI_eqle h1 (by omega) c_10_1
        rw [ei] at hT
        refine lv_iload_n hx hb dL_inside_37 rfl (lv_at hl 1 rfl) ?_
        exact kiret hx hb hr hlocks hS (by decide) (by decide) dL_inside_38 (by rw [cnt_of hT])
      · have hi := nI_lt' h1 (by omega) c_10_1
        refine lv_iload_n hx hb dL_inside_13 rfl (lv_at hl 1 rfl) ?_
        refine lv_aload_n hx hb dL_inside_14 rfl (lv_at hl 3 rfl) ?_
        refine lv_iload hx hb dL_inside_15 (lv_at hl 0 rfl) ?_
        refine xiald hx hb hE.1.1 (hP.arr 6 (by decide)) 0 rfl (k := i) rfl (show _ < 60 by omega) (by decide) dL_inside_17 ?_
        refine lv_iload_n hx hb dL_inside_18 rfl (lv_at hl 4 rfl) ?_
        refine lv_iconst (v := 1) hx hb dL_inside_19 (by decide) ?_
        refine lv_iadd hx hb dL_inside_20 ?_
        refine lv_icmp_ne (tgt := 28) hx hb dL_inside_21 (by decide) (fun c_21_2 => ?_) (fun c_21_2 => ?_)
        · refine lv_iconst (v := 0) hx hb dL_inside_28 (by decide) ?_
          refine lv_iadd hx hb dL_inside_29 ?_
          refine lv_istore_n (lv' := [(3, .int (x1 + 0)), (4, .int (nI i)), (0, .ref (al 0)), (1, .ref (al 6)), (2, .int (nI r))]) hx hb dL_inside_30 rfl hl (by decide) rfl (fun ls hl => ?_)
          refine lv_iinc (v := (nI (i + 1))) (lv' := [(4, .int (nI (i + 1))), (3, .int (x1 + 0)), (0, .ref (al 0)), (1, .ref (al 6)), (2, .int (nI r))]) hx hb dL_inside_31 hl (k := 1) rfl (nI_1 _) (by decide) rfl (fun ls hl => ?_)
          refine lv_goto (tgt := 5) hx hb dL_inside_34 (by decide) ?_
          exact ih5 (x1 + 0) (i + 1) (by omega) (by omega) (by rw [itr_step hi, show cI (mIn τ (nI r)) i x1 = x1 + 0 from if_neg (by simp only [mIn, decide_eq_true_eq]; exact fun z => c_21_2 ((pw_in (lr_pl hR hi) hr9).mpr z))] at hT; exact hT) _ _ _ hS hP (lv_sub hl [0, 1, 2, 3, 4] rfl)
        · refine lv_iconst (v := 1) hx hb dL_inside_24 (by decide) ?_
          refine lv_goto (tgt := 29) hx hb dL_inside_25 (by decide) ?_
          refine lv_iadd hx hb dL_inside_29 ?_
          refine lv_istore_n (lv' := [(3, .int (x1 + 1)), (4, .int (nI i)), (0, .ref (al 0)), (1, .ref (al 6)), (2, .int (nI r))]) hx hb dL_inside_30 rfl hl (by decide) rfl (fun ls hl => ?_)
          refine lv_iinc (v := (nI (i + 1))) (lv' := [(4, .int (nI (i + 1))), (3, .int (x1 + 1)), (0, .ref (al 0)), (1, .ref (al 6)), (2, .int (nI r))]) hx hb dL_inside_31 hl (k := 1) rfl (nI_1 _) (by decide) rfl (fun ls hl => ?_)
          refine lv_goto (tgt := 5) hx hb dL_inside_34 (by decide) ?_
          exact ih5 (x1 + 1) (i + 1) (by omega) (by omega) (by rw [itr_step hi, show cI (mIn τ (nI r)) i x1 = x1 + 1 from if_pos (by simp [mIn, (pw_in (lr_pl hR hi) hr9).mp c_21_2])] at hT; exact hT) _ _ _ hS hP (lv_sub hl [0, 1, 2, 3, 4] rfl)
  exact L5 (nT + 1) 0 0 (by omega) (by omega) rfl _ _ _ hS hP (lv_sub hl [0, 1, 2, 3, 4] rfl)

set_option maxHeartbeats 4000000 in
set_option maxRecDepth 100000 in
theorem kL_queued (l : Launch) (G : GE) (A1 A : Nat → Prop) (al : Nat → Nat) (μ τ : SG) (nT nW : Nat) (hR : LR μ τ nT nW) (r : Nat) (hr9 : r < 12) (bh : Int32) : KM l G A1 yL_queued cL_queued 11 (some .int) (rmL 1 0 0) [.ref (al 0), .ref (al 3), .ref (al 6), .ref (al 7), .int (nI r), .int bh] (PL G A al μ 14) (fun v _ => v = some (.int (lQue τ nT r bh))) (fun _ _ => False) := by
  refine KM.of (by decide) (Nat.le_of_ble_eq_true rfl) ?_
  intro p e s m args below meth c F hP ls hl
  have hx := F.1.1
  have hb := F.1.2.1
  have hown := F.1.2.2.2.1
  have hts := F.1.2.2.2.2
  have hr := F.2.1
  have hlocks := F.2.2.1
  have hE := F.2.2.2.2.2.1
  have hA := F.2.2.2.2.2.2
  have hS : va_S A1 s.heap s.heap [] := va_S.rf
  have hl : lv_has ls 11 [(0, .ref (al 0)), (1, .ref (al 3)), (2, .ref (al 6)), (3, .ref (al 7)), (4, .int (nI r)), (5, .int bh)] := hl
  have hP := hP
  obtain ⟨h60, h10⟩ := lr_n60 hR
  refine lv_iconst (v := (-1)) hx hb dL_queued_0 (by decide) ?_
  refine lv_istore (lv' := [(6, .int (-1)), (0, .ref (al 0)), (1, .ref (al 3)), (2, .ref (al 6)), (3, .ref (al 7)), (4, .int (nI r)), (5, .int bh)]) hx hb dL_queued_1 hl (by decide) rfl (fun ls hl => ?_)
  refine lv_ldc (v := 1000000) hx hb hown (hts _ wCN_L_7) dL_queued_3 ?_
  refine lv_istore (lv' := [(7, .int 1000000), (6, .int (-1)), (0, .ref (al 0)), (1, .ref (al 3)), (2, .ref (al 6)), (3, .ref (al 7)), (4, .int (nI r)), (5, .int bh)]) hx hb dL_queued_5 hl (by decide) rfl (fun ls hl => ?_)
  refine lv_iconst (v := 0) hx hb dL_queued_7 (by decide) ?_
  refine lv_istore (lv' := [(8, .int 0), (7, .int 1000000), (6, .int (-1)), (0, .ref (al 0)), (1, .ref (al 3)), (2, .ref (al 6)), (3, .ref (al 7)), (4, .int (nI r)), (5, .int bh)]) hx hb dL_queued_8 hl (by decide) rfl (fun ls hl => ?_)
  have L10 : ∀ (n9 : Nat) (f1 b1 : Int32) (i : Nat) (h1 : i ≤ nT) (h2 : nT < i + n9) (hT : itr (lQ1 τ r bh) i (nT - i) (f1, b1) = lQX τ r bh nT) (H : Heap) (locs : List Loc) (ls : Array Slot), va_S A1 s.heap H locs → PL G A al μ 14 H → lv_has ls 11 [(8, .int (nI i)), (6, .int f1), (7, .int b1), (0, .ref (al 0)), (1, .ref (al 3)), (2, .ref (al 6)), (3, .ref (al 7)), (4, .int (nI r)), (5, .int bh)] → W p l e (rmL 1 0 0) s m args below meth c H locs 0 0 (KE below A1 (fun v _ => v = some (.int (lQue τ nT r bh))) (fun _ _ => False) args s (rmL 1 0 0)) (F0 m 10 ls []) := by
    intro n9
    induction n9 with
    | zero =>
      intro f1 b1 i h1 h2 hT H locs ls hS hP hl
      exact absurd True.intro (by omega)
    | succ n9 ih10 =>
      intro f1 b1 i h1 h2 hT H locs ls hS hP hl
      refine lv_iload hx hb dL_queued_10 (lv_at hl 0 rfl) ?_
      refine lv_aload_n hx hb dL_queued_12 rfl (lv_at hl 3 rfl) ?_
      refine lv_iconst (v := 0) hx hb dL_queued_13 (by decide) ?_
      refine xiald hx hb hE.1.1 (hP.arr 0 (by decide)) 0 rfl (k := 0) rfl (show _ < 7 by omega) (by decide) dL_queued_14 ?_
      refine W.eq (g2 := F0 m 15 ls [.int (nI nT), .int (nI i)]) (congrArg (fun z => F0 m 15 ls [.int z, .int (nI i)]) (lr_n0 hR)) ?_
      refine lv_icmp_ge (tgt := 108) hx hb dL_queued_15 (by decide) (fun c_15_1 => ?_) (fun c_15_1 => ?_)
      · have ei := nI_eqle h1 (by omega) c_15_1
        rw [ei, itr_end] at hT
        refine lv_iload hx hb dL_queued_108 (lv_at hl 1 rfl) ?_
        exact kiret hx hb hr hlocks hS (by decide) (by decide) dL_queued_110 (by unfold lQue; rw [← hT])
      · have hi := nI_lt' h1 (by omega) c_15_1
        refine lv_aload_n hx hb dL_queued_18 rfl (lv_at hl 4 rfl) ?_
        refine lv_iload hx hb dL_queued_19 (lv_at hl 0 rfl) ?_
        refine xiald hx hb hE.1.1 (hP.arr 3 (by decide)) 0 rfl (k := i) rfl (show _ < 60 by omega) (by decide) dL_queued_21 ?_
        refine lv_iconst (v := 4) hx hb dL_queued_22 (by decide) ?_
        refine lv_irem hx hb dL_queued_23 (by decide) ?_
        refine W.eq (g2 := F0 m 24 ls [.int (τ 4 i)]) (congrArg (fun z => F0 m 24 ls [.int z]) (lr_so hR hi)) ?_
        refine lv_iconst (v := 2) hx hb dL_queued_24 (by decide) ?_
        refine lv_icmp_ne (tgt := 32) hx hb dL_queued_25 (by decide) (fun c_25_2 => ?_) (fun c_25_2 => ?_)
        · refine lv_ldc (v := 100000) hx hb hown (hts _ wCN_L_8) dL_queued_32 ?_
          refine lv_aload_n hx hb dL_queued_34 rfl (lv_at hl 6 rfl) ?_
          refine lv_iload hx hb dL_queued_35 (lv_at hl 0 rfl) ?_
          refine xiald hx hb hE.1.1 (hP.arr 7 (by decide)) 0 rfl (k := i) rfl (show _ < 60 by omega) (by decide) dL_queued_37 ?_
          refine W.eq (g2 := F0 m 38 ls [.int (τ 11 i), .int 100000]) (congrArg (fun z => F0 m 38 ls [.int z, .int 100000]) (lr_q hR i)) ?_
          refine lv_iadd hx hb dL_queued_38 ?_
          refine W.eq (g2 := F0 m 39 ls [.int (rk τ i)]) (congrArg (fun z => F0 m 39 ls [.int z]) (show 100000 + τ 11 i = rk τ i from by unfold rk; rw [if_neg c_25_2])) ?_
          refine lv_istore (lv' := [(9, .int (rk τ i)), (8, .int (nI i)), (6, .int f1), (7, .int b1), (0, .ref (al 0)), (1, .ref (al 3)), (2, .ref (al 6)), (3, .ref (al 7)), (4, .int (nI r)), (5, .int bh)]) hx hb dL_queued_39 hl (by decide) rfl (fun ls hl => ?_)
          refine lv_aload_n hx hb dL_queued_41 rfl (lv_at hl 6 rfl) ?_
          refine lv_iload hx hb dL_queued_42 (lv_at hl 1 rfl) ?_
          refine xiald hx hb hE.1.1 (hP.arr 6 (by decide)) 0 rfl (k := i) rfl (show _ < 60 by omega) (by decide) dL_queued_44 ?_
          refine lv_iload hx hb dL_queued_45 (lv_at hl 8 rfl) ?_
          refine lv_bipush (v := 102) hx hb dL_queued_47 (by decide) ?_
          refine lv_iadd hx hb dL_queued_49 ?_
          refine lv_icmp_ne (tgt := 71) hx hb dL_queued_50 (by decide) (fun c_50_3 => ?_) (fun c_50_3 => ?_)
          · refine lv_iconst (v := 0) hx hb dL_queued_71 (by decide) ?_
            refine lv_istore (lv' := [(10, .int 0), (9, .int (rk τ i)), (8, .int (nI i)), (6, .int f1), (7, .int b1), (0, .ref (al 0)), (1, .ref (al 3)), (2, .ref (al 6)), (3, .ref (al 7)), (4, .int (nI r)), (5, .int bh)]) hx hb dL_queued_72 hl (by decide) rfl (fun ls hl => ?_)
            refine lv_iload hx hb dL_queued_74 (lv_at hl 0 rfl) ?_
            refine lv_if_eq (tgt := 84) hx hb dL_queued_76 (by decide) (fun c_76_4 => ?_) (fun c_76_4 => ?_)
            · refine lv_iload hx hb dL_queued_84 (lv_at hl 3 rfl) ?_
              refine lv_istore (lv' := [(6, .int f1), (10, .int 0), (9, .int (rk τ i)), (8, .int (nI i)), (7, .int b1), (0, .ref (al 0)), (1, .ref (al 3)), (2, .ref (al 6)), (3, .ref (al 7)), (4, .int (nI r)), (5, .int bh)]) hx hb dL_queued_86 hl (by decide) rfl (fun ls hl => ?_)
              refine lv_iload hx hb dL_queued_88 (lv_at hl 1 rfl) ?_
              refine lv_if_eq (tgt := 98) hx hb dL_queued_90 (by decide) (fun c_90_5 => ?_) (fun c_90_5 => ?_)
              · refine lv_iload hx hb dL_queued_98 (lv_at hl 4 rfl) ?_
                refine lv_istore (lv' := [(7, .int b1), (6, .int f1), (10, .int 0), (9, .int (rk τ i)), (8, .int (nI i)), (0, .ref (al 0)), (1, .ref (al 3)), (2, .ref (al 6)), (3, .ref (al 7)), (4, .int (nI r)), (5, .int bh)]) hx hb dL_queued_100 hl (by decide) rfl (fun ls hl => ?_)
                refine lv_iinc (v := (nI (i + 1))) (lv' := [(8, .int (nI (i + 1))), (7, .int b1), (6, .int f1), (10, .int 0), (9, .int (rk τ i)), (0, .ref (al 0)), (1, .ref (al 3)), (2, .ref (al 6)), (3, .ref (al 7)), (4, .int (nI r)), (5, .int bh)]) hx hb dL_queued_102 hl (k := 4) rfl (nI_1 _) (by decide) rfl (fun ls hl => ?_)
                refine lv_goto (tgt := 10) hx hb dL_queued_105 (by decide) ?_
                exact ih10 f1 b1 (i + 1) (by omega) (by omega) (by rw [itr_step hi, show lQ1 τ r bh i (f1, b1) = (f1, b1) from if_neg (fun z => c_50_3 ((pw_qu (lr_pl hR hi) hr9).mpr z.1))] at hT; exact hT) _ _ _ hS hP (lv_sub hl [0, 2, 1, 5, 6, 7, 8, 9, 10] rfl)
              · exact absurd c_90_5 (by decide)
            · exact absurd c_76_4 (by decide)
          · refine lv_iload hx hb dL_queued_53 (lv_at hl 0 rfl) ?_
            refine lv_iload hx hb dL_queued_55 (lv_at hl 9 rfl) ?_
            refine lv_icmp_le (tgt := 71) hx hb dL_queued_57 (by decide) (fun c_57_6 => ?_) (fun c_57_6 => ?_)
            · refine lv_iconst (v := 0) hx hb dL_queued_71 (by decide) ?_
              refine lv_istore (lv' := [(10, .int 0), (9, .int (rk τ i)), (8, .int (nI i)), (6, .int f1), (7, .int b1), (0, .ref (al 0)), (1, .ref (al 3)), (2, .ref (al 6)), (3, .ref (al 7)), (4, .int (nI r)), (5, .int bh)]) hx hb dL_queued_72 hl (by decide) rfl (fun ls hl => ?_)
              refine lv_iload hx hb dL_queued_74 (lv_at hl 0 rfl) ?_
              refine lv_if_eq (tgt := 84) hx hb dL_queued_76 (by decide) (fun c_76_7 => ?_) (fun c_76_7 => ?_)
              · refine lv_iload hx hb dL_queued_84 (lv_at hl 3 rfl) ?_
                refine lv_istore (lv' := [(6, .int f1), (10, .int 0), (9, .int (rk τ i)), (8, .int (nI i)), (7, .int b1), (0, .ref (al 0)), (1, .ref (al 3)), (2, .ref (al 6)), (3, .ref (al 7)), (4, .int (nI r)), (5, .int bh)]) hx hb dL_queued_86 hl (by decide) rfl (fun ls hl => ?_)
                refine lv_iload hx hb dL_queued_88 (lv_at hl 1 rfl) ?_
                refine lv_if_eq (tgt := 98) hx hb dL_queued_90 (by decide) (fun c_90_8 => ?_) (fun c_90_8 => ?_)
                · refine lv_iload hx hb dL_queued_98 (lv_at hl 4 rfl) ?_
                  refine lv_istore (lv' := [(7, .int b1), (6, .int f1), (10, .int 0), (9, .int (rk τ i)), (8, .int (nI i)), (0, .ref (al 0)), (1, .ref (al 3)), (2, .ref (al 6)), (3, .ref (al 7)), (4, .int (nI r)), (5, .int bh)]) hx hb dL_queued_100 hl (by decide) rfl (fun ls hl => ?_)
                  refine lv_iinc (v := (nI (i + 1))) (lv' := [(8, .int (nI (i + 1))), (7, .int b1), (6, .int f1), (10, .int 0), (9, .int (rk τ i)), (0, .ref (al 0)), (1, .ref (al 3)), (2, .ref (al 6)), (3, .ref (al 7)), (4, .int (nI r)), (5, .int bh)]) hx hb dL_queued_102 hl (k := 4) rfl (nI_1 _) (by decide) rfl (fun ls hl => ?_)
                  refine lv_goto (tgt := 10) hx hb dL_queued_105 (by decide) ?_
                  exact ih10 f1 b1 (i + 1) (by omega) (by omega) (by rw [itr_step hi, show lQ1 τ r bh i (f1, b1) = (f1, b1) from if_neg (fun z => Int32.not_le.mpr z.2.1 c_57_6)] at hT; exact hT) _ _ _ hS hP (lv_sub hl [0, 2, 1, 5, 6, 7, 8, 9, 10] rfl)
                · exact absurd c_90_8 (by decide)
              · exact absurd c_76_7 (by decide)
            · refine lv_iload hx hb dL_queued_60 (lv_at hl 0 rfl) ?_
              refine lv_iload hx hb dL_queued_62 (lv_at hl 3 rfl) ?_
              refine lv_icmp_ge (tgt := 71) hx hb dL_queued_64 (by decide) (fun c_64_9 => ?_) (fun c_64_9 => ?_)
              · refine lv_iconst (v := 0) hx hb dL_queued_71 (by decide) ?_
                refine lv_istore (lv' := [(10, .int 0), (9, .int (rk τ i)), (8, .int (nI i)), (6, .int f1), (7, .int b1), (0, .ref (al 0)), (1, .ref (al 3)), (2, .ref (al 6)), (3, .ref (al 7)), (4, .int (nI r)), (5, .int bh)]) hx hb dL_queued_72 hl (by decide) rfl (fun ls hl => ?_)
                refine lv_iload hx hb dL_queued_74 (lv_at hl 0 rfl) ?_
                refine lv_if_eq (tgt := 84) hx hb dL_queued_76 (by decide) (fun c_76_10 => ?_) (fun c_76_10 => ?_)
                · refine lv_iload hx hb dL_queued_84 (lv_at hl 3 rfl) ?_
                  refine lv_istore (lv' := [(6, .int f1), (10, .int 0), (9, .int (rk τ i)), (8, .int (nI i)), (7, .int b1), (0, .ref (al 0)), (1, .ref (al 3)), (2, .ref (al 6)), (3, .ref (al 7)), (4, .int (nI r)), (5, .int bh)]) hx hb dL_queued_86 hl (by decide) rfl (fun ls hl => ?_)
                  refine lv_iload hx hb dL_queued_88 (lv_at hl 1 rfl) ?_
                  refine lv_if_eq (tgt := 98) hx hb dL_queued_90 (by decide) (fun c_90_11 => ?_) (fun c_90_11 => ?_)
                  · refine lv_iload hx hb dL_queued_98 (lv_at hl 4 rfl) ?_
                    refine lv_istore (lv' := [(7, .int b1), (6, .int f1), (10, .int 0), (9, .int (rk τ i)), (8, .int (nI i)), (0, .ref (al 0)), (1, .ref (al 3)), (2, .ref (al 6)), (3, .ref (al 7)), (4, .int (nI r)), (5, .int bh)]) hx hb dL_queued_100 hl (by decide) rfl (fun ls hl => ?_)
                    refine lv_iinc (v := (nI (i + 1))) (lv' := [(8, .int (nI (i + 1))), (7, .int b1), (6, .int f1), (10, .int 0), (9, .int (rk τ i)), (0, .ref (al 0)), (1, .ref (al 3)), (2, .ref (al 6)), (3, .ref (al 7)), (4, .int (nI r)), (5, .int bh)]) hx hb dL_queued_102 hl (k := 4) rfl (nI_1 _) (by decide) rfl (fun ls hl => ?_)
                    refine lv_goto (tgt := 10) hx hb dL_queued_105 (by decide) ?_
                    exact ih10 f1 b1 (i + 1) (by omega) (by omega) (by rw [itr_step hi, show lQ1 τ r bh i (f1, b1) = (f1, b1) from if_neg (fun z => Int32.not_le.mpr z.2.2 c_64_9)] at hT; exact hT) _ _ _ hS hP (lv_sub hl [0, 2, 1, 5, 6, 7, 8, 9, 10] rfl)
                  · exact absurd c_90_11 (by decide)
                · exact absurd c_76_10 (by decide)
              · refine lv_iconst (v := 1) hx hb dL_queued_67 (by decide) ?_
                refine lv_goto (tgt := 72) hx hb dL_queued_68 (by decide) ?_
                refine lv_istore (lv' := [(10, .int 1), (9, .int (rk τ i)), (8, .int (nI i)), (6, .int f1), (7, .int b1), (0, .ref (al 0)), (1, .ref (al 3)), (2, .ref (al 6)), (3, .ref (al 7)), (4, .int (nI r)), (5, .int bh)]) hx hb dL_queued_72 hl (by decide) rfl (fun ls hl => ?_)
                refine lv_iload hx hb dL_queued_74 (lv_at hl 0 rfl) ?_
                refine lv_if_eq (tgt := 84) hx hb dL_queued_76 (by decide) (fun c_76_12 => ?_) (fun c_76_12 => ?_)
                · exact absurd c_76_12 (by decide)
                · refine lv_iload hx hb dL_queued_79 (lv_at hl 2 rfl) ?_
                  refine lv_goto (tgt := 86) hx hb dL_queued_81 (by decide) ?_
                  refine lv_istore (lv' := [(6, .int (nI i)), (10, .int 1), (9, .int (rk τ i)), (8, .int (nI i)), (7, .int b1), (0, .ref (al 0)), (1, .ref (al 3)), (2, .ref (al 6)), (3, .ref (al 7)), (4, .int (nI r)), (5, .int bh)]) hx hb dL_queued_86 hl (by decide) rfl (fun ls hl => ?_)
                  refine lv_iload hx hb dL_queued_88 (lv_at hl 1 rfl) ?_
                  refine lv_if_eq (tgt := 98) hx hb dL_queued_90 (by decide) (fun c_90_13 => ?_) (fun c_90_13 => ?_)
                  · exact absurd c_90_13 (by decide)
                  · refine lv_iload hx hb dL_queued_93 (lv_at hl 2 rfl) ?_
                    refine lv_goto (tgt := 100) hx hb dL_queued_95 (by decide) ?_
                    refine lv_istore (lv' := [(7, .int (rk τ i)), (6, .int (nI i)), (10, .int 1), (9, .int (rk τ i)), (8, .int (nI i)), (0, .ref (al 0)), (1, .ref (al 3)), (2, .ref (al 6)), (3, .ref (al 7)), (4, .int (nI r)), (5, .int bh)]) hx hb dL_queued_100 hl (by decide) rfl (fun ls hl => ?_)
                    refine lv_iinc (v := (nI (i + 1))) (lv' := [(8, .int (nI (i + 1))), (7, .int (rk τ i)), (6, .int (nI i)), (10, .int 1), (9, .int (rk τ i)), (0, .ref (al 0)), (1, .ref (al 3)), (2, .ref (al 6)), (3, .ref (al 7)), (4, .int (nI r)), (5, .int bh)]) hx hb dL_queued_102 hl (k := 4) rfl (nI_1 _) (by decide) rfl (fun ls hl => ?_)
                    refine lv_goto (tgt := 10) hx hb dL_queued_105 (by decide) ?_
                    exact ih10 (nI i) (rk τ i) (i + 1) (by omega) (by omega) (by rw [itr_step hi, show lQ1 τ r bh i (f1, b1) = (nI i, rk τ i) from if_pos ⟨(pw_qu (lr_pl hR hi) hr9).mp c_50_3, Int32.not_le.mp c_57_6, Int32.not_le.mp c_64_9⟩] at hT; exact hT) _ _ _ hS hP (lv_sub hl [0, 2, 1, 5, 6, 7, 8, 9, 10] rfl)
        · refine lv_iconst (v := 0) hx hb dL_queued_28 (by decide) ?_
          refine lv_goto (tgt := 34) hx hb dL_queued_29 (by decide) ?_
          refine lv_aload_n hx hb dL_queued_34 rfl (lv_at hl 6 rfl) ?_
          refine lv_iload hx hb dL_queued_35 (lv_at hl 0 rfl) ?_
          refine xiald hx hb hE.1.1 (hP.arr 7 (by decide)) 0 rfl (k := i) rfl (show _ < 60 by omega) (by decide) dL_queued_37 ?_
          refine W.eq (g2 := F0 m 38 ls [.int (τ 11 i), .int 0]) (congrArg (fun z => F0 m 38 ls [.int z, .int 0]) (lr_q hR i)) ?_
          refine lv_iadd hx hb dL_queued_38 ?_
          refine W.eq (g2 := F0 m 39 ls [.int (rk τ i)]) (congrArg (fun z => F0 m 39 ls [.int z]) (show 0 + τ 11 i = rk τ i from by unfold rk; rw [if_pos c_25_2])) ?_
          refine lv_istore (lv' := [(9, .int (rk τ i)), (8, .int (nI i)), (6, .int f1), (7, .int b1), (0, .ref (al 0)), (1, .ref (al 3)), (2, .ref (al 6)), (3, .ref (al 7)), (4, .int (nI r)), (5, .int bh)]) hx hb dL_queued_39 hl (by decide) rfl (fun ls hl => ?_)
          refine lv_aload_n hx hb dL_queued_41 rfl (lv_at hl 6 rfl) ?_
          refine lv_iload hx hb dL_queued_42 (lv_at hl 1 rfl) ?_
          refine xiald hx hb hE.1.1 (hP.arr 6 (by decide)) 0 rfl (k := i) rfl (show _ < 60 by omega) (by decide) dL_queued_44 ?_
          refine lv_iload hx hb dL_queued_45 (lv_at hl 8 rfl) ?_
          refine lv_bipush (v := 102) hx hb dL_queued_47 (by decide) ?_
          refine lv_iadd hx hb dL_queued_49 ?_
          refine lv_icmp_ne (tgt := 71) hx hb dL_queued_50 (by decide) (fun c_50_14 => ?_) (fun c_50_14 => ?_)
          · refine lv_iconst (v := 0) hx hb dL_queued_71 (by decide) ?_
            refine lv_istore (lv' := [(10, .int 0), (9, .int (rk τ i)), (8, .int (nI i)), (6, .int f1), (7, .int b1), (0, .ref (al 0)), (1, .ref (al 3)), (2, .ref (al 6)), (3, .ref (al 7)), (4, .int (nI r)), (5, .int bh)]) hx hb dL_queued_72 hl (by decide) rfl (fun ls hl => ?_)
            refine lv_iload hx hb dL_queued_74 (lv_at hl 0 rfl) ?_
            refine lv_if_eq (tgt := 84) hx hb dL_queued_76 (by decide) (fun c_76_15 => ?_) (fun c_76_15 => ?_)
            · refine lv_iload hx hb dL_queued_84 (lv_at hl 3 rfl) ?_
              refine lv_istore (lv' := [(6, .int f1), (10, .int 0), (9, .int (rk τ i)), (8, .int (nI i)), (7, .int b1), (0, .ref (al 0)), (1, .ref (al 3)), (2, .ref (al 6)), (3, .ref (al 7)), (4, .int (nI r)), (5, .int bh)]) hx hb dL_queued_86 hl (by decide) rfl (fun ls hl => ?_)
              refine lv_iload hx hb dL_queued_88 (lv_at hl 1 rfl) ?_
              refine lv_if_eq (tgt := 98) hx hb dL_queued_90 (by decide) (fun c_90_16 => ?_) (fun c_90_16 => ?_)
              · refine lv_iload hx hb dL_queued_98 (lv_at hl 4 rfl) ?_
                refine lv_istore (lv' := [(7, .int b1), (6, .int f1), (10, .int 0), (9, .int (rk τ i)), (8, .int (nI i)), (0, .ref (al 0)), (1, .ref (al 3)), (2, .ref (al 6)), (3, .ref (al 7)), (4, .int (nI r)), (5, .int bh)]) hx hb dL_queued_100 hl (by decide) rfl (fun ls hl => ?_)
                refine lv_iinc (v := (nI (i + 1))) (lv' := [(8, .int (nI (i + 1))), (7, .int b1), (6, .int f1), (10, .int 0), (9, .int (rk τ i)), (0, .ref (al 0)), (1, .ref (al 3)), (2, .ref (al 6)), (3, .ref (al 7)), (4, .int (nI r)), (5, .int bh)]) hx hb dL_queued_102 hl (k := 4) rfl (nI_1 _) (by decide) rfl (fun ls hl => ?_)
                refine lv_goto (tgt := 10) hx hb dL_queued_105 (by decide) ?_
                exact ih10 f1 b1 (i + 1) (by omega) (by omega) (by rw [itr_step hi, show lQ1 τ r bh i (f1, b1) = (f1, b1) from if_neg (fun z => c_50_14 ((pw_qu (lr_pl hR hi) hr9).mpr z.1))] at hT; exact hT) _ _ _ hS hP (lv_sub hl [0, 2, 1, 5, 6, 7, 8, 9, 10] rfl)
              · exact absurd c_90_16 (by decide)
            · exact absurd c_76_15 (by decide)
          · refine lv_iload hx hb dL_queued_53 (lv_at hl 0 rfl) ?_
            refine lv_iload hx hb dL_queued_55 (lv_at hl 9 rfl) ?_
            refine lv_icmp_le (tgt := 71) hx hb dL_queued_57 (by decide) (fun c_57_17 => ?_) (fun c_57_17 => ?_)
            · refine lv_iconst (v := 0) hx hb dL_queued_71 (by decide) ?_
              refine lv_istore (lv' := [(10, .int 0), (9, .int (rk τ i)), (8, .int (nI i)), (6, .int f1), (7, .int b1), (0, .ref (al 0)), (1, .ref (al 3)), (2, .ref (al 6)), (3, .ref (al 7)), (4, .int (nI r)), (5, .int bh)]) hx hb dL_queued_72 hl (by decide) rfl (fun ls hl => ?_)
              refine lv_iload hx hb dL_queued_74 (lv_at hl 0 rfl) ?_
              refine lv_if_eq (tgt := 84) hx hb dL_queued_76 (by decide) (fun c_76_18 => ?_) (fun c_76_18 => ?_)
              · refine lv_iload hx hb dL_queued_84 (lv_at hl 3 rfl) ?_
                refine lv_istore (lv' := [(6, .int f1), (10, .int 0), (9, .int (rk τ i)), (8, .int (nI i)), (7, .int b1), (0, .ref (al 0)), (1, .ref (al 3)), (2, .ref (al 6)), (3, .ref (al 7)), (4, .int (nI r)), (5, .int bh)]) hx hb dL_queued_86 hl (by decide) rfl (fun ls hl => ?_)
                refine lv_iload hx hb dL_queued_88 (lv_at hl 1 rfl) ?_
                refine lv_if_eq (tgt := 98) hx hb dL_queued_90 (by decide) (fun c_90_19 => ?_) (fun c_90_19 => ?_)
                · refine lv_iload hx hb dL_queued_98 (lv_at hl 4 rfl) ?_
                  refine lv_istore (lv' := [(7, .int b1), (6, .int f1), (10, .int 0), (9, .int (rk τ i)), (8, .int (nI i)), (0, .ref (al 0)), (1, .ref (al 3)), (2, .ref (al 6)), (3, .ref (al 7)), (4, .int (nI r)), (5, .int bh)]) hx hb dL_queued_100 hl (by decide) rfl (fun ls hl => ?_)
                  refine lv_iinc (v := (nI (i + 1))) (lv' := [(8, .int (nI (i + 1))), (7, .int b1), (6, .int f1), (10, .int 0), (9, .int (rk τ i)), (0, .ref (al 0)), (1, .ref (al 3)), (2, .ref (al 6)), (3, .ref (al 7)), (4, .int (nI r)), (5, .int bh)]) hx hb dL_queued_102 hl (k := 4) rfl (nI_1 _) (by decide) rfl (fun ls hl => ?_)
                  refine lv_goto (tgt := 10) hx hb dL_queued_105 (by decide) ?_
                  exact ih10 f1 b1 (i + 1) (by omega) (by omega) (by rw [itr_step hi, show lQ1 τ r bh i (f1, b1) = (f1, b1) from if_neg (fun z => Int32.not_le.mpr z.2.1 c_57_17)] at hT; exact hT) _ _ _ hS hP (lv_sub hl [0, 2, 1, 5, 6, 7, 8, 9, 10] rfl)
                · exact absurd c_90_19 (by decide)
              · exact absurd c_76_18 (by decide)
            · refine lv_iload hx hb dL_queued_60 (lv_at hl 0 rfl) ?_
              refine lv_iload hx hb dL_queued_62 (lv_at hl 3 rfl) ?_
              refine lv_icmp_ge (tgt := 71) hx hb dL_queued_64 (by decide) (fun c_64_20 => ?_) (fun c_64_20 => ?_)
              · refine lv_iconst (v := 0) hx hb dL_queued_71 (by decide) ?_
                refine lv_istore (lv' := [(10, .int 0), (9, .int (rk τ i)), (8, .int (nI i)), (6, .int f1), (7, .int b1), (0, .ref (al 0)), (1, .ref (al 3)), (2, .ref (al 6)), (3, .ref (al 7)), (4, .int (nI r)), (5, .int bh)]) hx hb dL_queued_72 hl (by decide) rfl (fun ls hl => ?_)
                refine lv_iload hx hb dL_queued_74 (lv_at hl 0 rfl) ?_
                refine lv_if_eq (tgt := 84) hx hb dL_queued_76 (by decide) (fun c_76_21 => ?_) (fun c_76_21 => ?_)
                · refine lv_iload hx hb dL_queued_84 (lv_at hl 3 rfl) ?_
                  refine lv_istore (lv' := [(6, .int f1), (10, .int 0), (9, .int (rk τ i)), (8, .int (nI i)), (7, .int b1), (0, .ref (al 0)), (1, .ref (al 3)), (2, .ref (al 6)), (3, .ref (al 7)), (4, .int (nI r)), (5, .int bh)]) hx hb dL_queued_86 hl (by decide) rfl (fun ls hl => ?_)
                  refine lv_iload hx hb dL_queued_88 (lv_at hl 1 rfl) ?_
                  refine lv_if_eq (tgt := 98) hx hb dL_queued_90 (by decide) (fun c_90_22 => ?_) (fun c_90_22 => ?_)
                  · refine lv_iload hx hb dL_queued_98 (lv_at hl 4 rfl) ?_
                    refine lv_istore (lv' := [(7, .int b1), (6, .int f1), (10, .int 0), (9, .int (rk τ i)), (8, .int (nI i)), (0, .ref (al 0)), (1, .ref (al 3)), (2, .ref (al 6)), (3, .ref (al 7)), (4, .int (nI r)), (5, .int bh)]) hx hb dL_queued_100 hl (by decide) rfl (fun ls hl => ?_)
                    refine lv_iinc (v := (nI (i + 1))) (lv' := [(8, .int (nI (i + 1))), (7, .int b1), (6, .int f1), (10, .int 0), (9, .int (rk τ i)), (0, .ref (al 0)), (1, .ref (al 3)), (2, .ref (al 6)), (3, .ref (al 7)), (4, .int (nI r)), (5, .int bh)]) hx hb dL_queued_102 hl (k := 4) rfl (nI_1 _) (by decide) rfl (fun ls hl => ?_)
                    refine lv_goto (tgt := 10) hx hb dL_queued_105 (by decide) ?_
                    exact ih10 f1 b1 (i + 1) (by omega) (by omega) (by rw [itr_step hi, show lQ1 τ r bh i (f1, b1) = (f1, b1) from if_neg (fun z => Int32.not_le.mpr z.2.2 c_64_20)] at hT; exact hT) _ _ _ hS hP (lv_sub hl [0, 2, 1, 5, 6, 7, 8, 9, 10] rfl)
                  · exact absurd c_90_22 (by decide)
                · exact absurd c_76_21 (by decide)
              · refine lv_iconst (v := 1) hx hb dL_queued_67 (by decide) ?_
                refine lv_goto (tgt := 72) hx hb dL_queued_68 (by decide) ?_
                refine lv_istore (lv' := [(10, .int 1), (9, .int (rk τ i)), (8, .int (nI i)), (6, .int f1), (7, .int b1), (0, .ref (al 0)), (1, .ref (al 3)), (2, .ref (al 6)), (3, .ref (al 7)), (4, .int (nI r)), (5, .int bh)]) hx hb dL_queued_72 hl (by decide) rfl (fun ls hl => ?_)
                refine lv_iload hx hb dL_queued_74 (lv_at hl 0 rfl) ?_
                refine lv_if_eq (tgt := 84) hx hb dL_queued_76 (by decide) (fun c_76_23 => ?_) (fun c_76_23 => ?_)
                · exact absurd c_76_23 (by decide)
                · refine lv_iload hx hb dL_queued_79 (lv_at hl 2 rfl) ?_
                  refine lv_goto (tgt := 86) hx hb dL_queued_81 (by decide) ?_
                  refine lv_istore (lv' := [(6, .int (nI i)), (10, .int 1), (9, .int (rk τ i)), (8, .int (nI i)), (7, .int b1), (0, .ref (al 0)), (1, .ref (al 3)), (2, .ref (al 6)), (3, .ref (al 7)), (4, .int (nI r)), (5, .int bh)]) hx hb dL_queued_86 hl (by decide) rfl (fun ls hl => ?_)
                  refine lv_iload hx hb dL_queued_88 (lv_at hl 1 rfl) ?_
                  refine lv_if_eq (tgt := 98) hx hb dL_queued_90 (by decide) (fun c_90_24 => ?_) (fun c_90_24 => ?_)
                  · exact absurd c_90_24 (by decide)
                  · refine lv_iload hx hb dL_queued_93 (lv_at hl 2 rfl) ?_
                    refine lv_goto (tgt := 100) hx hb dL_queued_95 (by decide) ?_
                    refine lv_istore (lv' := [(7, .int (rk τ i)), (6, .int (nI i)), (10, .int 1), (9, .int (rk τ i)), (8, .int (nI i)), (0, .ref (al 0)), (1, .ref (al 3)), (2, .ref (al 6)), (3, .ref (al 7)), (4, .int (nI r)), (5, .int bh)]) hx hb dL_queued_100 hl (by decide) rfl (fun ls hl => ?_)
                    refine lv_iinc (v := (nI (i + 1))) (lv' := [(8, .int (nI (i + 1))), (7, .int (rk τ i)), (6, .int (nI i)), (10, .int 1), (9, .int (rk τ i)), (0, .ref (al 0)), (1, .ref (al 3)), (2, .ref (al 6)), (3, .ref (al 7)), (4, .int (nI r)), (5, .int bh)]) hx hb dL_queued_102 hl (k := 4) rfl (nI_1 _) (by decide) rfl (fun ls hl => ?_)
                    refine lv_goto (tgt := 10) hx hb dL_queued_105 (by decide) ?_
                    exact ih10 (nI i) (rk τ i) (i + 1) (by omega) (by omega) (by rw [itr_step hi, show lQ1 τ r bh i (f1, b1) = (nI i, rk τ i) from if_pos ⟨(pw_qu (lr_pl hR hi) hr9).mp c_50_14, Int32.not_le.mp c_57_17, Int32.not_le.mp c_64_20⟩] at hT; exact hT) _ _ _ hS hP (lv_sub hl [0, 2, 1, 5, 6, 7, 8, 9, 10] rfl)
  exact L10 (nT + 1) (-1) 1000000 0 (by omega) (by omega) rfl _ _ _ hS hP (lv_sub hl [0, 2, 1, 3, 4, 5, 6, 7, 8] rfl)

set_option maxHeartbeats 4000000 in
set_option maxRecDepth 100000 in
theorem kL_rank0 (l : Launch) (G : GE) (A1 A : Nat → Prop) (al : Nat → Nat) (μ τ : SG) (nT nW : Nat) (hR : LR μ τ nT nW)  : KM l G A1 yL_rank cL_rank 3 (some .int) (rmL 1 0 0) [.ref (al 3), .ref (al 7), .int (-1)] (PL G A al μ 14) (fun v _ => v = some (.int (lRk τ (-1)))) (fun _ _ => False) := by
  refine KM.of (by decide) (Nat.le_of_ble_eq_true rfl) ?_
  intro p e s m args below meth c F hP ls hl
  have hx := F.1.1
  have hb := F.1.2.1
  have hown := F.1.2.2.2.1
  have hts := F.1.2.2.2.2
  have hr := F.2.1
  have hlocks := F.2.2.1
  have hE := F.2.2.2.2.2.1
  have hA := F.2.2.2.2.2.2
  have hS : va_S A1 s.heap s.heap [] := va_S.rf
  have hl : lv_has ls 3 [(0, .ref (al 3)), (1, .ref (al 7)), (2, .int (-1))] := hl
  have hP := hP
  obtain ⟨h60, h10⟩ := lr_n60 hR
  refine lv_iload_n hx hb dL_rank_0 rfl (lv_at hl 2 rfl) ?_
  refine lv_if_ge (tgt := 9) hx hb dL_rank_1 (by decide) (fun c_1_1 => ?_) (fun c_1_1 => ?_)
  · exact absurd c_1_1 (by decide)
  · refine lv_ldc (v := 900000) hx hb hown (hts _ wCN_L_9) dL_rank_4 ?_
    refine lv_goto (tgt := 28) hx hb dL_rank_6 (by decide) ?_
    exact kiret hx hb hr hlocks hS (by decide) (by decide) dL_rank_28 (rfl)

set_option maxHeartbeats 4000000 in
set_option maxRecDepth 100000 in
theorem kL_rank1 (l : Launch) (G : GE) (A1 A : Nat → Prop) (al : Nat → Nat) (μ τ : SG) (nT nW : Nat) (hR : LR μ τ nT nW) (u : Nat) (hu : u < nT) : KM l G A1 yL_rank cL_rank 3 (some .int) (rmL 1 0 0) [.ref (al 3), .ref (al 7), .int (nI u)] (PL G A al μ 14) (fun v _ => v = some (.int (lRk τ (nI u)))) (fun _ _ => False) := by
  refine KM.of (by decide) (Nat.le_of_ble_eq_true rfl) ?_
  intro p e s m args below meth c F hP ls hl
  have hx := F.1.1
  have hb := F.1.2.1
  have hown := F.1.2.2.2.1
  have hts := F.1.2.2.2.2
  have hr := F.2.1
  have hlocks := F.2.2.1
  have hE := F.2.2.2.2.2.1
  have hA := F.2.2.2.2.2.2
  have hS : va_S A1 s.heap s.heap [] := va_S.rf
  have hl : lv_has ls 3 [(0, .ref (al 3)), (1, .ref (al 7)), (2, .int (nI u))] := hl
  have hP := hP
  obtain ⟨h60, h10⟩ := lr_n60 hR
  refine lv_iload_n hx hb dL_rank_0 rfl (lv_at hl 2 rfl) ?_
  refine lv_if_ge (tgt := 9) hx hb dL_rank_1 (by decide) (fun c_1_1 => ?_) (fun c_1_1 => ?_)
  · refine lv_aload_n hx hb dL_rank_9 rfl (lv_at hl 0 rfl) ?_
    refine lv_iload_n hx hb dL_rank_10 rfl (lv_at hl 2 rfl) ?_
    refine xiald hx hb hE.1.1 (hP.arr 3 (by decide)) 0 rfl (k := u) rfl (show _ < 60 by omega) (by decide) dL_rank_11 ?_
    refine lv_iconst (v := 4) hx hb dL_rank_12 (by decide) ?_
    refine lv_irem hx hb dL_rank_13 (by decide) ?_
    refine W.eq (g2 := F0 m 14 ls [.int (τ 4 u)]) (congrArg (fun z => F0 m 14 ls [.int z]) (lr_so hR hu)) ?_
    refine lv_iconst (v := 2) hx hb dL_rank_14 (by decide) ?_
    refine lv_icmp_ne (tgt := 22) hx hb dL_rank_15 (by decide) (fun c_15_2 => ?_) (fun c_15_2 => ?_)
    · refine lv_ldc (v := 100000) hx hb hown (hts _ wCN_L_8) dL_rank_22 ?_
      refine lv_aload_n hx hb dL_rank_24 rfl (lv_at hl 1 rfl) ?_
      refine lv_iload_n hx hb dL_rank_25 rfl (lv_at hl 2 rfl) ?_
      refine xiald hx hb hE.1.1 (hP.arr 7 (by decide)) 0 rfl (k := u) rfl (show _ < 60 by omega) (by decide) dL_rank_26 ?_
      refine W.eq (g2 := F0 m 27 ls [.int (τ 11 u), .int 100000]) (congrArg (fun z => F0 m 27 ls [.int z, .int 100000]) (lr_q hR u)) ?_
      refine lv_iadd hx hb dL_rank_27 ?_
      exact kiret hx hb hr hlocks hS (by decide) (by decide) dL_rank_28 (by rw [lRk_n (lr_QB hR) (by omega), ← (rk_n (lr_QB hR) u).1]; unfold rk; rw [if_neg c_15_2])
    · refine lv_iconst (v := 0) hx hb dL_rank_18 (by decide) ?_
      refine lv_goto (tgt := 24) hx hb dL_rank_19 (by decide) ?_
      refine lv_aload_n hx hb dL_rank_24 rfl (lv_at hl 1 rfl) ?_
      refine lv_iload_n hx hb dL_rank_25 rfl (lv_at hl 2 rfl) ?_
      refine xiald hx hb hE.1.1 (hP.arr 7 (by decide)) 0 rfl (k := u) rfl (show _ < 60 by omega) (by decide) dL_rank_26 ?_
      refine W.eq (g2 := F0 m 27 ls [.int (τ 11 u), .int 0]) (congrArg (fun z => F0 m 27 ls [.int z, .int 0]) (lr_q hR u)) ?_
      refine lv_iadd hx hb dL_rank_27 ?_
      exact kiret hx hb hr hlocks hS (by decide) (by decide) dL_rank_28 (by rw [lRk_n (lr_QB hR) (by omega), ← (rk_n (lr_QB hR) u).1]; unfold rk; rw [if_pos c_15_2])
  · exact absurd (nI_pos' (by omega)) c_1_1

theorem kL_rank (l : Launch) (G : GE) (A1 A : Nat → Prop) (al : Nat → Nat) (μ τ : SG) (nT nW : Nat) (hR : LR μ τ nT nW) (x : Int32) (hx : x = -1 ∨ ∃ u, u < nT ∧ x = nI u) : KM l G A1 yL_rank cL_rank 3 (some .int) (rmL 1 0 0) [.ref (al 3), .ref (al 7), .int x] (PL G A al μ 14) (fun v _ => v = some (.int (lRk τ x))) (fun _ _ => False) := by
  rcases hx with rfl | ⟨u, hu, rfl⟩
  · exact kL_rank0 l G A1 A al μ τ nT nW hR
  · exact kL_rank1 l G A1 A al μ τ nT nW hR u hu
set_option maxHeartbeats 4000000 in
set_option maxRecDepth 100000 in
theorem kL_has (l : Launch) (G : GE) (A1 A : Nat → Prop) (al : Nat → Nat) (μ τ : SG) (nT nW : Nat) (hR : LR μ τ nT nW) (k so : Nat) (hk9 : k < 6) (hs2 : 2 ≤ so) (hs4 : so < 4) : KM l G A1 yL_has cL_has 7 (some .int) (rmL 2 0 0) [.ref (al 0), .ref (al 3), .ref (al 4), .int (nI k), .int (nI so)] (PL G A al μ 14) (fun v _ => v = some (.int (nI (cntF (mHas τ (nI k) (nI so)) 0 nT)))) (fun _ _ => False) := by
  refine KM.of (by decide) (Nat.le_of_ble_eq_true rfl) ?_
  intro p e s m args below meth c F hP ls hl
  have hx := F.1.1
  have hb := F.1.2.1
  have hown := F.1.2.2.2.1
  have hts := F.1.2.2.2.2
  have hr := F.2.1
  have hlocks := F.2.2.1
  have hE := F.2.2.2.2.2.1
  have hA := F.2.2.2.2.2.2
  have hS : va_S A1 s.heap s.heap [] := va_S.rf
  have hl : lv_has ls 7 [(0, .ref (al 0)), (1, .ref (al 3)), (2, .ref (al 4)), (3, .int (nI k)), (4, .int (nI so))] := hl
  have hP := hP
  obtain ⟨h60, h10⟩ := lr_n60 hR
  refine lv_iconst (v := 0) hx hb dL_has_0 (by decide) ?_
  refine lv_istore (lv' := [(5, .int 0), (0, .ref (al 0)), (1, .ref (al 3)), (2, .ref (al 4)), (3, .int (nI k)), (4, .int (nI so))]) hx hb dL_has_1 hl (by decide) rfl (fun ls hl => ?_)
  refine lv_iconst (v := 0) hx hb dL_has_3 (by decide) ?_
  refine lv_istore (lv' := [(6, .int 0), (5, .int 0), (0, .ref (al 0)), (1, .ref (al 3)), (2, .ref (al 4)), (3, .int (nI k)), (4, .int (nI so))]) hx hb dL_has_4 hl (by decide) rfl (fun ls hl => ?_)
  have L6 : ∀ (n9 : Nat) (x1 : Int32) (i : Nat) (h1 : i ≤ nT) (h2 : nT < i + n9) (hT : itr (cI (mHas τ (nI k) (nI so))) i (nT - i) x1 = itr (cI (mHas τ (nI k) (nI so))) 0 (nT - 0) 0) (H : Heap) (locs : List Loc) (ls : Array Slot), va_S A1 s.heap H locs → PL G A al μ 14 H → lv_has ls 7 [(6, .int (nI i)), (5, .int x1), (0, .ref (al 0)), (1, .ref (al 3)), (2, .ref (al 4)), (3, .int (nI k)), (4, .int (nI so))] → W p l e (rmL 2 0 0) s m args below meth c H locs 0 0 (KE below A1 (fun v _ => v = some (.int (nI (cntF (mHas τ (nI k) (nI so)) 0 nT)))) (fun _ _ => False) args s (rmL 2 0 0)) (F0 m 6 ls []) := by
    intro n9
    induction n9 with
    | zero =>
      intro x1 i h1 h2 hT H locs ls hS hP hl
      exact absurd True.intro (by omega)
    | succ n9 ih6 =>
      intro x1 i h1 h2 hT H locs ls hS hP hl
      refine lv_iload hx hb dL_has_6 (lv_at hl 0 rfl) ?_
      refine lv_aload_n hx hb dL_has_8 rfl (lv_at hl 2 rfl) ?_
      refine lv_iconst (v := 0) hx hb dL_has_9 (by decide) ?_
      refine xiald hx hb hE.1.1 (hP.arr 0 (by decide)) 0 rfl (k := 0) rfl (show _ < 7 by omega) (by decide) dL_has_10 ?_
      refine W.eq (g2 := F0 m 11 ls [.int (nI nT), .int (nI i)]) (congrArg (fun z => F0 m 11 ls [.int z, .int (nI i)]) (lr_n0 hR)) ?_
      refine lv_icmp_ge (tgt := 66) hx hb dL_has_11 (by decide) (fun c_11_1 => ?_) (fun c_11_1 => ?_)
      · have ei := nI_eqle h1 (by omega) c_11_1
        rw [ei] at hT
        refine lv_iload hx hb dL_has_66 (lv_at hl 1 rfl) ?_
        exact kiret hx hb hr hlocks hS (by decide) (by decide) dL_has_68 (by rw [cnt_of hT])
      · have hi := nI_lt' h1 (by omega) c_11_1
        refine lv_iload hx hb dL_has_14 (lv_at hl 1 rfl) ?_
        refine lv_aload_n hx hb dL_has_16 rfl (lv_at hl 2 rfl) ?_
        refine lv_aload_n hx hb dL_has_17 rfl (lv_at hl 3 rfl) ?_
        refine lv_aload_n hx hb dL_has_18 rfl (lv_at hl 4 rfl) ?_
        refine lv_iload hx hb dL_has_19 (lv_at hl 0 rfl) ?_
        refine kcallS (n := 4) F (kL_isNow l G (fun q => H.size ≤ q) A al μ τ nT nW hR i hi) wML_L_28 wST_L_isNow wIN_L wCO_L_isNow (by decide) rfl ⟨by decide, by decide⟩ hS (fun q h => hA q (Nat.le_trans hS.1 h)) (fun q h => h) hP rfl hl.1 (Nat.le_of_ble_eq_true rfl) dL_has_21 ⟨by decide, by decide⟩ (fun E ce q9 H1 locs1 hx9 _ _ _ _ _ => hx9.elim) (fun v H1 locs1 hv hk hS => ?_)
        have hP := hP.old hk
        subst hv
        refine lv_if_eq (tgt := 56) hx hb dL_has_24 (by decide) (fun c_24_2 => ?_) (fun c_24_2 => ?_)
        · refine lv_iconst (v := 0) hx hb dL_has_56 (by decide) ?_
          refine lv_iadd hx hb dL_has_57 ?_
          refine lv_istore (lv' := [(5, .int (x1 + 0)), (6, .int (nI i)), (0, .ref (al 0)), (1, .ref (al 3)), (2, .ref (al 4)), (3, .int (nI k)), (4, .int (nI so))]) hx hb dL_has_58 hl (by decide) rfl (fun ls hl => ?_)
          refine lv_iinc (v := (nI (i + 1))) (lv' := [(6, .int (nI (i + 1))), (5, .int (x1 + 0)), (0, .ref (al 0)), (1, .ref (al 3)), (2, .ref (al 4)), (3, .int (nI k)), (4, .int (nI so))]) hx hb dL_has_60 hl (k := 1) rfl (nI_1 _) (by decide) rfl (fun ls hl => ?_)
          refine lv_goto (tgt := 6) hx hb dL_has_63 (by decide) ?_
          exact ih6 (x1 + 0) (i + 1) (by omega) (by omega) (by rw [itr_step hi, show cI (mHas τ (nI k) (nI so)) i x1 = x1 + 0 from if_neg (by simp [mHas, (b2i_0.mp c_24_2)])] at hT; exact hT) _ _ _ hS hP (lv_sub hl [0, 1, 2, 3, 4, 5, 6] rfl)
        · refine lv_aload_n hx hb dL_has_27 rfl (lv_at hl 3 rfl) ?_
          refine lv_iload hx hb dL_has_28 (lv_at hl 0 rfl) ?_
          refine xiald hx hb hE.1.1 (hP.arr 3 (by decide)) 0 rfl (k := i) rfl (show _ < 60 by omega) (by decide) dL_has_30 ?_
          refine lv_iconst (v := 4) hx hb dL_has_31 (by decide) ?_
          refine lv_irem hx hb dL_has_32 (by decide) ?_
          refine W.eq (g2 := F0 m 33 ls [.int (τ 4 i), .int x1]) (congrArg (fun z => F0 m 33 ls [.int z, .int x1]) (lr_so hR hi)) ?_
          refine lv_iload hx hb dL_has_33 (lv_at hl 6 rfl) ?_
          refine lv_icmp_ne (tgt := 56) hx hb dL_has_35 (by decide) (fun c_35_3 => ?_) (fun c_35_3 => ?_)
          · refine lv_iconst (v := 0) hx hb dL_has_56 (by decide) ?_
            refine lv_iadd hx hb dL_has_57 ?_
            refine lv_istore (lv' := [(5, .int (x1 + 0)), (6, .int (nI i)), (0, .ref (al 0)), (1, .ref (al 3)), (2, .ref (al 4)), (3, .int (nI k)), (4, .int (nI so))]) hx hb dL_has_58 hl (by decide) rfl (fun ls hl => ?_)
            refine lv_iinc (v := (nI (i + 1))) (lv' := [(6, .int (nI (i + 1))), (5, .int (x1 + 0)), (0, .ref (al 0)), (1, .ref (al 3)), (2, .ref (al 4)), (3, .int (nI k)), (4, .int (nI so))]) hx hb dL_has_60 hl (k := 1) rfl (nI_1 _) (by decide) rfl (fun ls hl => ?_)
            refine lv_goto (tgt := 6) hx hb dL_has_63 (by decide) ?_
            exact ih6 (x1 + 0) (i + 1) (by omega) (by omega) (by rw [itr_step hi, show cI (mHas τ (nI k) (nI so)) i x1 = x1 + 0 from if_neg (by simp [mHas, c_35_3])] at hT; exact hT) _ _ _ hS hP (lv_sub hl [0, 1, 2, 3, 4, 5, 6] rfl)
          · refine lv_aload_n hx hb dL_has_38 rfl (lv_at hl 3 rfl) ?_
            refine lv_iload hx hb dL_has_39 (lv_at hl 0 rfl) ?_
            refine xiald hx hb hE.1.1 (hP.arr 3 (by decide)) 0 rfl (k := i) rfl (show _ < 60 by omega) (by decide) dL_has_41 ?_
            refine lv_bipush (v := 16) hx hb dL_has_42 (by decide) ?_
            refine lv_idiv hx hb dL_has_44 (by decide) ?_
            refine lv_bipush (v := 8) hx hb dL_has_45 (by decide) ?_
            refine lv_irem hx hb dL_has_47 (by decide) ?_
            refine W.eq (g2 := F0 m 48 ls [.int (τ 6 i), .int x1]) (congrArg (fun z => F0 m 48 ls [.int z, .int x1]) (lr_me hR hi hs2 hs4 c_35_3)) ?_
            refine lv_iload_n hx hb dL_has_48 rfl (lv_at hl 5 rfl) ?_
            refine lv_icmp_ne (tgt := 56) hx hb dL_has_49 (by decide) (fun c_49_4 => ?_) (fun c_49_4 => ?_)
            · refine lv_iconst (v := 0) hx hb dL_has_56 (by decide) ?_
              refine lv_iadd hx hb dL_has_57 ?_
              refine lv_istore (lv' := [(5, .int (x1 + 0)), (6, .int (nI i)), (0, .ref (al 0)), (1, .ref (al 3)), (2, .ref (al 4)), (3, .int (nI k)), (4, .int (nI so))]) hx hb dL_has_58 hl (by decide) rfl (fun ls hl => ?_)
              refine lv_iinc (v := (nI (i + 1))) (lv' := [(6, .int (nI (i + 1))), (5, .int (x1 + 0)), (0, .ref (al 0)), (1, .ref (al 3)), (2, .ref (al 4)), (3, .int (nI k)), (4, .int (nI so))]) hx hb dL_has_60 hl (k := 1) rfl (nI_1 _) (by decide) rfl (fun ls hl => ?_)
              refine lv_goto (tgt := 6) hx hb dL_has_63 (by decide) ?_
              exact ih6 (x1 + 0) (i + 1) (by omega) (by omega) (by rw [itr_step hi, show cI (mHas τ (nI k) (nI so)) i x1 = x1 + 0 from if_neg (by simp [mHas, c_49_4])] at hT; exact hT) _ _ _ hS hP (lv_sub hl [0, 1, 2, 3, 4, 5, 6] rfl)
            · refine lv_iconst (v := 1) hx hb dL_has_52 (by decide) ?_
              refine lv_goto (tgt := 57) hx hb dL_has_53 (by decide) ?_
              refine lv_iadd hx hb dL_has_57 ?_
              refine lv_istore (lv' := [(5, .int (x1 + 1)), (6, .int (nI i)), (0, .ref (al 0)), (1, .ref (al 3)), (2, .ref (al 4)), (3, .int (nI k)), (4, .int (nI so))]) hx hb dL_has_58 hl (by decide) rfl (fun ls hl => ?_)
              refine lv_iinc (v := (nI (i + 1))) (lv' := [(6, .int (nI (i + 1))), (5, .int (x1 + 1)), (0, .ref (al 0)), (1, .ref (al 3)), (2, .ref (al 4)), (3, .int (nI k)), (4, .int (nI so))]) hx hb dL_has_60 hl (k := 1) rfl (nI_1 _) (by decide) rfl (fun ls hl => ?_)
              refine lv_goto (tgt := 6) hx hb dL_has_63 (by decide) ?_
              exact ih6 (x1 + 1) (i + 1) (by omega) (by omega) (by rw [itr_step hi, show cI (mHas τ (nI k) (nI so)) i x1 = x1 + 1 from if_pos (by simp [mHas, (b2i_1.mp c_24_2), c_35_3, c_49_4])] at hT; exact hT) _ _ _ hS hP (lv_sub hl [0, 1, 2, 3, 4, 5, 6] rfl)
  exact L6 (nT + 1) 0 0 (by omega) (by omega) rfl _ _ _ hS hP (lv_sub hl [0, 1, 2, 3, 4, 5, 6] rfl)

theorem nb12_0 : ∀ k, nb12 k 0 = 0
  | 0 => rfl
  | k + 1 => by show 0 % 2 + nb12 k (0 / 2) = 0; rw [Nat.zero_div, nb12_0 k]
set_option maxRecDepth 100000 in
theorem nb12_all {s : Nat} (hs : s < 4096) : nb12 12 s = nbs s := (by decide +kernel : ∀ s, s < 4096 → nb12 12 s = nbs s) s hs
theorem mBits_nb {s : Nat} (hs : s < 4096) : mBits (nI s) = nI (nb12 12 s) := by rw [bit_all hs, pop_n hs, nb12_all hs]
theorem and1 {s : Nat} (hs : s < 4096) : nI s &&& 1 = nI (s % 2) := pk_andN (k := 1) (m := 1) (by omega) (by decide)
theorem shr1 {s : Nat} (hs : s < 4096) : nI s >>> ((1 : Int32) &&& 31) = nI (s / 2) := pk_shrN (by omega) _ 1 (by decide)
set_option maxHeartbeats 4000000 in
set_option maxRecDepth 100000 in
theorem kL_bits (l : Launch) (G : GE) (A1 : Nat → Prop)  (s0 : Nat) (hs0 : s0 < 4096) : KM l G A1 yL_bits cL_bits 3 (some .int) (rmL 1 0 0) [.int (nI s0)] (fun _ => True) (fun v _ => v = some (.int (mBits (nI s0)))) (fun _ _ => False) := by
  refine KM.of (by decide) (Nat.le_of_ble_eq_true rfl) ?_
  intro p e s m args below meth c F hP ls hl
  have hx := F.1.1
  have hb := F.1.2.1
  have hown := F.1.2.2.2.1
  have hts := F.1.2.2.2.2
  have hr := F.2.1
  have hlocks := F.2.2.1
  have hE := F.2.2.2.2.2.1
  have hA := F.2.2.2.2.2.2
  have hS : va_S A1 s.heap s.heap [] := va_S.rf
  have hl : lv_has ls 3 [(0, .int (nI s0))] := hl
  have hP := hP
  refine lv_iconst (v := 0) hx hb dL_bits_0 (by decide) ?_
  refine lv_istore_n (lv' := [(1, .int 0), (0, .int (nI s0))]) hx hb dL_bits_1 rfl hl (by decide) rfl (fun ls hl => ?_)
  refine lv_iload_n hx hb dL_bits_2 rfl (lv_at hl 1 rfl) ?_
  refine lv_istore_n (lv' := [(2, .int (nI s0)), (1, .int 0), (0, .int (nI s0))]) hx hb dL_bits_3 rfl hl (by decide) rfl (fun ls hl => ?_)
  have L4 : ∀ (n9 : Nat) (m1 s1 k1 : Nat) (h2 : k1 < n9) (h3 : s1 < 2 ^ k1) (h5 : k1 ≤ 12) (hT : m1 + nb12 k1 s1 = nb12 12 s0) (H : Heap) (locs : List Loc) (ls : Array Slot), va_S A1 s.heap H locs → lv_has ls 3 [(2, .int (nI s1)), (1, .int (nI m1)), (0, .int (nI s0))] → W p l e (rmL 1 0 0) s m args below meth c H locs 0 0 (KE below A1 (fun v _ => v = some (.int (mBits (nI s0)))) (fun _ _ => False) args s (rmL 1 0 0)) (F0 m 4 ls []) := by
    intro n9
    induction n9 with
    | zero =>
      intro m1 s1 k1 h2 h3 h5 hT H locs ls hS  hl
      exact absurd True.intro (by omega)
    | succ n9 ih4 =>
      intro m1 s1 k1 h2 h3 h5 hT H locs ls hS  hl
      refine lv_iload_n hx hb dL_bits_4 rfl (lv_at hl 0 rfl) ?_
      refine lv_if_le (tgt := 21) hx hb dL_bits_5 (by decide) (fun c_5_1 => ?_) (fun c_5_1 => ?_)
      · have h4 : s1 < 4096 := Nat.lt_of_lt_of_le h3 (show 2 ^ k1 ≤ 2 ^ 12 from Nat.pow_le_pow_right (by decide : 0 < 2) h5)
        have e0 : s1 = 0 := nI_le0 (by omega) c_5_1
        subst e0
        rw [nb12_0, Nat.add_zero] at hT
        refine lv_iload_n hx hb dL_bits_21 rfl (lv_at hl 1 rfl) ?_
        exact kiret hx hb hr hlocks hS (by decide) (by decide) dL_bits_22 (by rw [mBits_nb hs0, hT])
      · have h4 : s1 < 4096 := Nat.lt_of_lt_of_le h3 (show 2 ^ k1 ≤ 2 ^ 12 from Nat.pow_le_pow_right (by decide : 0 < 2) h5)
        have hk0 : k1 ≠ 0 := fun z => by rw [z] at h3; exact nI_gt0 c_5_1 (by omega)
        obtain ⟨k, hk⟩ : ∃ k, k1 = k + 1 := ⟨k1 - 1, by omega⟩
        subst hk
        refine lv_iload_n hx hb dL_bits_8 rfl (lv_at hl 1 rfl) ?_
        refine lv_iload_n hx hb dL_bits_9 rfl (lv_at hl 0 rfl) ?_
        refine lv_iconst (v := 1) hx hb dL_bits_10 (by decide) ?_
        refine lv_iand hx hb dL_bits_11 ?_
        refine W.eq (g2 := F0 m 12 ls [.int (nI (s1 % 2)), .int (nI m1)]) (congrArg (fun z => F0 m 12 ls [.int z, .int (nI m1)]) (and1 h4)) ?_
        refine lv_iadd hx hb dL_bits_12 ?_
        refine W.eq (g2 := F0 m 13 ls [.int (nI (m1 + s1 % 2))]) (congrArg (fun z => F0 m 13 ls [.int z]) (nI_addN _ _)) ?_
        refine lv_istore_n (lv' := [(1, .int (nI (m1 + s1 % 2))), (2, .int (nI s1)), (0, .int (nI s0))]) hx hb dL_bits_13 rfl hl (by decide) rfl (fun ls hl => ?_)
        refine lv_iload_n hx hb dL_bits_14 rfl (lv_at hl 1 rfl) ?_
        refine lv_iconst (v := 1) hx hb dL_bits_15 (by decide) ?_
        refine lv_ishr hx hb dL_bits_16 ?_
        refine W.eq (g2 := F0 m 17 ls [.int (nI (s1 / 2))]) (congrArg (fun z => F0 m 17 ls [.int z]) (shr1 h4)) ?_
        refine lv_istore_n (lv' := [(2, .int (nI (s1 / 2))), (1, .int (nI (m1 + s1 % 2))), (0, .int (nI s0))]) hx hb dL_bits_17 rfl hl (by decide) rfl (fun ls hl => ?_)
        refine lv_goto (tgt := 4) hx hb dL_bits_18 (by decide) ?_
        exact ih4 (m1 + s1 % 2) (s1 / 2) k (by omega) (by rw [Nat.div_lt_iff_lt_mul (by decide)]; exact h3) (by omega) (by rw [← hT]; show _ = m1 + (s1 % 2 + nb12 k (s1 / 2)); omega) _ _ _ hS (lv_sub hl [0, 1, 2] rfl)
  exact L4 13 0 s0 12 (by omega) hs0 (by omega) (by rw [Nat.zero_add]) _ _ _ hS (lv_sub hl [0, 1, 2] rfl)

