set_option maxHeartbeats 4000000 in
set_option maxRecDepth 100000 in
theorem kL_shares (l : Launch) (G : GE) (A : Nat → Prop) (al : Nat → Nat) (μ τ : SG) (nT nW : Nat) (hR : LR μ τ nT nW) (am : Int32) (s0 : Nat) (hs0 : s0 < 4096) : KM l G A yL_shares cL_shares 6 none (rmL 2 0 0) [.ref (al 13), .int am, .int (nI s0)] (PL G A al μ 14) (fun v H => v = none ∧ ∃ μ2, LR μ2 (mShare am (nI s0) τ) nT nW ∧ PL G A al μ2 14 H) (fun _ _ => False) := by
  refine KM.of (by decide) (Nat.le_of_ble_eq_true rfl) ?_
  intro p e s m args below meth c F hP ls hl
  have hx := F.1.1
  have hb := F.1.2.1
  have hown := F.1.2.2.2.1
  have hts := F.1.2.2.2.2
  have hr := F.2.1
  have hlocks := F.2.2.1
  have hE := F.2.2.2.2.2.1
  have hA := F.2.2.2.2.2.2
  have hS : va_S A s.heap s.heap [] := va_S.rf
  have hl : lv_has ls 6 [(0, .ref (al 13)), (1, .int am), (2, .int (nI s0))] := hl
  have hP := hP
  obtain ⟨h60, h10⟩ := lr_n60 hR
  refine lv_iload_n hx hb dL_shares_0 rfl (lv_at hl 1 rfl) ?_
  refine lv_istore_n (lv' := [(3, .int am), (0, .ref (al 13)), (1, .int am), (2, .int (nI s0))]) hx hb dL_shares_1 rfl hl (by decide) rfl (fun ls hl => ?_)
  refine lv_iconst (v := 0) hx hb dL_shares_2 (by decide) ?_
  refine lv_istore (lv' := [(4, .int 0), (3, .int am), (0, .ref (al 13)), (1, .int am), (2, .int (nI s0))]) hx hb dL_shares_3 hl (by decide) rfl (fun ls hl => ?_)
  have L5 : ∀ (n9 : Nat) (μ1 τ1 : SG) (x1 y1 : Int32) (i : Nat) (h1 : i ≤ 12) (h2 : 12 < i + n9) (hR1 : LR μ1 τ1 nT nW) (hT : itr (mShr1 (nI s0) (mPart am (nI s0))) i (12 - i) τ1 = mShrL (nI s0) (mPart am (nI s0)) τ) (hY : itr (fun r x => x + mBit (nI s0) r) i (12 - i) y1 = mBits (nI s0)) (hX : x1 = am - mPart am (nI s0) * y1) (H : Heap) (locs : List Loc) (ls : Array Slot), va_S A s.heap H locs → PL G A al μ1 14 H → lv_has ls 6 [(4, .int (nI i)), (3, .int x1), (0, .ref (al 13)), (1, .int am), (2, .int (nI s0))] → W p l e (rmL 2 0 0) s m args below meth c H locs 0 0 (KE below A (fun v H => v = none ∧ ∃ μ2, LR μ2 (mShare am (nI s0) τ) nT nW ∧ PL G A al μ2 14 H) (fun _ _ => False) args s (rmL 2 0 0)) (F0 m 5 ls []) := by
    intro n9
    induction n9 with
    | zero =>
      intro μ1 τ1 x1 y1 i h1 h2 hR1 hT hY hX H locs ls hS hP hl
      exact absurd True.intro (by omega)
    | succ n9 ih5 =>
      intro μ1 τ1 x1 y1 i h1 h2 hR1 hT hY hX H locs ls hS hP hl
      refine lv_iload hx hb dL_shares_5 (lv_at hl 0 rfl) ?_
      refine lv_bipush (v := 12) hx hb dL_shares_7 (by decide) ?_
      refine lv_icmp_ge (tgt := 56) hx hb dL_shares_9 (by decide) (fun c_9_1 => ?_) (fun c_9_1 => ?_)
      · have ei := nI_eqle (n := 12) h1 (by decide) c_9_1
        rw [ei, itr_end] at hT
        rw [ei, itr_end] at hY
        refine lv_aload_n hx hb dL_shares_56 rfl (lv_at hl 2 rfl) ?_
        refine lv_iconst (v := 4) hx hb dL_shares_57 (by decide) ?_
        refine lv_dup2_11 hx hb dL_shares_58 rfl rfl ?_
        refine xiald hx hb hE.1.1 (hP.arr 13 (by decide)) 0 rfl (k := 4) rfl (show _ < 5 by omega) (by decide) dL_shares_59 ?_
        refine lv_iload_n hx hb dL_shares_60 rfl (lv_at hl 1 rfl) ?_
        refine lv_iadd hx hb dL_shares_61 ?_
        refine xiast hx hb hE.1.1 hS (hP.arr 13 (by decide)) (hP.oarr 13 (by decide)) 0 rfl (k := 4) rfl (show _ < 5 by omega) (by decide) dL_shares_62 (fun H1 locs1 he1 z1 oq1 hS => ?_)
        have hP := hP.put 13 4 (by decide) he1 oq1
        exact kvret hx hb hr hlocks hS (by decide) (by decide) dL_shares_63 (⟨rfl, _, by unfold mShare; rw [← hT, ← hY, ← hX, ← lr_m hR1 (j := 4) (by decide)]; exact hR1.m13, hP⟩)
      · have hi := nI_lt' (n := 12) h1 (by decide) c_9_1
        refine lv_iload_n hx hb dL_shares_12 rfl (lv_at hl 4 rfl) ?_
        refine lv_iload hx hb dL_shares_13 (lv_at hl 0 rfl) ?_
        refine lv_ishr hx hb dL_shares_15 ?_
        refine lv_iconst (v := 1) hx hb dL_shares_16 (by decide) ?_
        refine lv_iand hx hb dL_shares_17 ?_
        refine W.eq (g2 := F0 m 18 ls [.int (mBit (nI s0) i)]) (congrArg (fun z => F0 m 18 ls [.int z]) (rfl)) ?_
        refine lv_iconst (v := 1) hx hb dL_shares_18 (by decide) ?_
        refine lv_icmp_ne (tgt := 31) hx hb dL_shares_19 (by decide) (fun c_19_2 => ?_) (fun c_19_2 => ?_)
        · have hpt : (0 : Int32) = if mBit (nI s0) i = 1 then mPart am (nI s0) else 0 := (if_neg c_19_2).symm
          refine lv_iconst (v := 0) hx hb dL_shares_31 (by decide) ?_
          refine lv_istore (lv' := [(5, .int 0), (4, .int (nI i)), (3, .int x1), (0, .ref (al 13)), (1, .int am), (2, .int (nI s0))]) hx hb dL_shares_32 hl (by decide) rfl (fun ls hl => ?_)
          refine lv_aload_n hx hb dL_shares_34 rfl (lv_at hl 3 rfl) ?_
          refine lv_iload hx hb dL_shares_35 (lv_at hl 1 rfl) ?_
          refine lv_iconst (v := 3) hx hb dL_shares_37 (by decide) ?_
          refine lv_idiv hx hb dL_shares_38 (by decide) ?_
          refine W.eq (g2 := F0 m 39 ls [.int (nI (i / 3)), .ref (al 13)]) (congrArg (fun z => F0 m 39 ls [.int z, .ref (al 13)]) (r3 i hi)) ?_
          refine lv_dup2_11 hx hb dL_shares_39 rfl rfl ?_
          refine xiald hx hb hE.1.1 (hP.arr 13 (by decide)) 0 rfl (k := (i / 3)) rfl (show _ < 5 by omega) (by decide) dL_shares_40 ?_
          refine lv_iload hx hb dL_shares_41 (lv_at hl 0 rfl) ?_
          refine lv_iadd hx hb dL_shares_43 ?_
          refine xiast hx hb hE.1.1 hS (hP.arr 13 (by decide)) (hP.oarr 13 (by decide)) 0 rfl (k := (i / 3)) rfl (show _ < 5 by omega) (by decide) dL_shares_44 (fun H1 locs1 he1 z1 oq1 hS => ?_)
          have hP := hP.put 13 (i / 3) (by decide) he1 oq1
          refine lv_iload_n hx hb dL_shares_45 rfl (lv_at hl 2 rfl) ?_
          refine lv_iload hx hb dL_shares_46 (lv_at hl 0 rfl) ?_
          refine lv_isub hx hb dL_shares_48 ?_
          refine lv_istore_n (lv' := [(3, .int (x1 - 0)), (5, .int 0), (4, .int (nI i)), (0, .ref (al 13)), (1, .int am), (2, .int (nI s0))]) hx hb dL_shares_49 rfl hl (by decide) rfl (fun ls hl => ?_)
          refine lv_iinc (v := (nI (i + 1))) (lv' := [(4, .int (nI (i + 1))), (3, .int (x1 - 0)), (5, .int 0), (0, .ref (al 13)), (1, .int am), (2, .int (nI s0))]) hx hb dL_shares_50 hl (k := 2) rfl (nI_1 _) (by decide) rfl (fun ls hl => ?_)
          refine lv_goto (tgt := 5) hx hb dL_shares_53 (by decide) ?_
          exact ih5 _ _ _ (y1 + mBit (nI s0) i) (i + 1) (by omega) (by omega) (hR1.shr hi hpt) (by rw [itr_step hi] at hT; exact hT) (by rw [itr_step hi] at hY; exact hY) (by rw [hX]; exact left_step (bit_01 hs0 hi) hpt) _ _ _ hS hP (lv_sub hl [0, 1, 3, 4, 5] rfl)
        · have hpt : mPart am (nI s0) = if mBit (nI s0) i = 1 then mPart am (nI s0) else 0 := (if_pos c_19_2).symm
          refine lv_iload_n hx hb dL_shares_22 rfl (lv_at hl 3 rfl) ?_
          refine lv_iload_n hx hb dL_shares_23 rfl (lv_at hl 4 rfl) ?_
          refine kcallS (n := 1) F (kL_bits l G (fun q => H.size ≤ q) s0 hs0) wML_L_24 wST_L_bits wIN_L wCO_L_bits (by decide) rfl ⟨by decide, by decide⟩ hS (fun q h => hA q (Nat.le_trans hS.1 h)) (fun q h => h) trivial rfl hl.1 (Nat.le_of_ble_eq_true rfl) dL_shares_24 ⟨by decide, by decide⟩ (fun E ce q9 H1 locs1 hx9 _ _ _ _ _ => hx9.elim) (fun v H1 locs1 hv hk hS => ?_)
          have hP := hP.old hk
          subst hv
          refine lv_idiv hx hb dL_shares_27 (bits_ne hs0 hi c_19_2) ?_
          refine W.eq (g2 := F0 m 28 ls [.int (mPart am (nI s0))]) (congrArg (fun z => F0 m 28 ls [.int z]) ((if_neg (bits_ne hs0 hi c_19_2)).symm)) ?_
          refine lv_goto (tgt := 32) hx hb dL_shares_28 (by decide) ?_
          refine lv_istore (lv' := [(5, .int (mPart am (nI s0))), (4, .int (nI i)), (3, .int x1), (0, .ref (al 13)), (1, .int am), (2, .int (nI s0))]) hx hb dL_shares_32 hl (by decide) rfl (fun ls hl => ?_)
          refine lv_aload_n hx hb dL_shares_34 rfl (lv_at hl 3 rfl) ?_
          refine lv_iload hx hb dL_shares_35 (lv_at hl 1 rfl) ?_
          refine lv_iconst (v := 3) hx hb dL_shares_37 (by decide) ?_
          refine lv_idiv hx hb dL_shares_38 (by decide) ?_
          refine W.eq (g2 := F0 m 39 ls [.int (nI (i / 3)), .ref (al 13)]) (congrArg (fun z => F0 m 39 ls [.int z, .ref (al 13)]) (r3 i hi)) ?_
          refine lv_dup2_11 hx hb dL_shares_39 rfl rfl ?_
          refine xiald hx hb hE.1.1 (hP.arr 13 (by decide)) 0 rfl (k := (i / 3)) rfl (show _ < 5 by omega) (by decide) dL_shares_40 ?_
          refine lv_iload hx hb dL_shares_41 (lv_at hl 0 rfl) ?_
          refine lv_iadd hx hb dL_shares_43 ?_
          refine xiast hx hb hE.1.1 hS (hP.arr 13 (by decide)) (hP.oarr 13 (by decide)) 0 rfl (k := (i / 3)) rfl (show _ < 5 by omega) (by decide) dL_shares_44 (fun H1 locs1 he1 z1 oq1 hS => ?_)
          have hP := hP.put 13 (i / 3) (by decide) he1 oq1
          refine lv_iload_n hx hb dL_shares_45 rfl (lv_at hl 2 rfl) ?_
          refine lv_iload hx hb dL_shares_46 (lv_at hl 0 rfl) ?_
          refine lv_isub hx hb dL_shares_48 ?_
          refine lv_istore_n (lv' := [(3, .int (x1 - (mPart am (nI s0)))), (5, .int (mPart am (nI s0))), (4, .int (nI i)), (0, .ref (al 13)), (1, .int am), (2, .int (nI s0))]) hx hb dL_shares_49 rfl hl (by decide) rfl (fun ls hl => ?_)
          refine lv_iinc (v := (nI (i + 1))) (lv' := [(4, .int (nI (i + 1))), (3, .int (x1 - (mPart am (nI s0)))), (5, .int (mPart am (nI s0))), (0, .ref (al 13)), (1, .int am), (2, .int (nI s0))]) hx hb dL_shares_50 hl (k := 2) rfl (nI_1 _) (by decide) rfl (fun ls hl => ?_)
          refine lv_goto (tgt := 5) hx hb dL_shares_53 (by decide) ?_
          exact ih5 _ _ _ (y1 + mBit (nI s0) i) (i + 1) (by omega) (by omega) (hR1.shr hi hpt) (by rw [itr_step hi] at hT; exact hT) (by rw [itr_step hi] at hY; exact hY) (by rw [hX]; exact left_step (bit_01 hs0 hi) hpt) _ _ _ hS hP (lv_sub hl [0, 1, 3, 4, 5] rfl)
  exact L5 13 μ τ am 0 0 (by omega) (by omega) hR rfl rfl (by rw [Int32.mul_zero, Int32.sub_zero]) _ _ _ hS hP (lv_sub hl [0, 1, 2, 3, 4] rfl)

