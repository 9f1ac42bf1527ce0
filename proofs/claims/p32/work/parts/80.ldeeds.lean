theorem rbit_eq (r : Nat) : rbit r = (1 : Int32) <<< (nI r &&& 31) := rfl
theorem bit_self {s r : Nat} (hs : s < 4096) (hr : r < 12) (h : mBit (nI s) r = 1) : s ||| 2 ^ r = s := by
  rw [mBit_n hs hr] at h
  have h2 : s / 2 ^ r % 2 < 2 := Nat.mod_lt _ (by decide)
  have h1 : s / 2 ^ r % 2 = 1 := nIe (by omega) (by decide) h
  apply Nat.eq_of_testBit_eq
  intro i
  rw [Nat.testBit_or, Nat.testBit_two_pow]
  by_cases c : r = i
  · subst c
    have : s.testBit r = true := by
      rw [Nat.testBit_eq_decide_div_mod_eq]
      simp [h1]
    simp [this]
  · simp [c]
section LSEE
variable {μ τ : SG} {nT nW t r h j : Nat}
theorem LR.view4 (hR : LR μ τ nT nW) (hr : r < 12) (hh : h < 4) (x : Int32) : LR (up (up (up (up μ 12 j (μ 12 j + 1)) 13 (r / 3) (μ 13 (r / 3) - x)) 13 h ((up (up μ 12 j (μ 12 j + 1)) 13 (r / 3) (μ 13 (r / 3) - x)) 13 h + x)) 10 j (μ 10 j + x)) (mV4 τ j r h x) nT nW := by
  have e1 := (lr_b hR j).2.2
  have e2 := lr_m hR (j := r / 3) (by omega)
  have e4 := (lr_b hR j).1
  have s2 := (hR.v12 (t := j) (x := μ 12 j + 1)).m13 (t := r / 3) (x := μ 13 (r / 3) - x)
  have e3 := lr_m s2 (j := h) (by omega)
  have s4 := (s2.m13 (t := h) (x := (up (up μ 12 j (μ 12 j + 1)) 13 (r / 3) (μ 13 (r / 3) - x)) 13 h + x)).b10 (t := j) (x := μ 10 j + x)
  unfold mV4
  rw [← e1, ← e2, ← e3, ← e4]
  exact s4
theorem view0 {k : Nat} : up (up (up (up μ 12 j (μ 12 j + 0)) 13 k (μ 13 k - 0)) 13 h ((up (up μ 12 j (μ 12 j + 0)) 13 k (μ 13 k - 0)) 13 h + 0)) 10 j (μ 10 j + 0) = μ := by simp only [Int32.add_zero, Int32.sub_zero, up_id]
theorem LR.look (hR : LR μ τ nT nW) (ht : t < nT) (hr : r < 12) : LR (up (up μ 6 t (nI (r + 1))) 5 t (τ 13 t ||| ((1 : Int32) <<< (nI r &&& 31)))) (up (up τ 10 t (nI r)) 13 t (τ 13 t ||| ((1 : Int32) <<< (nI r &&& 31)))) nT nW := by
  obtain ⟨s, hs, es⟩ := lr_s4 hR t
  obtain ⟨b1, b2⟩ := bit_or hs hr
  have b1' : nI s ||| ((1 : Int32) <<< (nI r &&& 31)) = nI (s ||| 2 ^ r) := b1
  rw [es, b1']
  exact (hR.w6 ht (Or.inr ⟨r, hr, Or.inl ⟨rfl, rfl⟩⟩)).s5 b2
theorem LR.seen (hR : LR μ τ nT nW) (ht : t < nT) (hr : r < 12) (hb : mBit (τ 13 t) r = 1) : LR (up (up μ 6 t (nI (r + 1))) 5 t (τ 13 t ||| ((1 : Int32) <<< (nI r &&& 31)))) (mSee nW t r τ) nT nW := by
  have h1 := hR.look ht hr
  obtain ⟨s, hs, es⟩ := lr_s4 hR t
  have e : up (up τ 10 t (nI r)) 13 t (τ 13 t ||| ((1 : Int32) <<< (nI r &&& 31))) = up τ 10 t (nI r) := by
    have e2 : τ 13 t ||| ((1 : Int32) <<< (nI r &&& 31)) = (up τ 10 t (nI r)) 13 t := by
      rw [up_f (by decide)]
      rw [es] at hb ⊢
      exact (bit_or hs hr).1.trans (by rw [bit_self hs hr hb])
    rw [e2, up_id]
  rw [e] at h1
  unfold mSee
  rw [if_pos hb]
  exact h1
theorem bit01 (hR : LR μ τ nT nW) (hr : r < 12) : mBit (τ 13 t) r = 0 ∨ mBit (τ 13 t) r = 1 := by
  obtain ⟨s, hs, es⟩ := lr_s4 hR t
  rw [es]
  exact bit_01 hs hr
end LSEE
set_option maxHeartbeats 4000000 in
set_option maxRecDepth 100000 in
theorem kL_sees (l : Launch) (G : GE) (A : Nat → Prop) (al : Nat → Nat) (μ τ : SG) (nT nW : Nat) (hR : LR μ τ nT nW) (t r : Nat) (ht : t < nT) (hr9 : r < 12) : KM l G A yL_sees cL_sees 13 none (rmL 1 0 0) [.ref (al 0), .ref (al 5), .ref (al 6), .ref (al 9), .ref (al 10), .ref (al 12), .ref (al 13), .int (nI t), .int (nI r)] (PL G A al μ 14) (fun v H => v = none ∧ ∃ μ2, LR μ2 (mSee nW t r τ) nT nW ∧ PL G A al μ2 14 H) (fun _ _ => False) := by
  refine KM.of (by decide) (Nat.le_of_ble_eq_true rfl) ?_
  intro p e s m args below meth c F hP ls hl
  have hx := F.1.1
  have hb := F.1.2.1
  have hown := F.1.2.2.2.1
  have hts := F.1.2.2.2.2
  have hr := F.2.1
  have hlocks := F.2.2.1
  have hE := F.2.2.2.2.2.1
  have hA := F.2.2.2.2.2.2
  have hS : va_S A s.heap s.heap [] := va_S.rf
  have hl : lv_has ls 13 [(0, .ref (al 0)), (1, .ref (al 5)), (2, .ref (al 6)), (3, .ref (al 9)), (4, .ref (al 10)), (5, .ref (al 12)), (6, .ref (al 13)), (7, .int (nI t)), (8, .int (nI r))] := hl
  have hP := hP
  obtain ⟨h60, h10⟩ := lr_n60 hR
  refine lv_aload_n hx hb dL_sees_0 rfl (lv_at hl 2 rfl) ?_
  refine lv_iload hx hb dL_sees_1 (lv_at hl 7 rfl) ?_
  refine lv_iload hx hb dL_sees_3 (lv_at hl 8 rfl) ?_
  refine lv_iconst (v := 1) hx hb dL_sees_5 (by decide) ?_
  refine lv_iadd hx hb dL_sees_6 ?_
  refine W.eq (g2 := F0 m 7 ls [.int (nI (r + 1)), .int (nI t), .ref (al 6)]) (congrArg (fun z => F0 m 7 ls [.int z, .int (nI t), .ref (al 6)]) (nI_1 r)) ?_
  refine xiast hx hb hE.1.1 hS (hP.arr 6 (by decide)) (hP.oarr 6 (by decide)) 0 rfl (k := t) rfl (show _ < 60 by omega) (by decide) dL_sees_7 (fun H1 locs1 he1 z1 oq1 hS => ?_)
  have hP := hP.put 6 t (by decide) he1 oq1
  refine lv_aload_n hx hb dL_sees_8 rfl (lv_at hl 1 rfl) ?_
  refine lv_iload hx hb dL_sees_9 (lv_at hl 7 rfl) ?_
  refine xiald hx hb hE.1.1 (hP.arr 5 (by decide)) 0 rfl (k := t) rfl (show _ < 60 by omega) (by decide) dL_sees_11 ?_
  rw [show (up μ 6 t (nI (r + 1))) 5 t = μ 5 t from by simp [up]]
  refine W.eq (g2 := F0 m 12 ls [.int (τ 13 t)]) (congrArg (fun z => F0 m 12 ls [.int z]) (lr_s hR t)) ?_
  refine lv_iload hx hb dL_sees_12 (lv_at hl 8 rfl) ?_
  refine lv_ishr hx hb dL_sees_14 ?_
  refine lv_iconst (v := 1) hx hb dL_sees_15 (by decide) ?_
  refine lv_iand hx hb dL_sees_16 ?_
  refine lv_if_ne (tgt := 24) hx hb dL_sees_17 (by decide) (fun c_17_1 => ?_) (fun c_17_1 => ?_)
  · have hb9 : mBit (τ 13 t) r = 1 := (bit01 hR hr9).resolve_left c_17_1
    refine lv_iconst (v := 0) hx hb dL_sees_24 (by decide) ?_
    refine lv_istore (lv' := [(9, .int 0), (0, .ref (al 0)), (1, .ref (al 5)), (2, .ref (al 6)), (3, .ref (al 9)), (4, .ref (al 10)), (5, .ref (al 12)), (6, .ref (al 13)), (7, .int (nI t)), (8, .int (nI r))]) hx hb dL_sees_25 hl (by decide) rfl (fun ls hl => ?_)
    refine lv_aload_n hx hb dL_sees_27 rfl (lv_at hl 2 rfl) ?_
    refine lv_iload hx hb dL_sees_28 (lv_at hl 8 rfl) ?_
    refine lv_dup2_11 hx hb dL_sees_30 rfl rfl ?_
    refine xiald hx hb hE.1.1 (hP.arr 5 (by decide)) 0 rfl (k := t) rfl (show _ < 60 by omega) (by decide) dL_sees_31 ?_
    rw [show (up μ 6 t (nI (r + 1))) 5 t = μ 5 t from by simp [up]]
    refine W.eq (g2 := F0 m 32 ls [.int (τ 13 t), .int (nI t), .ref (al 5)]) (congrArg (fun z => F0 m 32 ls [.int z, .int (nI t), .ref (al 5)]) (lr_s hR t)) ?_
    refine lv_iconst (v := 1) hx hb dL_sees_32 (by decide) ?_
    refine lv_iload hx hb dL_sees_33 (lv_at hl 9 rfl) ?_
    refine lv_ishl hx hb dL_sees_35 ?_
    refine lv_ior hx hb dL_sees_36 ?_
    refine xiast hx hb hE.1.1 hS (hP.arr 5 (by decide)) (hP.oarr 5 (by decide)) 0 rfl (k := t) rfl (show _ < 60 by omega) (by decide) dL_sees_37 (fun H1 locs1 he1 z1 oq1 hS => ?_)
    have hP := hP.put 5 t (by decide) he1 oq1
    refine lv_iconst (v := 0) hx hb dL_sees_38 (by decide) ?_
    refine lv_istore (lv' := [(10, .int 0), (9, .int 0), (0, .ref (al 0)), (1, .ref (al 5)), (2, .ref (al 6)), (3, .ref (al 9)), (4, .ref (al 10)), (5, .ref (al 12)), (6, .ref (al 13)), (7, .int (nI t)), (8, .int (nI r))]) hx hb dL_sees_39 hl (by decide) rfl (fun ls hl => ?_)
    refine lv_iload hx hb dL_sees_41 (lv_at hl 0 rfl) ?_
    refine lv_aload_n hx hb dL_sees_43 rfl (lv_at hl 2 rfl) ?_
    refine lv_iconst (v := 1) hx hb dL_sees_44 (by decide) ?_
    refine xiald hx hb hE.1.1 (hP.arr 0 (by decide)) 0 rfl (k := 1) rfl (show _ < 7 by omega) (by decide) dL_sees_45 ?_
    rw [show (up (up μ 6 t (nI (r + 1))) 5 t ((τ 13 t) ||| (1 <<< ((nI r) &&& 31)))) 0 1 = μ 0 1 from by simp [up]]
    refine W.eq (g2 := F0 m 46 ls [.int (nI nW), .int 0]) (congrArg (fun z => F0 m 46 ls [.int z, .int 0]) (lr_n1 hR)) ?_
    refine lv_icmp_ge (tgt := 167) hx hb dL_sees_46 (by decide) (fun c_46_2 => ?_) (fun c_46_2 => ?_)
    · exact kvret hx hb hr hlocks hS (by decide) (by decide) dL_sees_167 (⟨rfl, _, hR.seen ht hr9 hb9, hP⟩)
    · refine lv_iload hx hb dL_sees_49 (lv_at hl 1 rfl) ?_
      refine lv_if_eq (tgt := 167) hx hb dL_sees_51 (by decide) (fun c_51_3 => ?_) (fun c_51_3 => ?_)
      · exact kvret hx hb hr hlocks hS (by decide) (by decide) dL_sees_167 (⟨rfl, _, hR.seen ht hr9 hb9, hP⟩)
      · exact absurd c_51_3 (by decide)
  · have hb9 : ¬ mBit (τ 13 t) r = 1 := by have h9 : mBit (τ 13 t) r = 0 := c_17_1; rw [h9]; decide
    refine lv_iconst (v := 1) hx hb dL_sees_20 (by decide) ?_
    refine lv_goto (tgt := 25) hx hb dL_sees_21 (by decide) ?_
    refine lv_istore (lv' := [(9, .int 1), (0, .ref (al 0)), (1, .ref (al 5)), (2, .ref (al 6)), (3, .ref (al 9)), (4, .ref (al 10)), (5, .ref (al 12)), (6, .ref (al 13)), (7, .int (nI t)), (8, .int (nI r))]) hx hb dL_sees_25 hl (by decide) rfl (fun ls hl => ?_)
    refine lv_aload_n hx hb dL_sees_27 rfl (lv_at hl 2 rfl) ?_
    refine lv_iload hx hb dL_sees_28 (lv_at hl 8 rfl) ?_
    refine lv_dup2_11 hx hb dL_sees_30 rfl rfl ?_
    refine xiald hx hb hE.1.1 (hP.arr 5 (by decide)) 0 rfl (k := t) rfl (show _ < 60 by omega) (by decide) dL_sees_31 ?_
    rw [show (up μ 6 t (nI (r + 1))) 5 t = μ 5 t from by simp [up]]
    refine W.eq (g2 := F0 m 32 ls [.int (τ 13 t), .int (nI t), .ref (al 5)]) (congrArg (fun z => F0 m 32 ls [.int z, .int (nI t), .ref (al 5)]) (lr_s hR t)) ?_
    refine lv_iconst (v := 1) hx hb dL_sees_32 (by decide) ?_
    refine lv_iload hx hb dL_sees_33 (lv_at hl 9 rfl) ?_
    refine lv_ishl hx hb dL_sees_35 ?_
    refine lv_ior hx hb dL_sees_36 ?_
    refine xiast hx hb hE.1.1 hS (hP.arr 5 (by decide)) (hP.oarr 5 (by decide)) 0 rfl (k := t) rfl (show _ < 60 by omega) (by decide) dL_sees_37 (fun H1 locs1 he1 z1 oq1 hS => ?_)
    have hP := hP.put 5 t (by decide) he1 oq1
    refine lv_iconst (v := 0) hx hb dL_sees_38 (by decide) ?_
    refine lv_istore (lv' := [(10, .int 0), (9, .int 1), (0, .ref (al 0)), (1, .ref (al 5)), (2, .ref (al 6)), (3, .ref (al 9)), (4, .ref (al 10)), (5, .ref (al 12)), (6, .ref (al 13)), (7, .int (nI t)), (8, .int (nI r))]) hx hb dL_sees_39 hl (by decide) rfl (fun ls hl => ?_)
    have L41 : ∀ (n9 : Nat) (μ1 τ1 : SG) (j : Nat) (h1 : j ≤ nW) (h2 : nW < j + n9) (hR1 : LR μ1 τ1 nT nW) (hT : itr (mView r) j (nW - j) τ1 = mSee nW t r τ) (H : Heap) (locs : List Loc) (ls : Array Slot), va_S A s.heap H locs → PL G A al μ1 14 H → lv_has ls 13 [(10, .int (nI j)), (9, .int 1), (7, .int (nI t)), (8, .int (nI r)), (0, .ref (al 0)), (1, .ref (al 5)), (2, .ref (al 6)), (3, .ref (al 9)), (4, .ref (al 10)), (5, .ref (al 12)), (6, .ref (al 13))] → W p l e (rmL 1 0 0) s m args below meth c H locs 0 0 (KE below A (fun v H => v = none ∧ ∃ μ2, LR μ2 (mSee nW t r τ) nT nW ∧ PL G A al μ2 14 H) (fun _ _ => False) args s (rmL 1 0 0)) (F0 m 41 ls []) := by
      intro n9
      induction n9 with
      | zero =>
        intro μ1 τ1 j h1 h2 hR1 hT H locs ls hS hP hl
        exact absurd True.intro (by omega)
      | succ n9 ih41 =>
        intro μ1 τ1 j h1 h2 hR1 hT H locs ls hS hP hl
        refine lv_iload hx hb dL_sees_41 (lv_at hl 0 rfl) ?_
        refine lv_aload_n hx hb dL_sees_43 rfl (lv_at hl 4 rfl) ?_
        refine lv_iconst (v := 1) hx hb dL_sees_44 (by decide) ?_
        refine xiald hx hb hE.1.1 (hP.arr 0 (by decide)) 0 rfl (k := 1) rfl (show _ < 7 by omega) (by decide) dL_sees_45 ?_
        refine W.eq (g2 := F0 m 46 ls [.int (nI nW), .int (nI j)]) (congrArg (fun z => F0 m 46 ls [.int z, .int (nI j)]) (lr_n1 hR1)) ?_
        refine lv_icmp_ge (tgt := 167) hx hb dL_sees_46 (by decide) (fun c_46_4 => ?_) (fun c_46_4 => ?_)
        · have ej := nI_eqle h1 (by omega) c_46_4
          rw [ej, itr_end] at hT
          exact kvret hx hb hr hlocks hS (by decide) (by decide) dL_sees_167 (⟨rfl, _, by rw [← hT]; exact hR1, hP⟩)
        · have hj := nI_lt' h1 (by omega) c_46_4
          obtain ⟨h, r8, le8, fe8, hh, -, -, -, -, eh, -⟩ := lr_a hR1 hj
          refine lv_iload hx hb dL_sees_49 (lv_at hl 1 rfl) ?_
          refine lv_if_eq (tgt := 167) hx hb dL_sees_51 (by decide) (fun c_51_5 => ?_) (fun c_51_5 => ?_)
          · exact absurd c_51_5 (by decide)
          · refine lv_aload_n hx hb dL_sees_54 rfl (lv_at hl 7 rfl) ?_
            refine lv_iload hx hb dL_sees_55 (lv_at hl 0 rfl) ?_
            refine xiald hx hb hE.1.1 (hP.arr 9 (by decide)) 0 rfl (k := j) rfl (show _ < 10 by omega) (by decide) dL_sees_57 ?_
            refine lv_iconst (v := 4) hx hb dL_sees_58 (by decide) ?_
            refine lv_idiv hx hb dL_sees_59 (by decide) ?_
            refine lv_bipush (v := 16) hx hb dL_sees_60 (by decide) ?_
            refine lv_irem hx hb dL_sees_62 (by decide) ?_
            refine W.eq (g2 := F0 m 63 ls [.int (τ1 18 j)]) (congrArg (fun z => F0 m 63 ls [.int z]) (lr_ar hR1 hj)) ?_
            refine lv_iload hx hb dL_sees_63 (lv_at hl 3 rfl) ?_
            refine lv_icmp_ne (tgt := 72) hx hb dL_sees_65 (by decide) (fun c_65_6 => ?_) (fun c_65_6 => ?_)
            · refine lv_iconst (v := 0) hx hb dL_sees_72 (by decide) ?_
              refine lv_istore (lv' := [(11, .int 0), (10, .int (nI j)), (9, .int 1), (7, .int (nI t)), (8, .int (nI r)), (0, .ref (al 0)), (1, .ref (al 5)), (2, .ref (al 6)), (3, .ref (al 9)), (4, .ref (al 10)), (5, .ref (al 12)), (6, .ref (al 13))]) hx hb dL_sees_73 hl (by decide) rfl (fun ls hl => ?_)
              refine lv_iload hx hb dL_sees_75 (lv_at hl 0 rfl) ?_
              refine lv_if_eq (tgt := 104) hx hb dL_sees_77 (by decide) (fun c_77_7 => ?_) (fun c_77_7 => ?_)
              · refine lv_iconst (v := 0) hx hb dL_sees_104 (by decide) ?_
                refine lv_istore (lv' := [(12, .int 0), (11, .int 0), (10, .int (nI j)), (9, .int 1), (7, .int (nI t)), (8, .int (nI r)), (0, .ref (al 0)), (1, .ref (al 5)), (2, .ref (al 6)), (3, .ref (al 9)), (4, .ref (al 10)), (5, .ref (al 12)), (6, .ref (al 13))]) hx hb dL_sees_105 hl (by decide) rfl (fun ls hl => ?_)
                refine lv_aload hx hb dL_sees_107 (lv_at hl 11 rfl) ?_
                refine lv_iload hx hb dL_sees_109 (lv_at hl 2 rfl) ?_
                refine lv_dup2_11 hx hb dL_sees_111 rfl rfl ?_
                refine xiald hx hb hE.1.1 (hP.arr 12 (by decide)) 0 rfl (k := j) rfl (show _ < 10 by omega) (by decide) dL_sees_112 ?_
                refine lv_iload hx hb dL_sees_113 (lv_at hl 1 rfl) ?_
                refine lv_if_eq (tgt := 122) hx hb dL_sees_115 (by decide) (fun c_115_8 => ?_) (fun c_115_8 => ?_)
                · refine lv_iconst (v := 0) hx hb dL_sees_122 (by decide) ?_
                  refine lv_iadd hx hb dL_sees_123 ?_
                  refine xiast hx hb hE.1.1 hS (hP.arr 12 (by decide)) (hP.oarr 12 (by decide)) 0 rfl (k := j) rfl (show _ < 10 by omega) (by decide) dL_sees_124 (fun H1 locs1 he1 z1 oq1 hS => ?_)
                  have hP := hP.put 12 j (by decide) he1 oq1
                  refine lv_aload hx hb dL_sees_125 (lv_at hl 12 rfl) ?_
                  refine lv_iload hx hb dL_sees_127 (lv_at hl 5 rfl) ?_
                  refine lv_iconst (v := 3) hx hb dL_sees_129 (by decide) ?_
                  refine lv_idiv hx hb dL_sees_130 (by decide) ?_
                  refine W.eq (g2 := F0 m 131 ls [.int (nI (r / 3)), .ref (al 13)]) (congrArg (fun z => F0 m 131 ls [.int z, .ref (al 13)]) (r3 r hr9)) ?_
                  refine lv_dup2_11 hx hb dL_sees_131 rfl rfl ?_
                  refine xiald hx hb hE.1.1 (hP.arr 13 (by decide)) 0 rfl (k := (r / 3)) rfl (show _ < 5 by omega) (by decide) dL_sees_132 ?_
                  rw [show (up μ1 12 j ((μ1 12 j) + 0)) 13 (r / 3) = μ1 13 (r / 3) from by simp [up]]
                  refine lv_iload hx hb dL_sees_133 (lv_at hl 0 rfl) ?_
                  refine lv_isub hx hb dL_sees_135 ?_
                  refine xiast hx hb hE.1.1 hS (hP.arr 13 (by decide)) (hP.oarr 13 (by decide)) 0 rfl (k := (r / 3)) rfl (show _ < 5 by omega) (by decide) dL_sees_136 (fun H1 locs1 he1 z1 oq1 hS => ?_)
                  have hP := hP.put 13 (r / 3) (by decide) he1 oq1
                  refine lv_aload hx hb dL_sees_137 (lv_at hl 12 rfl) ?_
                  refine lv_aload_n hx hb dL_sees_139 rfl (lv_at hl 9 rfl) ?_
                  refine lv_iload hx hb dL_sees_140 (lv_at hl 2 rfl) ?_
                  refine xiald hx hb hE.1.1 (hP.arr 9 (by decide)) 0 rfl (k := j) rfl (show _ < 10 by omega) (by decide) dL_sees_142 ?_
                  rw [show (up (up μ1 12 j ((μ1 12 j) + 0)) 13 (r / 3) ((μ1 13 (r / 3)) - 0)) 9 j = μ1 9 j from by simp [up]]
                  refine lv_iconst (v := 4) hx hb dL_sees_143 (by decide) ?_
                  refine lv_irem hx hb dL_sees_144 (by decide) ?_
                  refine W.eq (g2 := F0 m 145 ls [.int (nI h), .ref (al 13)]) (congrArg (fun z => F0 m 145 ls [.int z, .ref (al 13)]) ((lr_aho hR1 hj).trans eh)) ?_
                  refine lv_dup2_11 hx hb dL_sees_145 rfl rfl ?_
                  refine xiald hx hb hE.1.1 (hP.arr 13 (by decide)) 0 rfl (k := h) rfl (show _ < 5 by omega) (by decide) dL_sees_146 ?_
                  refine lv_iload hx hb dL_sees_147 (lv_at hl 0 rfl) ?_
                  refine lv_iadd hx hb dL_sees_149 ?_
                  refine xiast hx hb hE.1.1 hS (hP.arr 13 (by decide)) (hP.oarr 13 (by decide)) 0 rfl (k := h) rfl (show _ < 5 by omega) (by decide) dL_sees_150 (fun H1 locs1 he1 z1 oq1 hS => ?_)
                  have hP := hP.put 13 h (by decide) he1 oq1
                  refine lv_aload hx hb dL_sees_151 (lv_at hl 10 rfl) ?_
                  refine lv_iload hx hb dL_sees_153 (lv_at hl 2 rfl) ?_
                  refine lv_dup2_11 hx hb dL_sees_155 rfl rfl ?_
                  refine xiald hx hb hE.1.1 (hP.arr 10 (by decide)) 0 rfl (k := j) rfl (show _ < 10 by omega) (by decide) dL_sees_156 ?_
                  rw [show (up (up (up μ1 12 j ((μ1 12 j) + 0)) 13 (r / 3) ((μ1 13 (r / 3)) - 0)) 13 h (((up (up μ1 12 j ((μ1 12 j) + 0)) 13 (r / 3) ((μ1 13 (r / 3)) - 0)) 13 h) + 0)) 10 j = μ1 10 j from by simp [up]]
                  refine lv_iload hx hb dL_sees_157 (lv_at hl 0 rfl) ?_
                  refine lv_iadd hx hb dL_sees_159 ?_
                  refine xiast hx hb hE.1.1 hS (hP.arr 10 (by decide)) (hP.oarr 10 (by decide)) 0 rfl (k := j) rfl (show _ < 10 by omega) (by decide) dL_sees_160 (fun H1 locs1 he1 z1 oq1 hS => ?_)
                  have hP := hP.put 10 j (by decide) he1 oq1
                  refine lv_iinc (v := (nI (j + 1))) (lv' := [(10, .int (nI (j + 1))), (12, .int 0), (11, .int 0), (9, .int 1), (7, .int (nI t)), (8, .int (nI r)), (0, .ref (al 0)), (1, .ref (al 5)), (2, .ref (al 6)), (3, .ref (al 9)), (4, .ref (al 10)), (5, .ref (al 12)), (6, .ref (al 13))]) hx hb dL_sees_161 hl (k := 2) rfl (nI_1 _) (by decide) rfl (fun ls hl => ?_)
                  refine lv_goto (tgt := 41) hx hb dL_sees_164 (by decide) ?_
                  exact ih41 μ1 τ1 (j + 1) (by omega) (by omega) hR1 (by rw [itr_step hj, show mView r j τ1 = τ1 from if_neg c_65_6] at hT; exact hT) _ _ _ hS (by rw [view0] at hP; exact hP) (lv_sub hl [0, 3, 4, 5, 6, 7, 8, 9, 10, 11, 12] rfl)
                · exact absurd c_115_8 (by decide)
              · exact absurd c_77_7 (by decide)
            · refine lv_iconst (v := 1) hx hb dL_sees_68 (by decide) ?_
              refine lv_goto (tgt := 73) hx hb dL_sees_69 (by decide) ?_
              refine lv_istore (lv' := [(11, .int 1), (10, .int (nI j)), (9, .int 1), (7, .int (nI t)), (8, .int (nI r)), (0, .ref (al 0)), (1, .ref (al 5)), (2, .ref (al 6)), (3, .ref (al 9)), (4, .ref (al 10)), (5, .ref (al 12)), (6, .ref (al 13))]) hx hb dL_sees_73 hl (by decide) rfl (fun ls hl => ?_)
              refine lv_iload hx hb dL_sees_75 (lv_at hl 0 rfl) ?_
              refine lv_if_eq (tgt := 104) hx hb dL_sees_77 (by decide) (fun c_77_9 => ?_) (fun c_77_9 => ?_)
              · exact absurd c_77_9 (by decide)
              · refine lv_aload_n hx hb dL_sees_80 rfl (lv_at hl 8 rfl) ?_
                refine lv_iload hx hb dL_sees_81 (lv_at hl 1 rfl) ?_
                refine xiald hx hb hE.1.1 (hP.arr 9 (by decide)) 0 rfl (k := j) rfl (show _ < 10 by omega) (by decide) dL_sees_83 ?_
                refine lv_bipush (v := 64) hx hb dL_sees_84 (by decide) ?_
                refine lv_idiv hx hb dL_sees_86 (by decide) ?_
                refine lv_iconst (v := 2) hx hb dL_sees_87 (by decide) ?_
                refine lv_irem hx hb dL_sees_88 (by decide) ?_
                refine W.eq (g2 := F0 m 89 ls [.int (τ1 19 j)]) (congrArg (fun z => F0 m 89 ls [.int z]) (lr_ale hR1 hj)) ?_
                refine lv_iconst (v := 1) hx hb dL_sees_89 (by decide) ?_
                refine lv_icmp_ne (tgt := 104) hx hb dL_sees_90 (by decide) (fun c_90_10 => ?_) (fun c_90_10 => ?_)
                · refine lv_iconst (v := 0) hx hb dL_sees_104 (by decide) ?_
                  refine lv_istore (lv' := [(12, .int 0), (11, .int 1), (10, .int (nI j)), (9, .int 1), (7, .int (nI t)), (8, .int (nI r)), (0, .ref (al 0)), (1, .ref (al 5)), (2, .ref (al 6)), (3, .ref (al 9)), (4, .ref (al 10)), (5, .ref (al 12)), (6, .ref (al 13))]) hx hb dL_sees_105 hl (by decide) rfl (fun ls hl => ?_)
                  refine lv_aload hx hb dL_sees_107 (lv_at hl 11 rfl) ?_
                  refine lv_iload hx hb dL_sees_109 (lv_at hl 2 rfl) ?_
                  refine lv_dup2_11 hx hb dL_sees_111 rfl rfl ?_
                  refine xiald hx hb hE.1.1 (hP.arr 12 (by decide)) 0 rfl (k := j) rfl (show _ < 10 by omega) (by decide) dL_sees_112 ?_
                  refine lv_iload hx hb dL_sees_113 (lv_at hl 1 rfl) ?_
                  refine lv_if_eq (tgt := 122) hx hb dL_sees_115 (by decide) (fun c_115_11 => ?_) (fun c_115_11 => ?_)
                  · exact absurd c_115_11 (by decide)
                  · refine lv_iconst (v := 1) hx hb dL_sees_118 (by decide) ?_
                    refine lv_goto (tgt := 123) hx hb dL_sees_119 (by decide) ?_
                    refine lv_iadd hx hb dL_sees_123 ?_
                    refine xiast hx hb hE.1.1 hS (hP.arr 12 (by decide)) (hP.oarr 12 (by decide)) 0 rfl (k := j) rfl (show _ < 10 by omega) (by decide) dL_sees_124 (fun H1 locs1 he1 z1 oq1 hS => ?_)
                    have hP := hP.put 12 j (by decide) he1 oq1
                    refine lv_aload hx hb dL_sees_125 (lv_at hl 12 rfl) ?_
                    refine lv_iload hx hb dL_sees_127 (lv_at hl 5 rfl) ?_
                    refine lv_iconst (v := 3) hx hb dL_sees_129 (by decide) ?_
                    refine lv_idiv hx hb dL_sees_130 (by decide) ?_
                    refine W.eq (g2 := F0 m 131 ls [.int (nI (r / 3)), .ref (al 13)]) (congrArg (fun z => F0 m 131 ls [.int z, .ref (al 13)]) (r3 r hr9)) ?_
                    refine lv_dup2_11 hx hb dL_sees_131 rfl rfl ?_
                    refine xiald hx hb hE.1.1 (hP.arr 13 (by decide)) 0 rfl (k := (r / 3)) rfl (show _ < 5 by omega) (by decide) dL_sees_132 ?_
                    rw [show (up μ1 12 j ((μ1 12 j) + 1)) 13 (r / 3) = μ1 13 (r / 3) from by simp [up]]
                    refine lv_iload hx hb dL_sees_133 (lv_at hl 0 rfl) ?_
                    refine lv_isub hx hb dL_sees_135 ?_
                    refine xiast hx hb hE.1.1 hS (hP.arr 13 (by decide)) (hP.oarr 13 (by decide)) 0 rfl (k := (r / 3)) rfl (show _ < 5 by omega) (by decide) dL_sees_136 (fun H1 locs1 he1 z1 oq1 hS => ?_)
                    have hP := hP.put 13 (r / 3) (by decide) he1 oq1
                    refine lv_aload hx hb dL_sees_137 (lv_at hl 12 rfl) ?_
                    refine lv_aload_n hx hb dL_sees_139 rfl (lv_at hl 9 rfl) ?_
                    refine lv_iload hx hb dL_sees_140 (lv_at hl 2 rfl) ?_
                    refine xiald hx hb hE.1.1 (hP.arr 9 (by decide)) 0 rfl (k := j) rfl (show _ < 10 by omega) (by decide) dL_sees_142 ?_
                    rw [show (up (up μ1 12 j ((μ1 12 j) + 1)) 13 (r / 3) ((μ1 13 (r / 3)) - 0)) 9 j = μ1 9 j from by simp [up]]
                    refine lv_iconst (v := 4) hx hb dL_sees_143 (by decide) ?_
                    refine lv_irem hx hb dL_sees_144 (by decide) ?_
                    refine W.eq (g2 := F0 m 145 ls [.int (nI h), .ref (al 13)]) (congrArg (fun z => F0 m 145 ls [.int z, .ref (al 13)]) ((lr_aho hR1 hj).trans eh)) ?_
                    refine lv_dup2_11 hx hb dL_sees_145 rfl rfl ?_
                    refine xiald hx hb hE.1.1 (hP.arr 13 (by decide)) 0 rfl (k := h) rfl (show _ < 5 by omega) (by decide) dL_sees_146 ?_
                    refine lv_iload hx hb dL_sees_147 (lv_at hl 0 rfl) ?_
                    refine lv_iadd hx hb dL_sees_149 ?_
                    refine xiast hx hb hE.1.1 hS (hP.arr 13 (by decide)) (hP.oarr 13 (by decide)) 0 rfl (k := h) rfl (show _ < 5 by omega) (by decide) dL_sees_150 (fun H1 locs1 he1 z1 oq1 hS => ?_)
                    have hP := hP.put 13 h (by decide) he1 oq1
                    refine lv_aload hx hb dL_sees_151 (lv_at hl 10 rfl) ?_
                    refine lv_iload hx hb dL_sees_153 (lv_at hl 2 rfl) ?_
                    refine lv_dup2_11 hx hb dL_sees_155 rfl rfl ?_
                    refine xiald hx hb hE.1.1 (hP.arr 10 (by decide)) 0 rfl (k := j) rfl (show _ < 10 by omega) (by decide) dL_sees_156 ?_
                    rw [show (up (up (up μ1 12 j ((μ1 12 j) + 1)) 13 (r / 3) ((μ1 13 (r / 3)) - 0)) 13 h (((up (up μ1 12 j ((μ1 12 j) + 1)) 13 (r / 3) ((μ1 13 (r / 3)) - 0)) 13 h) + 0)) 10 j = μ1 10 j from by simp [up]]
                    refine lv_iload hx hb dL_sees_157 (lv_at hl 0 rfl) ?_
                    refine lv_iadd hx hb dL_sees_159 ?_
                    refine xiast hx hb hE.1.1 hS (hP.arr 10 (by decide)) (hP.oarr 10 (by decide)) 0 rfl (k := j) rfl (show _ < 10 by omega) (by decide) dL_sees_160 (fun H1 locs1 he1 z1 oq1 hS => ?_)
                    have hP := hP.put 10 j (by decide) he1 oq1
                    refine lv_iinc (v := (nI (j + 1))) (lv' := [(10, .int (nI (j + 1))), (12, .int 0), (11, .int 1), (9, .int 1), (7, .int (nI t)), (8, .int (nI r)), (0, .ref (al 0)), (1, .ref (al 5)), (2, .ref (al 6)), (3, .ref (al 9)), (4, .ref (al 10)), (5, .ref (al 12)), (6, .ref (al 13))]) hx hb dL_sees_161 hl (k := 2) rfl (nI_1 _) (by decide) rfl (fun ls hl => ?_)
                    refine lv_goto (tgt := 41) hx hb dL_sees_164 (by decide) ?_
                    exact ih41 _ _ (j + 1) (by omega) (by omega) (hR1.view4 (j := j) hr9 hh 0) (by rw [itr_step hj, mView_eq (x := 0) c_65_6 hh eh (if_pos (Classical.not_not.mp (fun z => c_90_10 ((lr_le01 hR1 hj).mp z))))] at hT; exact hT) _ _ _ hS hP (lv_sub hl [0, 3, 4, 5, 6, 7, 8, 9, 10, 11, 12] rfl)
                · refine lv_aload_n hx hb dL_sees_93 rfl (lv_at hl 8 rfl) ?_
                  refine lv_iload hx hb dL_sees_94 (lv_at hl 1 rfl) ?_
                  refine xiald hx hb hE.1.1 (hP.arr 9 (by decide)) 0 rfl (k := j) rfl (show _ < 10 by omega) (by decide) dL_sees_96 ?_
                  refine lv_sipush (v := 128) hx hb dL_sees_97 (by decide) ?_
                  refine lv_idiv hx hb dL_sees_100 (by decide) ?_
                  refine W.eq (g2 := F0 m 101 ls [.int (τ1 20 j)]) (congrArg (fun z => F0 m 101 ls [.int z]) (lr_afe hR1 hj c_90_10)) ?_
                  refine lv_goto (tgt := 105) hx hb dL_sees_101 (by decide) ?_
                  refine lv_istore (lv' := [(12, .int (τ1 20 j)), (11, .int 1), (10, .int (nI j)), (9, .int 1), (7, .int (nI t)), (8, .int (nI r)), (0, .ref (al 0)), (1, .ref (al 5)), (2, .ref (al 6)), (3, .ref (al 9)), (4, .ref (al 10)), (5, .ref (al 12)), (6, .ref (al 13))]) hx hb dL_sees_105 hl (by decide) rfl (fun ls hl => ?_)
                  refine lv_aload hx hb dL_sees_107 (lv_at hl 11 rfl) ?_
                  refine lv_iload hx hb dL_sees_109 (lv_at hl 2 rfl) ?_
                  refine lv_dup2_11 hx hb dL_sees_111 rfl rfl ?_
                  refine xiald hx hb hE.1.1 (hP.arr 12 (by decide)) 0 rfl (k := j) rfl (show _ < 10 by omega) (by decide) dL_sees_112 ?_
                  refine lv_iload hx hb dL_sees_113 (lv_at hl 1 rfl) ?_
                  refine lv_if_eq (tgt := 122) hx hb dL_sees_115 (by decide) (fun c_115_12 => ?_) (fun c_115_12 => ?_)
                  · exact absurd c_115_12 (by decide)
                  · refine lv_iconst (v := 1) hx hb dL_sees_118 (by decide) ?_
                    refine lv_goto (tgt := 123) hx hb dL_sees_119 (by decide) ?_
                    refine lv_iadd hx hb dL_sees_123 ?_
                    refine xiast hx hb hE.1.1 hS (hP.arr 12 (by decide)) (hP.oarr 12 (by decide)) 0 rfl (k := j) rfl (show _ < 10 by omega) (by decide) dL_sees_124 (fun H1 locs1 he1 z1 oq1 hS => ?_)
                    have hP := hP.put 12 j (by decide) he1 oq1
                    refine lv_aload hx hb dL_sees_125 (lv_at hl 12 rfl) ?_
                    refine lv_iload hx hb dL_sees_127 (lv_at hl 5 rfl) ?_
                    refine lv_iconst (v := 3) hx hb dL_sees_129 (by decide) ?_
                    refine lv_idiv hx hb dL_sees_130 (by decide) ?_
                    refine W.eq (g2 := F0 m 131 ls [.int (nI (r / 3)), .ref (al 13)]) (congrArg (fun z => F0 m 131 ls [.int z, .ref (al 13)]) (r3 r hr9)) ?_
                    refine lv_dup2_11 hx hb dL_sees_131 rfl rfl ?_
                    refine xiald hx hb hE.1.1 (hP.arr 13 (by decide)) 0 rfl (k := (r / 3)) rfl (show _ < 5 by omega) (by decide) dL_sees_132 ?_
                    rw [show (up μ1 12 j ((μ1 12 j) + 1)) 13 (r / 3) = μ1 13 (r / 3) from by simp [up]]
                    refine lv_iload hx hb dL_sees_133 (lv_at hl 0 rfl) ?_
                    refine lv_isub hx hb dL_sees_135 ?_
                    refine xiast hx hb hE.1.1 hS (hP.arr 13 (by decide)) (hP.oarr 13 (by decide)) 0 rfl (k := (r / 3)) rfl (show _ < 5 by omega) (by decide) dL_sees_136 (fun H1 locs1 he1 z1 oq1 hS => ?_)
                    have hP := hP.put 13 (r / 3) (by decide) he1 oq1
                    refine lv_aload hx hb dL_sees_137 (lv_at hl 12 rfl) ?_
                    refine lv_aload_n hx hb dL_sees_139 rfl (lv_at hl 9 rfl) ?_
                    refine lv_iload hx hb dL_sees_140 (lv_at hl 2 rfl) ?_
                    refine xiald hx hb hE.1.1 (hP.arr 9 (by decide)) 0 rfl (k := j) rfl (show _ < 10 by omega) (by decide) dL_sees_142 ?_
                    rw [show (up (up μ1 12 j ((μ1 12 j) + 1)) 13 (r / 3) ((μ1 13 (r / 3)) - (τ1 20 j))) 9 j = μ1 9 j from by simp [up]]
                    refine lv_iconst (v := 4) hx hb dL_sees_143 (by decide) ?_
                    refine lv_irem hx hb dL_sees_144 (by decide) ?_
                    refine W.eq (g2 := F0 m 145 ls [.int (nI h), .ref (al 13)]) (congrArg (fun z => F0 m 145 ls [.int z, .ref (al 13)]) ((lr_aho hR1 hj).trans eh)) ?_
                    refine lv_dup2_11 hx hb dL_sees_145 rfl rfl ?_
                    refine xiald hx hb hE.1.1 (hP.arr 13 (by decide)) 0 rfl (k := h) rfl (show _ < 5 by omega) (by decide) dL_sees_146 ?_
                    refine lv_iload hx hb dL_sees_147 (lv_at hl 0 rfl) ?_
                    refine lv_iadd hx hb dL_sees_149 ?_
                    refine xiast hx hb hE.1.1 hS (hP.arr 13 (by decide)) (hP.oarr 13 (by decide)) 0 rfl (k := h) rfl (show _ < 5 by omega) (by decide) dL_sees_150 (fun H1 locs1 he1 z1 oq1 hS => ?_)
                    have hP := hP.put 13 h (by decide) he1 oq1
                    refine lv_aload hx hb dL_sees_151 (lv_at hl 10 rfl) ?_
                    refine lv_iload hx hb dL_sees_153 (lv_at hl 2 rfl) ?_
                    refine lv_dup2_11 hx hb dL_sees_155 rfl rfl ?_
                    refine xiald hx hb hE.1.1 (hP.arr 10 (by decide)) 0 rfl (k := j) rfl (show _ < 10 by omega) (by decide) dL_sees_156 ?_
                    rw [show (up (up (up μ1 12 j ((μ1 12 j) + 1)) 13 (r / 3) ((μ1 13 (r / 3)) - (τ1 20 j))) 13 h (((up (up μ1 12 j ((μ1 12 j) + 1)) 13 (r / 3) ((μ1 13 (r / 3)) - (τ1 20 j))) 13 h) + (τ1 20 j))) 10 j = μ1 10 j from by simp [up]]
                    refine lv_iload hx hb dL_sees_157 (lv_at hl 0 rfl) ?_
                    refine lv_iadd hx hb dL_sees_159 ?_
                    refine xiast hx hb hE.1.1 hS (hP.arr 10 (by decide)) (hP.oarr 10 (by decide)) 0 rfl (k := j) rfl (show _ < 10 by omega) (by decide) dL_sees_160 (fun H1 locs1 he1 z1 oq1 hS => ?_)
                    have hP := hP.put 10 j (by decide) he1 oq1
                    refine lv_iinc (v := (nI (j + 1))) (lv' := [(10, .int (nI (j + 1))), (12, .int (τ1 20 j)), (11, .int 1), (9, .int 1), (7, .int (nI t)), (8, .int (nI r)), (0, .ref (al 0)), (1, .ref (al 5)), (2, .ref (al 6)), (3, .ref (al 9)), (4, .ref (al 10)), (5, .ref (al 12)), (6, .ref (al 13))]) hx hb dL_sees_161 hl (k := 2) rfl (nI_1 _) (by decide) rfl (fun ls hl => ?_)
                    refine lv_goto (tgt := 41) hx hb dL_sees_164 (by decide) ?_
                    exact ih41 _ _ (j + 1) (by omega) (by omega) (hR1.view4 (j := j) hr9 hh (τ1 20 j)) (by rw [itr_step hj, mView_eq (x := τ1 20 j) c_65_6 hh eh (if_neg (by rw [c_90_10]; decide))] at hT; exact hT) _ _ _ hS hP (lv_sub hl [0, 3, 4, 5, 6, 7, 8, 9, 10, 11, 12] rfl)
    exact L41 (nW + 1) _ _ 0 (by omega) (by omega) (hR.look ht hr9) (if_neg hb9).symm _ _ _ hS hP (lv_sub hl [0, 1, 9, 10, 2, 3, 4, 5, 6, 7, 8] rfl)

theorem mQ_neg {τ : SG} {n r : Nat} {pp : Int32} (h : mQ τ n r pp ≠ -1) (hn : n ≤ 80) : ¬ mQ τ n r pp < 0 := by
  obtain ⟨i, hi, e, -⟩ := mQ_some h
  rw [e]
  exact nI_pos (by omega)
set_option maxHeartbeats 4000000 in
set_option maxRecDepth 100000 in
theorem kL_letsIn (l : Launch) (G : GE) (A : Nat → Prop) (al : Nat → Nat) (μ τ : SG) (nT nW : Nat) (hR : LR μ τ nT nW) (r : Nat) (hr9 : r < 12) : KM l G A yL_letsIn cL_letsIn 12 none (rmL 2 0 0) [.ref (al 0), .ref (al 3), .ref (al 5), .ref (al 6), .ref (al 7), .ref (al 8), .ref (al 9), .ref (al 10), .ref (al 12), .ref (al 13), .int (nI r)] (PL G A al μ 14) (fun v H => v = none ∧ ∃ μ2, LR μ2 (mLet nW nT r nT τ) nT nW ∧ PL G A al μ2 14 H) (fun _ _ => False) := by
  refine KM.of (by decide) (Nat.le_of_ble_eq_true rfl) ?_
  intro p e s m args below meth c F hP ls hl
  have hx := F.1.1
  have hb := F.1.2.1
  have hown := F.1.2.2.2.1
  have hts := F.1.2.2.2.2
  have hr := F.2.1
  have hlocks := F.2.2.1
  have hE := F.2.2.2.2.2.1
  have hA := F.2.2.2.2.2.2
  have hS : va_S A s.heap s.heap [] := va_S.rf
  have hl : lv_has ls 12 [(0, .ref (al 0)), (1, .ref (al 3)), (2, .ref (al 5)), (3, .ref (al 6)), (4, .ref (al 7)), (5, .ref (al 8)), (6, .ref (al 9)), (7, .ref (al 10)), (8, .ref (al 12)), (9, .ref (al 13)), (10, .int (nI r))] := hl
  have hP := hP
  obtain ⟨h60, h10⟩ := lr_n60 hR
  refine lv_aload_n hx hb dL_letsIn_0 rfl (lv_at hl 0 rfl) ?_
  refine lv_aload_n hx hb dL_letsIn_1 rfl (lv_at hl 1 rfl) ?_
  refine lv_aload_n hx hb dL_letsIn_2 rfl (lv_at hl 3 rfl) ?_
  refine lv_aload hx hb dL_letsIn_3 (lv_at hl 4 rfl) ?_
  refine lv_iload hx hb dL_letsIn_5 (lv_at hl 10 rfl) ?_
  refine lv_iconst (v := (-1)) hx hb dL_letsIn_7 (by decide) ?_
  refine kcallS (n := 6) F (kL_queued l G (fun q => s.heap.size ≤ q) A al μ τ nT nW hR r hr9 (-1)) wML_L_10 wST_L_queued wIN_L wCO_L_queued (by decide) rfl ⟨by decide, by decide⟩ hS (fun q h => hA q (Nat.le_trans hS.1 h)) (fun q h => h) hP rfl hl.1 (Nat.le_of_ble_eq_true rfl) dL_letsIn_8 ⟨by decide, by decide⟩ (fun E ce q9 H1 locs1 hx9 _ _ _ _ _ => hx9.elim) (fun v H1 locs1 hv hk hS => ?_)
  have hP := hP.old hk
  subst hv
  refine W.eq (g2 := F0 m 11 ls [.int (mQ τ nT r 0)]) (congrArg (fun z => F0 m 11 ls [.int z]) (lQue_0 (lr_QB hR) (by omega))) ?_
  refine lv_istore (lv' := [(11, .int (mQ τ nT r 0)), (0, .ref (al 0)), (1, .ref (al 3)), (2, .ref (al 5)), (3, .ref (al 6)), (4, .ref (al 7)), (5, .ref (al 8)), (6, .ref (al 9)), (7, .ref (al 10)), (8, .ref (al 12)), (9, .ref (al 13)), (10, .int (nI r))]) hx hb dL_letsIn_11 hl (by decide) rfl (fun ls hl => ?_)
  have L13 : ∀ (n9 : Nat) (μ1 τ1 : SG) (k9 : Nat) (hk9 : mQn τ1 nT r ≤ k9) (h2 : k9 < n9) (hR1 : LR μ1 τ1 nT nW) (hT : mLet nW nT r k9 τ1 = mLet nW nT r nT τ) (H : Heap) (locs : List Loc) (ls : Array Slot), va_S A s.heap H locs → PL G A al μ1 14 H → lv_has ls 12 [(11, .int (mQ τ1 nT r 0)), (10, .int (nI r)), (0, .ref (al 0)), (1, .ref (al 3)), (2, .ref (al 5)), (3, .ref (al 6)), (4, .ref (al 7)), (5, .ref (al 8)), (6, .ref (al 9)), (7, .ref (al 10)), (8, .ref (al 12)), (9, .ref (al 13))] → W p l e (rmL 2 0 0) s m args below meth c H locs 0 0 (KE below A (fun v H => v = none ∧ ∃ μ2, LR μ2 (mLet nW nT r nT τ) nT nW ∧ PL G A al μ2 14 H) (fun _ _ => False) args s (rmL 2 0 0)) (F0 m 13 ls []) := by
    intro n9
    induction n9 with
    | zero =>
      intro μ1 τ1 k9 hk9 h2 hR1 hT H locs ls hS hP hl
      exact absurd True.intro (by omega)
    | succ n9 ih13 =>
      intro μ1 τ1 k9 hk9 h2 hR1 hT H locs ls hS hP hl
      refine lv_iload hx hb dL_letsIn_13 (lv_at hl 0 rfl) ?_
      refine lv_if_lt (tgt := 67) hx hb dL_letsIn_15 (by decide) (fun c_15_1 => ?_) (fun c_15_1 => ?_)
      · rw [mLet_end (fun z => mQ_neg z.1 (by omega) c_15_1)] at hT
        exact kvret hx hb hr hlocks hS (by decide) (by decide) dL_letsIn_67 (⟨rfl, _, by rw [← hT]; exact hR1, hP⟩)
      · obtain ⟨u, hu, eq, e10⟩ := mQ_some (τ := τ1) (n := nT) (r := r) (pp := 0) (fun z => c_15_1 (by rw [z]; decide))
        refine lv_aload_n hx hb dL_letsIn_18 rfl (lv_at hl 2 rfl) ?_
        refine lv_aload_n hx hb dL_letsIn_19 rfl (lv_at hl 5 rfl) ?_
        refine lv_iload hx hb dL_letsIn_20 (lv_at hl 1 rfl) ?_
        refine kcallS (n := 3) F (kL_inside l G (fun q => H.size ≤ q) A al μ1 τ1 nT nW hR1 r hr9) wML_L_16 wST_L_inside wIN_L wCO_L_inside (by decide) rfl ⟨by decide, by decide⟩ hS (fun q h => hA q (Nat.le_trans hS.1 h)) (fun q h => h) hP rfl hl.1 (Nat.le_of_ble_eq_true rfl) dL_letsIn_22 ⟨by decide, by decide⟩ (fun E ce q9 H1 locs1 hx9 _ _ _ _ _ => hx9.elim) (fun v H1 locs1 hv hk hS => ?_)
        have hP := hP.old hk
        subst hv
        refine lv_aload hx hb dL_letsIn_25 (lv_at hl 7 rfl) ?_
        refine lv_iload hx hb dL_letsIn_27 (lv_at hl 1 rfl) ?_
        refine xiald hx hb hE.1.1 (hP.arr 8 (by decide)) 0 rfl (k := r) rfl (show _ < 12 by omega) (by decide) dL_letsIn_29 ?_
        refine W.eq (g2 := F0 m 30 ls [.int (τ1 14 r), .int (nI (cntF (mIn τ1 (nI r)) 0 nT))]) (congrArg (fun z => F0 m 30 ls [.int z, .int (nI (cntF (mIn τ1 (nI r)) 0 nT))]) (lr_k hR1 hr9)) ?_
        refine lv_icmp_ge (tgt := 67) hx hb dL_letsIn_30 (by decide) (fun c_30_2 => ?_) (fun c_30_2 => ?_)
        · rw [mLet_end (fun z => Int32.not_le.mpr z.2 c_30_2)] at hT
          exact kvret hx hb hr hlocks hS (by decide) (by decide) dL_letsIn_67 (⟨rfl, _, by rw [← hT]; exact hR1, hP⟩)
        · have hlt : nI (cntF (mIn τ1 (nI r)) 0 nT) < τ1 14 r := Int32.not_le.mp c_30_2
          refine lv_aload_n hx hb dL_letsIn_33 rfl (lv_at hl 2 rfl) ?_
          refine lv_aload_n hx hb dL_letsIn_34 rfl (lv_at hl 4 rfl) ?_
          refine lv_aload_n hx hb dL_letsIn_35 rfl (lv_at hl 5 rfl) ?_
          refine lv_aload hx hb dL_letsIn_36 (lv_at hl 8 rfl) ?_
          refine lv_aload hx hb dL_letsIn_38 (lv_at hl 9 rfl) ?_
          refine lv_aload hx hb dL_letsIn_40 (lv_at hl 10 rfl) ?_
          refine lv_aload hx hb dL_letsIn_42 (lv_at hl 11 rfl) ?_
          refine lv_iload hx hb dL_letsIn_44 (lv_at hl 0 rfl) ?_
          refine W.eq (g2 := F0 m 46 ls [.int (nI u), .ref (al 13), .ref (al 12), .ref (al 10), .ref (al 9), .ref (al 6), .ref (al 5), .ref (al 0)]) (congrArg (fun z => F0 m 46 ls [.int z, .ref (al 13), .ref (al 12), .ref (al 10), .ref (al 9), .ref (al 6), .ref (al 5), .ref (al 0)]) (eq)) ?_
          refine lv_iload hx hb dL_letsIn_46 (lv_at hl 1 rfl) ?_
          refine kcallS (n := 9) F (kL_sees l G A al μ1 τ1 nT nW hR1 u r hu hr9) wML_L_20 wST_L_sees wIN_L wCO_L_sees (by decide) rfl ⟨by decide, by decide⟩ hS (fun _ h => h) (fun q h => hA q (Nat.le_trans hS.1 h)) hP rfl hl.1 (Nat.le_of_ble_eq_true rfl) dL_letsIn_48 ⟨by decide, by decide⟩ (fun E ce q9 H1 locs1 hx9 _ _ _ _ _ => hx9.elim) (fun v H1 locs1 hv hk hS => ?_)
          obtain ⟨rfl, μ_3, hR_4, hP⟩ := hv
          refine lv_aload_n hx hb dL_letsIn_51 rfl (lv_at hl 2 rfl) ?_
          refine lv_aload_n hx hb dL_letsIn_52 rfl (lv_at hl 3 rfl) ?_
          refine lv_aload_n hx hb dL_letsIn_53 rfl (lv_at hl 5 rfl) ?_
          refine lv_aload hx hb dL_letsIn_54 (lv_at hl 6 rfl) ?_
          refine lv_iload hx hb dL_letsIn_56 (lv_at hl 1 rfl) ?_
          refine lv_iconst (v := (-1)) hx hb dL_letsIn_58 (by decide) ?_
          refine kcallS (n := 6) F (kL_queued l G (fun q => H1.size ≤ q) A al μ_3 (mSee nW u r τ1) nT nW hR_4 r hr9 (-1)) wML_L_10 wST_L_queued wIN_L wCO_L_queued (by decide) rfl ⟨by decide, by decide⟩ hS (fun q h => hA q (Nat.le_trans hS.1 h)) (fun q h => h) hP rfl hl.1 (Nat.le_of_ble_eq_true rfl) dL_letsIn_59 ⟨by decide, by decide⟩ (fun E ce q9 H1 locs1 hx9 _ _ _ _ _ => hx9.elim) (fun v H1 locs1 hv hk hS => ?_)
          have hP := hP.old hk
          subst hv
          refine W.eq (g2 := F0 m 62 ls [.int (mQ (mSee nW u r τ1) nT r 0)]) (congrArg (fun z => F0 m 62 ls [.int z]) (lQue_0 (lr_QB hR_4) (by omega))) ?_
          refine lv_istore (lv' := [(11, .int (mQ (mSee nW u r τ1) nT r 0)), (10, .int (nI r)), (0, .ref (al 0)), (1, .ref (al 3)), (2, .ref (al 5)), (3, .ref (al 6)), (4, .ref (al 7)), (5, .ref (al 8)), (6, .ref (al 9)), (7, .ref (al 10)), (8, .ref (al 12)), (9, .ref (al 13))]) hx hb dL_letsIn_62 hl (by decide) rfl (fun ls hl => ?_)
          refine lv_goto (tgt := 13) hx hb dL_letsIn_64 (by decide) ?_
          exact ih13 _ (mSee nW u r τ1) (k9 - 1) (by have := mQn_see (nW := nW) hr9 hu e10; omega) (by have := mQn_see (nW := nW) hr9 hu e10; omega) hR_4 (by have h8 := mQn_see (nW := nW) hr9 hu e10; rw [← hT]; obtain ⟨k8, hk8⟩ : ∃ k8, k9 = k8 + 1 := ⟨k9 - 1, by omega⟩; rw [hk8, mLet_go ⟨(fun z => c_15_1 (by rw [z]; decide)), hlt⟩ eq (by omega)]; rfl) _ _ _ hS hP (lv_sub hl [0, 1, 2, 3, 4, 5, 6, 7, 8, 9, 10, 11] rfl)
  exact L13 (nT + 1) μ τ nT (by have := cntF_le (fun t => decide (τ 10 t = 100 + nI r)) nT 0; exact this) (by omega) hR rfl _ _ _ hS hP (lv_sub hl [0, 11, 1, 2, 3, 4, 5, 6, 7, 8, 9, 10] rfl)

theorem bits_ne {s i : Nat} (hs : s < 4096) (hi : i < 12) (h : mBit (nI s) i = 1) : mBits (nI s) ≠ 0 := by
  rw [mBit_n hs hi] at h
  have h2 : s / 2 ^ i % 2 < 2 := Nat.mod_lt _ (by decide)
  have h1 : s / 2 ^ i % 2 = 1 := nIe (by omega) (by decide) h
  rw [bit_all hs, pop_n hs]
  intro z
  have hb : nbs s < 100 := by unfold nbs; omega
  have z0 : nbs s = 0 := nIe (by omega) (by decide) z
  unfold nbs at z0
  have h12 : i = 0 ∨ i = 1 ∨ i = 2 ∨ i = 3 ∨ i = 4 ∨ i = 5 ∨ i = 6 ∨ i = 7 ∨ i = 8 ∨ i = 9 ∨ i = 10 ∨ i = 11 := by omega
  rcases h12 with rfl | rfl | rfl | rfl | rfl | rfl | rfl | rfl | rfl | rfl | rfl | rfl <;> omega
theorem LR.shr {μ τ : SG} {nT nW i : Nat} {se pt x : Int32} (hR : LR μ τ nT nW) (hi : i < 12) (e : x = if mBit se i = 1 then pt else 0) : LR (up μ 13 (i / 3) (μ 13 (i / 3) + x)) (mShr1 se pt i τ) nT nW := by
  unfold mShr1
  rw [← e, ← lr_m hR (j := i / 3) (by omega)]
  exact hR.m13
theorem left_step {am pt y m9 : Int32} (h : m9 = 0 ∨ m9 = 1) {x : Int32} (e : x = if m9 = 1 then pt else 0) : am - pt * y - x = am - pt * (y + m9) := by
  rw [e, b_mul h, Int32.mul_add]
  generalize pt * y = a
  generalize pt * m9 = b
  grind
set_option maxHeartbeats 4000000 in
set_option maxRecDepth 100000 in
theorem kL_shares (l : Launch) (G : GE) (A : Nat → Prop) (al : Nat → Nat) (μ τ : SG) (nT nW : Nat) (hR : LR μ τ nT nW) (am : Int32) (s0 : Nat) (hs0 : s0 < 4096) : KM l G A yL_shares cL_shares 6 none (rmL 2 0 0) [.ref (al 13), .int am, .int (nI s0)] (PL G A al μ 14) (fun v H => v = none ∧ ∃ μ2, LR μ2 (mShare am (nI s0) τ) nT nW ∧ PL G A al μ2 14 H) (fun _ _ => False) := by
  refine KM.of (by decide) (Nat.le_of_ble_eq_true rfl) ?_
  intro p e s m args below meth c F hP ls hl
  have hx := F.1.1
  have hb := F.1.2.1
  have hown := F.1.2.2.2.1
  have hts := F.1.2.2.2.2
  have hr := F.2.1
  have hlocks := F.2.2.1
  have hE := F.2.2.2.2.2.1
  have hA := F.2.2.2.2.2.2
  have hS : va_S A s.heap s.heap [] := va_S.rf
  have hl : lv_has ls 6 [(0, .ref (al 13)), (1, .int am), (2, .int (nI s0))] := hl
  have hP := hP
  obtain ⟨h60, h10⟩ := lr_n60 hR
  refine lv_iload_n hx hb dL_shares_0 rfl (lv_at hl 1 rfl) ?_
  refine lv_istore_n (lv' := [(3, .int am), (0, .ref (al 13)), (1, .int am), (2, .int (nI s0))]) hx hb dL_shares_1 rfl hl (by decide) rfl (fun ls hl => ?_)
  refine lv_iconst (v := 0) hx hb dL_shares_2 (by decide) ?_
  refine lv_istore (lv' := [(4, .int 0), (3, .int am), (0, .ref (al 13)), (1, .int am), (2, .int (nI s0))]) hx hb dL_shares_3 hl (by decide) rfl (fun ls hl => ?_)
  have L5 : ∀ (n9 : Nat) (μ1 τ1 : SG) (x1 y1 : Int32) (i : Nat) (h1 : i ≤ 12) (h2 : 12 < i + n9) (hR1 : LR μ1 τ1 nT nW) (hT : itr (mShr1 (nI s0) (mPart am (nI s0))) i (12 - i) τ1 = mShrL (nI s0) (mPart am (nI s0)) τ) (hY : itr (fun r x => x + mBit (nI s0) r) i (12 - i) y1 = mBits (nI s0)) (hX : x1 = am - mPart am (nI s0) * y1) (H : Heap) (locs : List Loc) (ls : Array Slot), va_S A s.heap H locs → PL G A al μ1 14 H → lv_has ls 6 [(4, .int (nI i)), (3, .int x1), (0, .ref (al 13)), (1, .int am), (2, .int (nI s0))] → W p l e (rmL 2 0 0) s m args below meth c H locs 0 0 (KE below A (fun v H => v = none ∧ ∃ μ2, LR μ2 (mShare am (nI s0) τ) nT nW ∧ PL G A al μ2 14 H) (fun _ _ => False) args s (rmL 2 0 0)) (F0 m 5 ls []) := by
    intro n9
    induction n9 with
    | zero =>
      intro μ1 τ1 x1 y1 i h1 h2 hR1 hT hY hX H locs ls hS hP hl
      exact absurd True.intro (by omega)
    | succ n9 ih5 =>
      intro μ1 τ1 x1 y1 i h1 h2 hR1 hT hY hX H locs ls hS hP hl
      refine lv_iload hx hb dL_shares_5 (lv_at hl 0 rfl) ?_
      refine lv_bipush (v := 12) hx hb dL_shares_7 (by decide) ?_
      refine lv_icmp_ge (tgt := 56) hx hb dL_shares_9 (by decide) (fun c_9_1 => ?_) (fun c_9_1 => ?_)
      · have ei := nI_eqle (n := 12) h1 (by decide) c_9_1
        rw [ei, itr_end] at hT
        rw [ei, itr_end] at hY
        refine lv_aload_n hx hb dL_shares_56 rfl (lv_at hl 2 rfl) ?_
        refine lv_iconst (v := 4) hx hb dL_shares_57 (by decide) ?_
        refine lv_dup2_11 hx hb dL_shares_58 rfl rfl ?_
        refine xiald hx hb hE.1.1 (hP.arr 13 (by decide)) 0 rfl (k := 4) rfl (show _ < 5 by omega) (by decide) dL_shares_59 ?_
        refine lv_iload_n hx hb dL_shares_60 rfl (lv_at hl 1 rfl) ?_
        refine lv_iadd hx hb dL_shares_61 ?_
        refine xiast hx hb hE.1.1 hS (hP.arr 13 (by decide)) (hP.oarr 13 (by decide)) 0 rfl (k := 4) rfl (show _ < 5 by omega) (by decide) dL_shares_62 (fun H1 locs1 he1 z1 oq1 hS => ?_)
        have hP := hP.put 13 4 (by decide) he1 oq1
        exact kvret hx hb hr hlocks hS (by decide) (by decide) dL_shares_63 (⟨rfl, _, by unfold mShare; rw [← hT, ← hY, ← hX, ← lr_m hR1 (j := 4) (by decide)]; exact hR1.m13, hP⟩)
      · have hi := nI_lt' (n := 12) h1 (by decide) c_9_1
        refine lv_iload_n hx hb dL_shares_12 rfl (lv_at hl 4 rfl) ?_
        refine lv_iload hx hb dL_shares_13 (lv_at hl 0 rfl) ?_
        refine lv_ishr hx hb dL_shares_15 ?_
        refine lv_iconst (v := 1) hx hb dL_shares_16 (by decide) ?_
        refine lv_iand hx hb dL_shares_17 ?_
        refine W.eq (g2 := F0 m 18 ls [.int (mBit (nI s0) i)]) (congrArg (fun z => F0 m 18 ls [.int z]) (rfl)) ?_
        refine lv_iconst (v := 1) hx hb dL_shares_18 (by decide) ?_
        refine lv_icmp_ne (tgt := 31) hx hb dL_shares_19 (by decide) (fun c_19_2 => ?_) (fun c_19_2 => ?_)
        · have hpt : (0 : Int32) = if mBit (nI s0) i = 1 then mPart am (nI s0) else 0 := (if_neg c_19_2).symm
          refine lv_iconst (v := 0) hx hb dL_shares_31 (by decide) ?_
          refine lv_istore (lv' := [(5, .int 0), (4, .int (nI i)), (3, .int x1), (0, .ref (al 13)), (1, .int am), (2, .int (nI s0))]) hx hb dL_shares_32 hl (by decide) rfl (fun ls hl => ?_)
          refine lv_aload_n hx hb dL_shares_34 rfl (lv_at hl 3 rfl) ?_
          refine lv_iload hx hb dL_shares_35 (lv_at hl 1 rfl) ?_
          refine lv_iconst (v := 3) hx hb dL_shares_37 (by decide) ?_
          refine lv_idiv hx hb dL_shares_38 (by decide) ?_
          refine W.eq (g2 := F0 m 39 ls [.int (nI (i / 3)), .ref (al 13)]) (congrArg (fun z => F0 m 39 ls [.int z, .ref (al 13)]) (r3 i hi)) ?_
          refine lv_dup2_11 hx hb dL_shares_39 rfl rfl ?_
          refine xiald hx hb hE.1.1 (hP.arr 13 (by decide)) 0 rfl (k := (i / 3)) rfl (show _ < 5 by omega) (by decide) dL_shares_40 ?_
          refine lv_iload hx hb dL_shares_41 (lv_at hl 0 rfl) ?_
          refine lv_iadd hx hb dL_shares_43 ?_
          refine xiast hx hb hE.1.1 hS (hP.arr 13 (by decide)) (hP.oarr 13 (by decide)) 0 rfl (k := (i / 3)) rfl (show _ < 5 by omega) (by decide) dL_shares_44 (fun H1 locs1 he1 z1 oq1 hS => ?_)
          have hP := hP.put 13 (i / 3) (by decide) he1 oq1
          refine lv_iload_n hx hb dL_shares_45 rfl (lv_at hl 2 rfl) ?_
          refine lv_iload hx hb dL_shares_46 (lv_at hl 0 rfl) ?_
          refine lv_isub hx hb dL_shares_48 ?_
          refine lv_istore_n (lv' := [(3, .int (x1 - 0)), (5, .int 0), (4, .int (nI i)), (0, .ref (al 13)), (1, .int am), (2, .int (nI s0))]) hx hb dL_shares_49 rfl hl (by decide) rfl (fun ls hl => ?_)
          refine lv_iinc (v := (nI (i + 1))) (lv' := [(4, .int (nI (i + 1))), (3, .int (x1 - 0)), (5, .int 0), (0, .ref (al 13)), (1, .int am), (2, .int (nI s0))]) hx hb dL_shares_50 hl (k := 2) rfl (nI_1 _) (by decide) rfl (fun ls hl => ?_)
          refine lv_goto (tgt := 5) hx hb dL_shares_53 (by decide) ?_
          exact ih5 _ _ _ (y1 + mBit (nI s0) i) (i + 1) (by omega) (by omega) (hR1.shr hi hpt) (by rw [itr_step hi] at hT; exact hT) (by rw [itr_step hi] at hY; exact hY) (by rw [hX]; exact left_step (bit_01 hs0 hi) hpt) _ _ _ hS hP (lv_sub hl [0, 1, 3, 4, 5] rfl)
        · have hpt : mPart am (nI s0) = if mBit (nI s0) i = 1 then mPart am (nI s0) else 0 := (if_pos c_19_2).symm
          refine lv_iload_n hx hb dL_shares_22 rfl (lv_at hl 3 rfl) ?_
          refine lv_iload_n hx hb dL_shares_23 rfl (lv_at hl 4 rfl) ?_
          refine kcallS (n := 1) F (kL_bits l G (fun q => H.size ≤ q) s0 hs0) wML_L_24 wST_L_bits wIN_L wCO_L_bits (by decide) rfl ⟨by decide, by decide⟩ hS (fun q h => hA q (Nat.le_trans hS.1 h)) (fun q h => h) trivial rfl hl.1 (Nat.le_of_ble_eq_true rfl) dL_shares_24 ⟨by decide, by decide⟩ (fun E ce q9 H1 locs1 hx9 _ _ _ _ _ => hx9.elim) (fun v H1 locs1 hv hk hS => ?_)
          have hP := hP.old hk
          subst hv
          refine lv_idiv hx hb dL_shares_27 (bits_ne hs0 hi c_19_2) ?_
          refine W.eq (g2 := F0 m 28 ls [.int (mPart am (nI s0))]) (congrArg (fun z => F0 m 28 ls [.int z]) ((if_neg (bits_ne hs0 hi c_19_2)).symm)) ?_
          refine lv_goto (tgt := 32) hx hb dL_shares_28 (by decide) ?_
          refine lv_istore (lv' := [(5, .int (mPart am (nI s0))), (4, .int (nI i)), (3, .int x1), (0, .ref (al 13)), (1, .int am), (2, .int (nI s0))]) hx hb dL_shares_32 hl (by decide) rfl (fun ls hl => ?_)
          refine lv_aload_n hx hb dL_shares_34 rfl (lv_at hl 3 rfl) ?_
          refine lv_iload hx hb dL_shares_35 (lv_at hl 1 rfl) ?_
          refine lv_iconst (v := 3) hx hb dL_shares_37 (by decide) ?_
          refine lv_idiv hx hb dL_shares_38 (by decide) ?_
          refine W.eq (g2 := F0 m 39 ls [.int (nI (i / 3)), .ref (al 13)]) (congrArg (fun z => F0 m 39 ls [.int z, .ref (al 13)]) (r3 i hi)) ?_
          refine lv_dup2_11 hx hb dL_shares_39 rfl rfl ?_
          refine xiald hx hb hE.1.1 (hP.arr 13 (by decide)) 0 rfl (k := (i / 3)) rfl (show _ < 5 by omega) (by decide) dL_shares_40 ?_
          refine lv_iload hx hb dL_shares_41 (lv_at hl 0 rfl) ?_
          refine lv_iadd hx hb dL_shares_43 ?_
          refine xiast hx hb hE.1.1 hS (hP.arr 13 (by decide)) (hP.oarr 13 (by decide)) 0 rfl (k := (i / 3)) rfl (show _ < 5 by omega) (by decide) dL_shares_44 (fun H1 locs1 he1 z1 oq1 hS => ?_)
          have hP := hP.put 13 (i / 3) (by decide) he1 oq1
          refine lv_iload_n hx hb dL_shares_45 rfl (lv_at hl 2 rfl) ?_
          refine lv_iload hx hb dL_shares_46 (lv_at hl 0 rfl) ?_
          refine lv_isub hx hb dL_shares_48 ?_
          refine lv_istore_n (lv' := [(3, .int (x1 - (mPart am (nI s0)))), (5, .int (mPart am (nI s0))), (4, .int (nI i)), (0, .ref (al 13)), (1, .int am), (2, .int (nI s0))]) hx hb dL_shares_49 rfl hl (by decide) rfl (fun ls hl => ?_)
          refine lv_iinc (v := (nI (i + 1))) (lv' := [(4, .int (nI (i + 1))), (3, .int (x1 - (mPart am (nI s0)))), (5, .int (mPart am (nI s0))), (0, .ref (al 13)), (1, .int am), (2, .int (nI s0))]) hx hb dL_shares_50 hl (k := 2) rfl (nI_1 _) (by decide) rfl (fun ls hl => ?_)
          refine lv_goto (tgt := 5) hx hb dL_shares_53 (by decide) ?_
          exact ih5 _ _ _ (y1 + mBit (nI s0) i) (i + 1) (by omega) (by omega) (hR1.shr hi hpt) (by rw [itr_step hi] at hT; exact hT) (by rw [itr_step hi] at hY; exact hY) (by rw [hX]; exact left_step (bit_01 hs0 hi) hpt) _ _ _ hS hP (lv_sub hl [0, 1, 3, 4, 5] rfl)
  exact L5 13 μ τ am 0 0 (by omega) (by omega) hR rfl rfl (by rw [Int32.mul_zero, Int32.sub_zero]) _ _ _ hS hP (lv_sub hl [0, 1, 2, 3, 4] rfl)

