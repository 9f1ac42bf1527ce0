set_option maxHeartbeats 4000000 in
set_option maxRecDepth 100000 in
theorem kL_sees (l : Launch) (G : GE) (A : Nat → Prop) (al : Nat → Nat) (μ τ : SG) (nT nW : Nat) (hR : LR μ τ nT nW) (t r : Nat) (ht : t < nT) (hr9 : r < 12) : KM l G A yL_sees cL_sees 13 none (rmL 1 0 0) [.ref (al 0), .ref (al 5), .ref (al 6), .ref (al 9), .ref (al 10), .ref (al 12), .ref (al 13), .int (nI t), .int (nI r)] (PL G A al μ 14) (fun v H => v = none ∧ ∃ μ2, LR μ2 (mSee nW t r τ) nT nW ∧ PL G A al μ2 14 H) (fun _ _ => False) := by
  refine KM.of (by decide) (Nat.le_of_ble_eq_true rfl) ?_
  intro p e s m args below meth c F hP ls hl
  have hx := F.1.1
  have hb := F.1.2.1
  have hown := F.1.2.2.2.1
  have hts := F.1.2.2.2.2
  have hr := F.2.1
  have hlocks := F.2.2.1
  have hE := F.2.2.2.2.2.1
  have hA := F.2.2.2.2.2.2
  have hS : va_S A s.heap s.heap [] := va_S.rf
  have hl : lv_has ls 13 [(0, .ref (al 0)), (1, .ref (al 5)), (2, .ref (al 6)), (3, .ref (al 9)), (4, .ref (al 10)), (5, .ref (al 12)), (6, .ref (al 13)), (7, .int (nI t)), (8, .int (nI r))] := hl
  have hP := hP
  obtain ⟨h60, h10⟩ := lr_n60 hR
  refine lv_aload_n hx hb dL_sees_0 rfl (lv_at hl 2 rfl) ?_
  refine lv_iload hx hb dL_sees_1 (lv_at hl 7 rfl) ?_
  refine lv_iload hx hb dL_sees_3 (lv_at hl 8 rfl) ?_
  refine lv_iconst (v := 1) hx hb dL_sees_5 (by decide) ?_
  refine lv_iadd hx hb dL_sees_6 ?_
  refine W.eq (g2 := F0 m 7 ls [.int (nI (r + 1)), .int (nI t), .ref (al 6)]) (congrArg (fun z => F0 m 7 ls [.int z, .int (nI t), .ref (al 6)]) (nI_1 r)) ?_
  refine xiast hx hb hE.1.1 hS (hP.arr 6 (by decide)) (hP.oarr 6 (by decide)) 0 rfl (k := t) rfl (show _ < 60 by omega) (by decide) dL_sees_7 (fun H1 locs1 he1 z1 oq1 hS => ?_)
  have hP := hP.put 6 t (by decide) he1 oq1
  refine lv_aload_n hx hb dL_sees_8 rfl (lv_at hl 1 rfl) ?_
  refine lv_iload hx hb dL_sees_9 (lv_at hl 7 rfl) ?_
  refine xiald hx hb hE.1.1 (hP.arr 5 (by decide)) 0 rfl (k := t) rfl (show _ < 60 by omega) (by decide) dL_sees_11 ?_
  rw [show (up μ 6 t (nI (r + 1))) 5 t = μ 5 t from by simp [up]]
  refine W.eq (g2 := F0 m 12 ls [.int (τ 13 t)]) (congrArg (fun z => F0 m 12 ls [.int z]) (lr_s hR t)) ?_
  refine lv_iload hx hb dL_sees_12 (lv_at hl 8 rfl) ?_
  refine lv_ishr hx hb dL_sees_14 ?_
  refine lv_iconst (v := 1) hx hb dL_sees_15 (by decide) ?_
  refine lv_iand hx hb dL_sees_16 ?_
  refine lv_if_ne (tgt := 24) hx hb dL_sees_17 (by decide) (fun c_17_1 => ?_) (fun c_17_1 => ?_)
  · have hb9 : mBit (τ 13 t) r = 1 := (bit01 hR hr9).resolve_left c_17_1
    refine lv_iconst (v := 0) hx hb dL_sees_24 (by decide) ?_
    refine lv_istore (lv' := [(9, .int 0), (0, .ref (al 0)), (1, .ref (al 5)), (2, .ref (al 6)), (3, .ref (al 9)), (4, .ref (al 10)), (5, .ref (al 12)), (6, .ref (al 13)), (7, .int (nI t)), (8, .int (nI r))]) hx hb dL_sees_25 hl (by decide) rfl (fun ls hl => ?_)
    refine lv_aload_n hx hb dL_sees_27 rfl (lv_at hl 2 rfl) ?_
    refine lv_iload hx hb dL_sees_28 (lv_at hl 8 rfl) ?_
    refine lv_dup2_11 hx hb dL_sees_30 rfl rfl ?_
    refine xiald hx hb hE.1.1 (hP.arr 5 (by decide)) 0 rfl (k := t) rfl (show _ < 60 by omega) (by decide) dL_sees_31 ?_
    rw [show (up μ 6 t (nI (r + 1))) 5 t = μ 5 t from by simp [up]]
    refine W.eq (g2 := F0 m 32 ls [.int (τ 13 t), .int (nI t), .ref (al 5)]) (congrArg (fun z => F0 m 32 ls [.int z, .int (nI t), .ref (al 5)]) (lr_s hR t)) ?_
    refine lv_iconst (v := 1) hx hb dL_sees_32 (by decide) ?_
    refine lv_iload hx hb dL_sees_33 (lv_at hl 9 rfl) ?_
    refine lv_ishl hx hb dL_sees_35 ?_
    refine lv_ior hx hb dL_sees_36 ?_
    refine xiast hx hb hE.1.1 hS (hP.arr 5 (by decide)) (hP.oarr 5 (by decide)) 0 rfl (k := t) rfl (show _ < 60 by omega) (by decide) dL_sees_37 (fun H1 locs1 he1 z1 oq1 hS => ?_)
    have hP := hP.put 5 t (by decide) he1 oq1
    refine lv_iconst (v := 0) hx hb dL_sees_38 (by decide) ?_
    refine lv_istore (lv' := [(10, .int 0), (9, .int 0), (0, .ref (al 0)), (1, .ref (al 5)), (2, .ref (al 6)), (3, .ref (al 9)), (4, .ref (al 10)), (5, .ref (al 12)), (6, .ref (al 13)), (7, .int (nI t)), (8, .int (nI r))]) hx hb dL_sees_39 hl (by decide) rfl (fun ls hl => ?_)
    refine lv_iload hx hb dL_sees_41 (lv_at hl 0 rfl) ?_
    refine lv_aload_n hx hb dL_sees_43 rfl (lv_at hl 2 rfl) ?_
    refine lv_iconst (v := 1) hx hb dL_sees_44 (by decide) ?_
    refine xiald hx hb hE.1.1 (hP.arr 0 (by decide)) 0 rfl (k := 1) rfl (show _ < 7 by omega) (by decide) dL_sees_45 ?_
    rw [show (up (up μ 6 t (nI (r + 1))) 5 t ((τ 13 t) ||| (1 <<< ((nI r) &&& 31)))) 0 1 = μ 0 1 from by simp [up]]
    refine W.eq (g2 := F0 m 46 ls [.int (nI nW), .int 0]) (congrArg (fun z => F0 m 46 ls [.int z, .int 0]) (lr_n1 hR)) ?_
    refine lv_icmp_ge (tgt := 167) hx hb dL_sees_46 (by decide) (fun c_46_2 => ?_) (fun c_46_2 => ?_)
    · exact kvret hx hb hr hlocks hS (by decide) (by decide) dL_sees_167 (⟨rfl, _, hR.seen ht hr9 hb9, hP⟩)
    · refine lv_iload hx hb dL_sees_49 (lv_at hl 1 rfl) ?_
      refine lv_if_eq (tgt := 167) hx hb dL_sees_51 (by decide) (fun c_51_3 => ?_) (fun c_51_3 => ?_)
      · exact kvret hx hb hr hlocks hS (by decide) (by decide) dL_sees_167 (⟨rfl, _, hR.seen ht hr9 hb9, hP⟩)
      · exact absurd c_51_3 (by decide)
  · have hb9 : ¬ mBit (τ 13 t) r = 1 := by have h9 : mBit (τ 13 t) r = 0 := c_17_1; rw [h9]; decide
    refine lv_iconst (v := 1) hx hb dL_sees_20 (by decide) ?_
    refine lv_goto (tgt := 25) hx hb dL_sees_21 (by decide) ?_
    refine lv_istore (lv' := [(9, .int 1), (0, .ref (al 0)), (1, .ref (al 5)), (2, .ref (al 6)), (3, .ref (al 9)), (4, .ref (al 10)), (5, .ref (al 12)), (6, .ref (al 13)), (7, .int (nI t)), (8, .int (nI r))]) hx hb dL_sees_25 hl (by decide) rfl (fun ls hl => ?_)
    refine lv_aload_n hx hb dL_sees_27 rfl (lv_at hl 2 rfl) ?_
    refine lv_iload hx hb dL_sees_28 (lv_at hl 8 rfl) ?_
    refine lv_dup2_11 hx hb dL_sees_30 rfl rfl ?_
    refine xiald hx hb hE.1.1 (hP.arr 5 (by decide)) 0 rfl (k := t) rfl (show _ < 60 by omega) (by decide) dL_sees_31 ?_
    rw [show (up μ 6 t (nI (r + 1))) 5 t = μ 5 t from by simp [up]]
    refine W.eq (g2 := F0 m 32 ls [.int (τ 13 t), .int (nI t), .ref (al 5)]) (congrArg (fun z => F0 m 32 ls [.int z, .int (nI t), .ref (al 5)]) (lr_s hR t)) ?_
    refine lv_iconst (v := 1) hx hb dL_sees_32 (by decide) ?_
    refine lv_iload hx hb dL_sees_33 (lv_at hl 9 rfl) ?_
    refine lv_ishl hx hb dL_sees_35 ?_
    refine lv_ior hx hb dL_sees_36 ?_
    refine xiast hx hb hE.1.1 hS (hP.arr 5 (by decide)) (hP.oarr 5 (by decide)) 0 rfl (k := t) rfl (show _ < 60 by omega) (by decide) dL_sees_37 (fun H1 locs1 he1 z1 oq1 hS => ?_)
    have hP := hP.put 5 t (by decide) he1 oq1
    refine lv_iconst (v := 0) hx hb dL_sees_38 (by decide) ?_
    refine lv_istore (lv' := [(10, .int 0), (9, .int 1), (0, .ref (al 0)), (1, .ref (al 5)), (2, .ref (al 6)), (3, .ref (al 9)), (4, .ref (al 10)), (5, .ref (al 12)), (6, .ref (al 13)), (7, .int (nI t)), (8, .int (nI r))]) hx hb dL_sees_39 hl (by decide) rfl (fun ls hl => ?_)
    have L41 : ∀ (n9 : Nat) (μ1 τ1 : SG) (j : Nat) (h1 : j ≤ nW) (h2 : nW < j + n9) (hR1 : LR μ1 τ1 nT nW) (hT : itr (mView r) j (nW - j) τ1 = mSee nW t r τ) (H : Heap) (locs : List Loc) (ls : Array Slot), va_S A s.heap H locs → PL G A al μ1 14 H → lv_has ls 13 [(10, .int (nI j)), (9, .int 1), (7, .int (nI t)), (8, .int (nI r)), (0, .ref (al 0)), (1, .ref (al 5)), (2, .ref (al 6)), (3, .ref (al 9)), (4, .ref (al 10)), (5, .ref (al 12)), (6, .ref (al 13))] → W p l e (rmL 1 0 0) s m args below meth c H locs 0 0 (KE below A (fun v H => v = none ∧ ∃ μ2, LR μ2 (mSee nW t r τ) nT nW ∧ PL G A al μ2 14 H) (fun _ _ => False) args s (rmL 1 0 0)) (F0 m 41 ls []) := by
      intro n9
      induction n9 with
      | zero =>
        intro μ1 τ1 j h1 h2 hR1 hT H locs ls hS hP hl
        exact absurd True.intro (by omega)
      | succ n9 ih41 =>
        intro μ1 τ1 j h1 h2 hR1 hT H locs ls hS hP hl
        refine lv_iload hx hb dL_sees_41 (lv_at hl 0 rfl) ?_
        refine lv_aload_n hx hb dL_sees_43 rfl (lv_at hl 4 rfl) ?_
        refine lv_iconst (v := 1) hx hb dL_sees_44 (by decide) ?_
        refine xiald hx hb hE.1.1 (hP.arr 0 (by decide)) 0 rfl (k := 1) rfl (show _ < 7 by omega) (by decide) dL_sees_45 ?_
        refine W.eq (g2 := F0 m 46 ls [.int (nI nW), .int (nI j)]) (congrArg (fun z => F0 m 46 ls [.int z, .int (nI j)]) (lr_n1 hR1)) ?_
        refine lv_icmp_ge (tgt := 167) hx hb dL_sees_46 (by decide) (fun c_46_4 => ?_) (fun c_46_4 => ?_)
        · have ej := nI_eqle h1 (by omega) c_46_4
          rw [ej, itr_end] at hT
          exact kvret hx hb hr hlocks hS (by decide) (by decide) dL_sees_167 (⟨rfl, _, by rw [← hT]; exact hR1, hP⟩)
        · have hj := nI_lt' h1 (by omega) c_46_4
          obtain ⟨h, r8, le8, fe8, hh, -, -, -, -, eh, -⟩ := lr_a hR1 hj
          refine lv_iload hx hb dL_sees_49 (lv_at hl 1 rfl) ?_
          refine lv_if_eq (tgt := 167) hx hb dL_sees_51 (by decide) (fun c_51_5 => ?_) (fun c_51_5 => ?_)
          · exact absurd c_51_5 (by decide)
          · refine lv_aload_n hx hb dL_sees_54 rfl (lv_at hl 7 rfl) ?_
            refine lv_iload hx hb dL_sees_55 (lv_at hl 0 rfl) ?_
            refine xiald hx hb hE.1.1 (hP.arr 9 (by decide)) 0 rfl (k := j) rfl (show _ < 10 by omega) (by decide) dL_sees_57 ?_
            refine lv_iconst (v := 4) hx hb dL_sees_58 (by decide) ?_
            refine lv_idiv hx hb dL_sees_59 (by decide) ?_
            refine lv_bipush (v := 16) hx hb dL_sees_60 (by decide) ?_
            refine lv_irem hx hb dL_sees_62 (by decide) ?_
            refine W.eq (g2 := F0 m 63 ls [.int (τ1 18 j)]) (congrArg (fun z => F0 m 63 ls [.int z]) (lr_ar hR1 hj)) ?_
            refine lv_iload hx hb dL_sees_63 (lv_at hl 3 rfl) ?_
            refine lv_icmp_ne (tgt := 72) hx hb dL_sees_65 (by decide) (fun c_65_6 => ?_) (fun c_65_6 => ?_)
            · refine lv_iconst (v := 0) hx hb dL_sees_72 (by decide) ?_
              refine lv_istore (lv' := [(11, .int 0), (10, .int (nI j)), (9, .int 1), (7, .int (nI t)), (8, .int (nI r)), (0, .ref (al 0)), (1, .ref (al 5)), (2, .ref (al 6)), (3, .ref (al 9)), (4, .ref (al 10)), (5, .ref (al 12)), (6, .ref (al 13))]) hx hb dL_sees_73 hl (by decide) rfl (fun ls hl => ?_)
              refine lv_iload hx hb dL_sees_75 (lv_at hl 0 rfl) ?_
              refine lv_if_eq (tgt := 104) hx hb dL_sees_77 (by decide) (fun c_77_7 => ?_) (fun c_77_7 => ?_)
              · refine lv_iconst (v := 0) hx hb dL_sees_104 (by decide) ?_
                refine lv_istore (lv' := [(12, .int 0), (11, .int 0), (10, .int (nI j)), (9, .int 1), (7, .int (nI t)), (8, .int (nI r)), (0, .ref (al 0)), (1, .ref (al 5)), (2, .ref (al 6)), (3, .ref (al 9)), (4, .ref (al 10)), (5, .ref (al 12)), (6, .ref (al 13))]) hx hb dL_sees_105 hl (by decide) rfl (fun ls hl => ?_)
                refine lv_aload hx hb dL_sees_107 (lv_at hl 11 rfl) ?_
                refine lv_iload hx hb dL_sees_109 (lv_at hl 2 rfl) ?_
                refine lv_dup2_11 hx hb dL_sees_111 rfl rfl ?_
                refine xiald hx hb hE.1.1 (hP.arr 12 (by decide)) 0 rfl (k := j) rfl (show _ < 10 by omega) (by decide) dL_sees_112 ?_
                refine lv_iload hx hb dL_sees_113 (lv_at hl 1 rfl) ?_
                refine lv_if_eq (tgt := 122) hx hb dL_sees_115 (by decide) (fun c_115_8 => ?_) (fun c_115_8 => ?_)
                · refine lv_iconst (v := 0) hx hb dL_sees_122 (by decide) ?_
                  refine lv_iadd hx hb dL_sees_123 ?_
                  refine xiast hx hb hE.1.1 hS (hP.arr 12 (by decide)) (hP.oarr 12 (by decide)) 0 rfl (k := j) rfl (show _ < 10 by omega) (by decide) dL_sees_124 (fun H1 locs1 he1 z1 oq1 hS => ?_)
                  have hP := hP.put 12 j (by decide) he1 oq1
                  refine lv_aload hx hb dL_sees_125 (lv_at hl 12 rfl) ?_
                  refine lv_iload hx hb dL_sees_127 (lv_at hl 5 rfl) ?_
                  refine lv_iconst (v := 3) hx hb dL_sees_129 (by decide) ?_
                  refine lv_idiv hx hb dL_sees_130 (by decide) ?_
                  refine W.eq (g2 := F0 m 131 ls [.int (nI (r / 3)), .ref (al 13)]) (congrArg (fun z => F0 m 131 ls [.int z, .ref (al 13)]) (r3 r hr9)) ?_
                  refine lv_dup2_11 hx hb dL_sees_131 rfl rfl ?_
                  refine xiald hx hb hE.1.1 (hP.arr 13 (by decide)) 0 rfl (k := (r / 3)) rfl (show _ < 5 by omega) (by decide) dL_sees_132 ?_
                  rw [show (up μ1 12 j ((μ1 12 j) + 0)) 13 (r / 3) = μ1 13 (r / 3) from by simp [up]]
                  refine lv_iload hx hb dL_sees_133 (lv_at hl 0 rfl) ?_
                  refine lv_isub hx hb dL_sees_135 ?_
                  refine xiast hx hb hE.1.1 hS (hP.arr 13 (by decide)) (hP.oarr 13 (by decide)) 0 rfl (k := (r / 3)) rfl (show _ < 5 by omega) (by decide) dL_sees_136 (fun H1 locs1 he1 z1 oq1 hS => ?_)
                  have hP := hP.put 13 (r / 3) (by decide) he1 oq1
                  refine lv_aload hx hb dL_sees_137 (lv_at hl 12 rfl) ?_
                  refine lv_aload_n hx hb dL_sees_139 rfl (lv_at hl 9 rfl) ?_
                  refine lv_iload hx hb dL_sees_140 (lv_at hl 2 rfl) ?_
                  refine xiald hx hb hE.1.1 (hP.arr 9 (by decide)) 0 rfl (k := j) rfl (show _ < 10 by omega) (by decide) dL_sees_142 ?_
                  rw [show (up (up μ1 12 j ((μ1 12 j) + 0)) 13 (r / 3) ((μ1 13 (r / 3)) - 0)) 9 j = μ1 9 j from by simp [up]]
                  refine lv_iconst (v := 4) hx hb dL_sees_143 (by decide) ?_
                  refine lv_irem hx hb dL_sees_144 (by decide) ?_
                  refine W.eq (g2 := F0 m 145 ls [.int (nI h), .ref (al 13)]) (congrArg (fun z => F0 m 145 ls [.int z, .ref (al 13)]) ((lr_aho hR1 hj).trans eh)) ?_
                  refine lv_dup2_11 hx hb dL_sees_145 rfl rfl ?_
                  refine xiald hx hb hE.1.1 (hP.arr 13 (by decide)) 0 rfl (k := h) rfl (show _ < 5 by omega) (by decide) dL_sees_146 ?_
                  refine lv_iload hx hb dL_sees_147 (lv_at hl 0 rfl) ?_
                  refine lv_iadd hx hb dL_sees_149 ?_
                  refine xiast hx hb hE.1.1 hS (hP.arr 13 (by decide)) (hP.oarr 13 (by decide)) 0 rfl (k := h) rfl (show _ < 5 by omega) (by decide) dL_sees_150 (fun H1 locs1 he1 z1 oq1 hS => ?_)
                  have hP := hP.put 13 h (by decide) he1 oq1
                  refine lv_aload hx hb dL_sees_151 (lv_at hl 10 rfl) ?_
                  refine lv_iload hx hb dL_sees_153 (lv_at hl 2 rfl) ?_
                  refine lv_dup2_11 hx hb dL_sees_155 rfl rfl ?_
                  refine xiald hx hb hE.1.1 (hP.arr 10 (by decide)) 0 rfl (k := j) rfl (show _ < 10 by omega) (by decide) dL_sees_156 ?_
                  rw [show (up (up (up μ1 12 j ((μ1 12 j) + 0)) 13 (r / 3) ((μ1 13 (r / 3)) - 0)) 13 h (((up (up μ1 12 j ((μ1 12 j) + 0)) 13 (r / 3) ((μ1 13 (r / 3)) - 0)) 13 h) + 0)) 10 j = μ1 10 j from by simp [up]]
                  refine lv_iload hx hb dL_sees_157 (lv_at hl 0 rfl) ?_
                  refine lv_iadd hx hb dL_sees_159 ?_
                  refine xiast hx hb hE.1.1 hS (hP.arr 10 (by decide)) (hP.oarr 10 (by decide)) 0 rfl (k := j) rfl (show _ < 10 by omega) (by decide) dL_sees_160 (fun H1 locs1 he1 z1 oq1 hS => ?_)
                  have hP := hP.put 10 j (by decide) he1 oq1
                  refine lv_iinc (v := (nI (j + 1))) (lv' := [(10, .int (nI (j + 1))), (12, .int 0), (11, .int 0), (9, .int 1), (7, .int (nI t)), (8, .int (nI r)), (0, .ref (al 0)), (1, .ref (al 5)), (2, .ref (al 6)), (3, .ref (al 9)), (4, .ref (al 10)), (5, .ref (al 12)), (6, .ref (al 13))]) hx hb dL_sees_161 hl (k := 2) rfl (nI_1 _) (by decide) rfl (fun ls hl => ?_)
                  refine lv_goto (tgt := 41) hx hb dL_sees_164 (by decide) ?_
                  exact ih41 μ1 τ1 (j + 1) (by omega) (by omega) hR1 (by rw [itr_step hj, show mView r j τ1 = τ1 from if_neg c_65_6] at hT; exact hT) _ _ _ hS (by rw [view0] at hP; exact hP) (lv_sub hl [0, 3, 4, 5, 6, 7, 8, 9, 10, 11, 12] rfl)
                · exact absurd c_115_8 (by decide)
              · exact absurd c_77_7 (by decide)
            · refine lv_iconst (v := 1) hx hb dL_sees_68 (by decide) ?_
              refine lv_goto (tgt := 73) hx hb dL_sees_69 (by decide) ?_
              refine lv_istore (lv' := [(11, .int 1), (10, .int (nI j)), (9, .int 1), (7, .int (nI t)), (8, .int (nI r)), (0, .ref (al 0)), (1, .ref (al 5)), (2, .ref (al 6)), (3, .ref (al 9)), (4, .ref (al 10)), (5, .ref (al 12)), (6, .ref (al 13))]) hx hb dL_sees_73 hl (by decide) rfl (fun ls hl => ?_)
              refine lv_iload hx hb dL_sees_75 (lv_at hl 0 rfl) ?_
              refine lv_if_eq (tgt := 104) hx hb dL_sees_77 (by decide) (fun c_77_9 => ?_) (fun c_77_9 => ?_)
              · exact absurd c_77_9 (by decide)
              · refine lv_aload_n hx hb dL_sees_80 rfl (lv_at hl 8 rfl) ?_
                refine lv_iload hx hb dL_sees_81 (lv_at hl 1 rfl) ?_
                refine xiald hx hb hE.1.1 (hP.arr 9 (by decide)) 0 rfl (k := j) rfl (show _ < 10 by omega) (by decide) dL_sees_83 ?_
                refine lv_bipush (v := 64) hx hb dL_sees_84 (by decide) ?_
                refine lv_idiv hx hb dL_sees_86 (by decide) ?_
                refine lv_iconst (v := 2) hx hb dL_sees_87 (by decide) ?_
                refine lv_irem hx hb dL_sees_88 (by decide) ?_
                refine W.eq (g2 := F0 m 89 ls [.int (τ1 19 j)]) (congrArg (fun z => F0 m 89 ls [.int z]) (lr_ale hR1 hj)) ?_
                refine lv_iconst (v := 1) hx hb dL_sees_89 (by decide) ?_
                refine lv_icmp_ne (tgt := 104) hx hb dL_sees_90 (by decide) (fun c_90_10 => ?_) (fun c_90_10 => ?_)
                · refine lv_iconst (v := 0) hx hb dL_sees_104 (by decide) ?_
                  refine lv_istore (lv' := [(12, .int 0), (11, .int 1), (10, .int (nI j)), (9, .int 1), (7, .int (nI t)), (8, .int (nI r)), (0, .ref (al 0)), (1, .ref (al 5)), (2, .ref (al 6)), (3, .ref (al 9)), (4, .ref (al 10)), (5, .ref (al 12)), (6, .ref (al 13))]) hx hb dL_sees_105 hl (by decide) rfl (fun ls hl => ?_)
                  refine lv_aload hx hb dL_sees_107 (lv_at hl 11 rfl) ?_
                  refine lv_iload hx hb dL_sees_109 (lv_at hl 2 rfl) ?_
                  refine lv_dup2_11 hx hb dL_sees_111 rfl rfl ?_
                  refine xiald hx hb hE.1.1 (hP.arr 12 (by decide)) 0 rfl (k := j) rfl (show _ < 10 by omega) (by decide) dL_sees_112 ?_
                  refine lv_iload hx hb dL_sees_113 (lv_at hl 1 rfl) ?_
                  refine lv_if_eq (tgt := 122) hx hb dL_sees_115 (by decide) (fun c_115_11 => ?_) (fun c_115_11 => ?_)
                  · exact absurd c_115_11 (by decide)
                  · refine lv_iconst (v := 1) hx hb dL_sees_118 (by decide) ?_
                    refine lv_goto (tgt := 123) hx hb dL_sees_119 (by decide) ?_
                    refine lv_iadd hx hb dL_sees_123 ?_
                    refine xiast hx hb hE.1.1 hS (hP.arr 12 (by decide)) (hP.oarr 12 (by decide)) 0 rfl (k := j) rfl (show _ < 10 by omega) (by decide) dL_sees_124 (fun H1 locs1 he1 z1 oq1 hS => ?_)
                    have hP := hP.put 12 j (by decide) he1 oq1
                    refine lv_aload hx hb dL_sees_125 (lv_at hl 12 rfl) ?_
                    refine lv_iload hx hb dL_sees_127 (lv_at hl 5 rfl) ?_
                    refine lv_iconst (v := 3) hx hb dL_sees_129 (by decide) ?_
                    refine lv_idiv hx hb dL_sees_130 (by decide) ?_
                    refine W.eq (g2 := F0 m 131 ls [.int (nI (r / 3)), .ref (al 13)]) (congrArg (fun z => F0 m 131 ls [.int z, .ref (al 13)]) (r3 r hr9)) ?_
                    refine lv_dup2_11 hx hb dL_sees_131 rfl rfl ?_
                    refine xiald hx hb hE.1.1 (hP.arr 13 (by decide)) 0 rfl (k := (r / 3)) rfl (show _ < 5 by omega) (by decide) dL_sees_132 ?_
                    rw [show (up μ1 12 j ((μ1 12 j) + 1)) 13 (r / 3) = μ1 13 (r / 3) from by simp [up]]
                    refine lv_iload hx hb dL_sees_133 (lv_at hl 0 rfl) ?_
                    refine lv_isub hx hb dL_sees_135 ?_
                    refine xiast hx hb hE.1.1 hS (hP.arr 13 (by decide)) (hP.oarr 13 (by decide)) 0 rfl (k := (r / 3)) rfl (show _ < 5 by omega) (by decide) dL_sees_136 (fun H1 locs1 he1 z1 oq1 hS => ?_)
                    have hP := hP.put 13 (r / 3) (by decide) he1 oq1
                    refine lv_aload hx hb dL_sees_137 (lv_at hl 12 rfl) ?_
                    refine lv_aload_n hx hb dL_sees_139 rfl (lv_at hl 9 rfl) ?_
                    refine lv_iload hx hb dL_sees_140 (lv_at hl 2 rfl) ?_
                    refine xiald hx hb hE.1.1 (hP.arr 9 (by decide)) 0 rfl (k := j) rfl (show _ < 10 by omega) (by decide) dL_sees_142 ?_
                    rw [show (up (up μ1 12 j ((μ1 12 j) + 1)) 13 (r / 3) ((μ1 13 (r / 3)) - 0)) 9 j = μ1 9 j from by simp [up]]
                    refine lv_iconst (v := 4) hx hb dL_sees_143 (by decide) ?_
                    refine lv_irem hx hb dL_sees_144 (by decide) ?_
                    refine W.eq (g2 := F0 m 145 ls [.int (nI h), .ref (al 13)]) (congrArg (fun z => F0 m 145 ls [.int z, .ref (al 13)]) ((lr_aho hR1 hj).trans eh)) ?_
                    refine lv_dup2_11 hx hb dL_sees_145 rfl rfl ?_
                    refine xiald hx hb hE.1.1 (hP.arr 13 (by decide)) 0 rfl (k := h) rfl (show _ < 5 by omega) (by decide) dL_sees_146 ?_
                    refine lv_iload hx hb dL_sees_147 (lv_at hl 0 rfl) ?_
                    refine lv_iadd hx hb dL_sees_149 ?_
                    refine xiast hx hb hE.1.1 hS (hP.arr 13 (by decide)) (hP.oarr 13 (by decide)) 0 rfl (k := h) rfl (show _ < 5 by omega) (by decide) dL_sees_150 (fun H1 locs1 he1 z1 oq1 hS => ?_)
                    have hP := hP.put 13 h (by decide) he1 oq1
                    refine lv_aload hx hb dL_sees_151 (lv_at hl 10 rfl) ?_
                    refine lv_iload hx hb dL_sees_153 (lv_at hl 2 rfl) ?_
                    refine lv_dup2_11 hx hb dL_sees_155 rfl rfl ?_
                    refine xiald hx hb hE.1.1 (hP.arr 10 (by decide)) 0 rfl (k := j) rfl (show _ < 10 by omega) (by decide) dL_sees_156 ?_
                    rw [show (up (up (up μ1 12 j ((μ1 12 j) + 1)) 13 (r / 3) ((μ1 13 (r / 3)) - 0)) 13 h (((up (up μ1 12 j ((μ1 12 j) + 1)) 13 (r / 3) ((μ1 13 (r / 3)) - 0)) 13 h) + 0)) 10 j = μ1 10 j from by simp [up]]
                    refine lv_iload hx hb dL_sees_157 (lv_at hl 0 rfl) ?_
                    refine lv_iadd hx hb dL_sees_159 ?_
                    refine xiast hx hb hE.1.1 hS (hP.arr 10 (by decide)) (hP.oarr 10 (by decide)) 0 rfl (k := j) rfl (show _ < 10 by omega) (by decide) dL_sees_160 (fun H1 locs1 he1 z1 oq1 hS => ?_)
                    have hP := hP.put 10 j (by decide) he1 oq1
                    refine lv_iinc (v := (nI (j + 1))) (lv' := [(10, .int (nI (j + 1))), (12, .int 0), (11, .int 1), (9, .int 1), (7, .int (nI t)), (8, .int (nI r)), (0, .ref (al 0)), (1, .ref (al 5)), (2, .ref (al 6)), (3, .ref (al 9)), (4, .ref (al 10)), (5, .ref (al 12)), (6, .ref (al 13))]) hx hb dL_sees_161 hl (k := 2) rfl (nI_1 _) (by decide) rfl (fun ls hl => ?_)
                    refine lv_goto (tgt := 41) hx hb dL_sees_164 (by decide) ?_
                    exact ih41 _ _ (j + 1) (by omega) (by omega) (hR1.view4 (j := j) hr9 hh 0) (by rw [itr_step hj, mView_eq (x := 0) c_65_6 hh eh (if_pos (Classical.not_not.mp (fun z => c_90_10 ((lr_le01 hR1 hj).mp z))))] at hT; exact hT) _ _ _ hS hP (lv_sub hl [0, 3, 4, 5, 6, 7, 8, 9, 10, 11, 12] rfl)
                · refine lv_aload_n hx hb dL_sees_93 rfl (lv_at hl 8 rfl) ?_
                  refine lv_iload hx hb dL_sees_94 (lv_at hl 1 rfl) ?_
                  refine xiald hx hb hE.1.1 (hP.arr 9 (by decide)) 0 rfl (k := j) rfl (show _ < 10 by omega) (by decide) dL_sees_96 ?_
                  refine lv_sipush (v := 128) hx hb dL_sees_97 (by decide) ?_
                  refine lv_idiv hx hb dL_sees_100 (by decide) ?_
                  refine W.eq (g2 := F0 m 101 ls [.int (τ1 20 j)]) (congrArg (fun z => F0 m 101 ls [.int z]) (lr_afe hR1 hj c_90_10)) ?_
                  refine lv_goto (tgt := 105) hx hb dL_sees_101 (by decide) ?_
                  refine lv_istore (lv' := [(12, .int (τ1 20 j)), (11, .int 1), (10, .int (nI j)), (9, .int 1), (7, .int (nI t)), (8, .int (nI r)), (0, .ref (al 0)), (1, .ref (al 5)), (2, .ref (al 6)), (3, .ref (al 9)), (4, .ref (al 10)), (5, .ref (al 12)), (6, .ref (al 13))]) hx hb dL_sees_105 hl (by decide) rfl (fun ls hl => ?_)
                  refine lv_aload hx hb dL_sees_107 (lv_at hl 11 rfl) ?_
                  refine lv_iload hx hb dL_sees_109 (lv_at hl 2 rfl) ?_
                  refine lv_dup2_11 hx hb dL_sees_111 rfl rfl ?_
                  refine xiald hx hb hE.1.1 (hP.arr 12 (by decide)) 0 rfl (k := j) rfl (show _ < 10 by omega) (by decide) dL_sees_112 ?_
                  refine lv_iload hx hb dL_sees_113 (lv_at hl 1 rfl) ?_
                  refine lv_if_eq (tgt := 122) hx hb dL_sees_115 (by decide) (fun c_115_12 => ?_) (fun c_115_12 => ?_)
                  · exact absurd c_115_12 (by decide)
                  · refine lv_iconst (v := 1) hx hb dL_sees_118 (by decide) ?_
                    refine lv_goto (tgt := 123) hx hb dL_sees_119 (by decide) ?_
                    refine lv_iadd hx hb dL_sees_123 ?_
                    refine xiast hx hb hE.1.1 hS (hP.arr 12 (by decide)) (hP.oarr 12 (by decide)) 0 rfl (k := j) rfl (show _ < 10 by omega) (by decide) dL_sees_124 (fun H1 locs1 he1 z1 oq1 hS => ?_)
                    have hP := hP.put 12 j (by decide) he1 oq1
                    refine lv_aload hx hb dL_sees_125 (lv_at hl 12 rfl) ?_
                    refine lv_iload hx hb dL_sees_127 (lv_at hl 5 rfl) ?_
                    refine lv_iconst (v := 3) hx hb dL_sees_129 (by decide) ?_
                    refine lv_idiv hx hb dL_sees_130 (by decide) ?_
                    refine W.eq (g2 := F0 m 131 ls [.int (nI (r / 3)), .ref (al 13)]) (congrArg (fun z => F0 m 131 ls [.int z, .ref (al 13)]) (r3 r hr9)) ?_
                    refine lv_dup2_11 hx hb dL_sees_131 rfl rfl ?_
                    refine xiald hx hb hE.1.1 (hP.arr 13 (by decide)) 0 rfl (k := (r / 3)) rfl (show _ < 5 by omega) (by decide) dL_sees_132 ?_
                    rw [show (up μ1 12 j ((μ1 12 j) + 1)) 13 (r / 3) = μ1 13 (r / 3) from by simp [up]]
                    refine lv_iload hx hb dL_sees_133 (lv_at hl 0 rfl) ?_
                    refine lv_isub hx hb dL_sees_135 ?_
                    refine xiast hx hb hE.1.1 hS (hP.arr 13 (by decide)) (hP.oarr 13 (by decide)) 0 rfl (k := (r / 3)) rfl (show _ < 5 by omega) (by decide) dL_sees_136 (fun H1 locs1 he1 z1 oq1 hS => ?_)
                    have hP := hP.put 13 (r / 3) (by decide) he1 oq1
                    refine lv_aload hx hb dL_sees_137 (lv_at hl 12 rfl) ?_
                    refine lv_aload_n hx hb dL_sees_139 rfl (lv_at hl 9 rfl) ?_
                    refine lv_iload hx hb dL_sees_140 (lv_at hl 2 rfl) ?_
                    refine xiald hx hb hE.1.1 (hP.arr 9 (by decide)) 0 rfl (k := j) rfl (show _ < 10 by omega) (by decide) dL_sees_142 ?_
                    rw [show (up (up μ1 12 j ((μ1 12 j) + 1)) 13 (r / 3) ((μ1 13 (r / 3)) - (τ1 20 j))) 9 j = μ1 9 j from by simp [up]]
                    refine lv_iconst (v := 4) hx hb dL_sees_143 (by decide) ?_
                    refine lv_irem hx hb dL_sees_144 (by decide) ?_
                    refine W.eq (g2 := F0 m 145 ls [.int (nI h), .ref (al 13)]) (congrArg (fun z => F0 m 145 ls [.int z, .ref (al 13)]) ((lr_aho hR1 hj).trans eh)) ?_
                    refine lv_dup2_11 hx hb dL_sees_145 rfl rfl ?_
                    refine xiald hx hb hE.1.1 (hP.arr 13 (by decide)) 0 rfl (k := h) rfl (show _ < 5 by omega) (by decide) dL_sees_146 ?_
                    refine lv_iload hx hb dL_sees_147 (lv_at hl 0 rfl) ?_
                    refine lv_iadd hx hb dL_sees_149 ?_
                    refine xiast hx hb hE.1.1 hS (hP.arr 13 (by decide)) (hP.oarr 13 (by decide)) 0 rfl (k := h) rfl (show _ < 5 by omega) (by decide) dL_sees_150 (fun H1 locs1 he1 z1 oq1 hS => ?_)
                    have hP := hP.put 13 h (by decide) he1 oq1
                    refine lv_aload hx hb dL_sees_151 (lv_at hl 10 rfl) ?_
                    refine lv_iload hx hb dL_sees_153 (lv_at hl 2 rfl) ?_
                    refine lv_dup2_11 hx hb dL_sees_155 rfl rfl ?_
                    refine xiald hx hb hE.1.1 (hP.arr 10 (by decide)) 0 rfl (k := j) rfl (show _ < 10 by omega) (by decide) dL_sees_156 ?_
                    rw [show (up (up (up μ1 12 j ((μ1 12 j) + 1)) 13 (r / 3) ((μ1 13 (r / 3)) - (τ1 20 j))) 13 h (((up (up μ1 12 j ((μ1 12 j) + 1)) 13 (r / 3) ((μ1 13 (r / 3)) - (τ1 20 j))) 13 h) + (τ1 20 j))) 10 j = μ1 10 j from by simp [up]]
                    refine lv_iload hx hb dL_sees_157 (lv_at hl 0 rfl) ?_
                    refine lv_iadd hx hb dL_sees_159 ?_
                    refine xiast hx hb hE.1.1 hS (hP.arr 10 (by decide)) (hP.oarr 10 (by decide)) 0 rfl (k := j) rfl (show _ < 10 by omega) (by decide) dL_sees_160 (fun H1 locs1 he1 z1 oq1 hS => ?_)
                    have hP := hP.put 10 j (by decide) he1 oq1
                    refine lv_iinc (v := (nI (j + 1))) (lv' := [(10, .int (nI (j + 1))), (12, .int (τ1 20 j)), (11, .int 1), (9, .int 1), (7, .int (nI t)), (8, .int (nI r)), (0, .ref (al 0)), (1, .ref (al 5)), (2, .ref (al 6)), (3, .ref (al 9)), (4, .ref (al 10)), (5, .ref (al 12)), (6, .ref (al 13))]) hx hb dL_sees_161 hl (k := 2) rfl (nI_1 _) (by decide) rfl (fun ls hl => ?_)
                    refine lv_goto (tgt := 41) hx hb dL_sees_164 (by decide) ?_
                    exact ih41 _ _ (j + 1) (by omega) (by omega) (hR1.view4 (j := j) hr9 hh (τ1 20 j)) (by rw [itr_step hj, mView_eq (x := τ1 20 j) c_65_6 hh eh (if_neg (by rw [c_90_10]; decide))] at hT; exact hT) _ _ _ hS hP (lv_sub hl [0, 3, 4, 5, 6, 7, 8, 9, 10, 11, 12] rfl)
    exact L41 (nW + 1) _ _ 0 (by omega) (by omega) (hR.look ht hr9) (if_neg hb9).symm _ _ _ hS hP (lv_sub hl [0, 1, 9, 10, 2, 3, 4, 5, 6, 7, 8] rfl)

