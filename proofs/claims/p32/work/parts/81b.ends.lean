theorem ag10.trans9 {a b c : SG} (h : ag10 a b) (h2 : ag10 b c) : ag10 a c := fun g hg j => (h g hg j).trans (h2 g hg j)
theorem fBel_lt {x d : Int32} : fBel x d = false ↔ x < d := by
  unfold fBel
  rw [decide_eq_false_iff_not, Int32.not_le]
theorem fBel_ge {x d : Int32} : fBel x d = true ↔ ¬ x < d := by
  unfold fBel
  rw [decide_eq_true_eq, Int32.not_lt]
set_option maxHeartbeats 4000000 in
set_option maxRecDepth 100000 in
theorem kL_ends (l : Launch) (G : GE) (A : Nat → Prop) (al : Nat → Nat) (μ τ : SG) (nT nW : Nat) (hR : LR μ τ nT nW)  : KM l G A yL_ends cL_ends 10 none (rmL 3 0 0) [.ref (al 0), .ref (al 2), .ref (al 3), .ref (al 4), .ref (al 5), .ref (al 6), .ref (al 13)] (PL G A al μ 14) (fun v H => v = none ∧ ∃ μ2, LR μ2 (mEnd nT τ) nT nW ∧ PL G A al μ2 14 H) (fun _ _ => False) := by
  refine KM.of (by decide) (Nat.le_of_ble_eq_true rfl) ?_
  intro p e s m args below meth c F hP ls hl
  have hx := F.1.1
  have hb := F.1.2.1
  have hown := F.1.2.2.2.1
  have hts := F.1.2.2.2.2
  have hr := F.2.1
  have hlocks := F.2.2.1
  have hE := F.2.2.2.2.2.1
  have hA := F.2.2.2.2.2.2
  have hS : va_S A s.heap s.heap [] := va_S.rf
  have hl : lv_has ls 10 [(0, .ref (al 0)), (1, .ref (al 2)), (2, .ref (al 3)), (3, .ref (al 4)), (4, .ref (al 5)), (5, .ref (al 6)), (6, .ref (al 13))] := hl
  have hP := hP
  obtain ⟨h60, h10⟩ := lr_n60 hR
  refine lv_iconst (v := 0) hx hb dL_ends_0 (by decide) ?_
  refine lv_istore (lv' := [(7, .int 0), (0, .ref (al 0)), (1, .ref (al 2)), (2, .ref (al 3)), (3, .ref (al 4)), (4, .ref (al 5)), (5, .ref (al 6)), (6, .ref (al 13))]) hx hb dL_ends_1 hl (by decide) rfl (fun ls hl => ?_)
  have L3 : ∀ (n9 : Nat) (μ1 τ1 : SG) (i : Nat) (h1 : i ≤ nT) (h2 : nT < i + n9) (hR1 : LR μ1 τ1 nT nW) (hT : ag10 (itr mShT 0 i (mEnd1 nT τ)) τ1) (h10 : ∀ u, u < i → τ1 10 u = -1) (H : Heap) (locs : List Loc) (ls : Array Slot), va_S A s.heap H locs → PL G A al μ1 14 H → lv_has ls 10 [(7, .int (nI i)), (0, .ref (al 0)), (1, .ref (al 2)), (2, .ref (al 3)), (3, .ref (al 4)), (4, .ref (al 5)), (5, .ref (al 6)), (6, .ref (al 13))] → W p l e (rmL 3 0 0) s m args below meth c H locs 0 0 (KE below A (fun v H => v = none ∧ ∃ μ2, LR μ2 (mEnd nT τ) nT nW ∧ PL G A al μ2 14 H) (fun _ _ => False) args s (rmL 3 0 0)) (F0 m 3 ls []) := by
    intro n9
    induction n9 with
    | zero =>
      intro μ1 τ1 i h1 h2 hR1 hT h10 H locs ls hS hP hl
      exact absurd True.intro (by omega)
    | succ n9 ih3 =>
      intro μ1 τ1 i h1 h2 hR1 hT h10 H locs ls hS hP hl
      refine lv_iload hx hb dL_ends_3 (lv_at hl 0 rfl) ?_
      refine lv_aload_n hx hb dL_ends_5 rfl (lv_at hl 1 rfl) ?_
      refine lv_iconst (v := 0) hx hb dL_ends_6 (by decide) ?_
      refine xiald hx hb hE.1.1 (hP.arr 0 (by decide)) 0 rfl (k := 0) rfl (show _ < 7 by omega) (by decide) dL_ends_7 ?_
      refine W.eq (g2 := F0 m 8 ls [.int (nI nT), .int (nI i)]) (congrArg (fun z => F0 m 8 ls [.int z, .int (nI i)]) (lr_n0 hR1)) ?_
      refine lv_icmp_ge (tgt := 48) hx hb dL_ends_8 (by decide) (fun c_8_1 => ?_) (fun c_8_1 => ?_)
      · have ei := nI_eqle h1 (by omega) c_8_1
        rw [ei] at hT h10
        have hR3 : LR μ1 (mEnd2 nT τ) nT nW := hR1.co10 hT (fun u hu => by
          rw [h10 u hu]
          unfold mEnd2
          rw [itr_neM (fun i σ => mShT_ne (by decide))]
          exact end1_10 hR hu)
        refine lv_iconst (v := 0) hx hb dL_ends_48 (by decide) ?_
        refine lv_istore (lv' := [(7, .int 0), (0, .ref (al 0)), (1, .ref (al 2)), (2, .ref (al 3)), (3, .ref (al 4)), (4, .ref (al 5)), (5, .ref (al 6)), (6, .ref (al 13))]) hx hb dL_ends_49 hl (by decide) rfl (fun ls hl => ?_)
        have L51 : ∀ (n9 : Nat) (μ2 τ2 : SG) (k : Nat) (g1 : k ≤ 6) (g2 : 6 < k + n9) (hR4 : LR μ2 τ2 nT nW) (gT : itr (mShM nT) k (6 - k) τ2 = mEnd3 nT τ) (H : Heap) (locs : List Loc) (ls : Array Slot), va_S A s.heap H locs → PL G A al μ2 14 H → lv_has ls 10 [(7, .int (nI k)), (0, .ref (al 0)), (1, .ref (al 2)), (2, .ref (al 3)), (3, .ref (al 4)), (4, .ref (al 5)), (5, .ref (al 6)), (6, .ref (al 13))] → W p l e (rmL 3 0 0) s m args below meth c H locs 0 0 (KE below A (fun v H => v = none ∧ ∃ μ2, LR μ2 (mEnd nT τ) nT nW ∧ PL G A al μ2 14 H) (fun _ _ => False) args s (rmL 3 0 0)) (F0 m 51 ls []) := by
          intro n9
          induction n9 with
          | zero =>
            intro μ2 τ2 k g1 g2 hR4 gT H locs ls hS hP hl
            exact absurd True.intro (by omega)
          | succ n9 ih51 =>
            intro μ2 τ2 k g1 g2 hR4 gT H locs ls hS hP hl
            refine lv_iload hx hb dL_ends_51 (lv_at hl 0 rfl) ?_
            refine lv_bipush (v := 6) hx hb dL_ends_53 (by decide) ?_
            refine lv_icmp_ge (tgt := 154) hx hb dL_ends_55 (by decide) (fun c_55_2 => ?_) (fun c_55_2 => ?_)
            · have ek := nI_eqle (n := 6) g1 (by decide) c_55_2
              rw [ek, itr_end] at gT
              refine lv_aload_n hx hb dL_ends_154 rfl (lv_at hl 1 rfl) ?_
              refine lv_iconst (v := 2) hx hb dL_ends_155 (by decide) ?_
              refine lv_dup2_11 hx hb dL_ends_156 rfl rfl ?_
              refine xiald hx hb hE.1.1 (hP.arr 0 (by decide)) 0 rfl (k := 2) rfl (show _ < 7 by omega) (by decide) dL_ends_157 ?_
              refine lv_iconst (v := 1) hx hb dL_ends_158 (by decide) ?_
              refine lv_iadd hx hb dL_ends_159 ?_
              refine xiast hx hb hE.1.1 hS (hP.arr 0 (by decide)) (hP.oarr 0 (by decide)) 0 rfl (k := 2) rfl (show _ < 7 by omega) (by decide) dL_ends_160 (fun H1 locs1 he1 z1 oq1 hS => ?_)
              have hP := hP.put 0 2 (by decide) he1 oq1
              exact kvret hx hb hr hlocks hS (by decide) (by decide) dL_ends_161 (⟨rfl, _, by unfold mEnd; rw [← gT, ← lr_n2 hR4]; exact hR4.n2, hP⟩)
            · have hk6 := nI_lt' (n := 6) g1 (by decide) c_55_2
              obtain ⟨s8, hs8, es8⟩ := mOr_lt hR4 k
              refine lv_iconst (v := 0) hx hb dL_ends_58 (by decide) ?_
              refine lv_istore (lv' := [(8, .int 0), (7, .int (nI k)), (0, .ref (al 0)), (1, .ref (al 2)), (2, .ref (al 3)), (3, .ref (al 4)), (4, .ref (al 5)), (5, .ref (al 6)), (6, .ref (al 13))]) hx hb dL_ends_59 hl (by decide) rfl (fun ls hl => ?_)
              refine lv_iconst (v := 0) hx hb dL_ends_61 (by decide) ?_
              refine lv_istore (lv' := [(9, .int 0), (8, .int 0), (7, .int (nI k)), (0, .ref (al 0)), (1, .ref (al 2)), (2, .ref (al 3)), (3, .ref (al 4)), (4, .ref (al 5)), (5, .ref (al 6)), (6, .ref (al 13))]) hx hb dL_ends_62 hl (by decide) rfl (fun ls hl => ?_)
              have L64 : ∀ (n9 : Nat) (y1 : Int32) (j : Nat) (f1 : j ≤ nT) (f2 : nT < j + n9) (fT : itr (mOr1 τ2 k) j (nT - j) y1 = mOr τ2 nT k) (H : Heap) (locs : List Loc) (ls : Array Slot), va_S A s.heap H locs → PL G A al μ2 14 H → lv_has ls 10 [(9, .int (nI j)), (8, .int y1), (7, .int (nI k)), (0, .ref (al 0)), (1, .ref (al 2)), (2, .ref (al 3)), (3, .ref (al 4)), (4, .ref (al 5)), (5, .ref (al 6)), (6, .ref (al 13))] → W p l e (rmL 3 0 0) s m args below meth c H locs 0 0 (KE below A (fun v H => v = none ∧ ∃ μ2, LR μ2 (mEnd nT τ) nT nW ∧ PL G A al μ2 14 H) (fun _ _ => False) args s (rmL 3 0 0)) (F0 m 64 ls []) := by
                intro n9
                induction n9 with
                | zero =>
                  intro y1 j f1 f2 fT H locs ls hS hP hl
                  exact absurd True.intro (by omega)
                | succ n9 ih64 =>
                  intro y1 j f1 f2 fT H locs ls hS hP hl
                  refine lv_iload hx hb dL_ends_64 (lv_at hl 0 rfl) ?_
                  refine lv_aload_n hx hb dL_ends_66 rfl (lv_at hl 3 rfl) ?_
                  refine lv_iconst (v := 0) hx hb dL_ends_67 (by decide) ?_
                  refine xiald hx hb hE.1.1 (hP.arr 0 (by decide)) 0 rfl (k := 0) rfl (show _ < 7 by omega) (by decide) dL_ends_68 ?_
                  refine W.eq (g2 := F0 m 69 ls [.int (nI nT), .int (nI j)]) (congrArg (fun z => F0 m 69 ls [.int z, .int (nI j)]) (lr_n0 hR4)) ?_
                  refine lv_icmp_ge (tgt := 128) hx hb dL_ends_69 (by decide) (fun c_69_3 => ?_) (fun c_69_3 => ?_)
                  · have ej := nI_eqle f1 (by omega) c_69_3
                    rw [ej, itr_end] at fT
                    subst fT
                    refine lv_aload_n hx hb dL_ends_128 rfl (lv_at hl 4 rfl) ?_
                    refine lv_iload hx hb dL_ends_129 (lv_at hl 2 rfl) ?_
                    refine xiald hx hb hE.1.1 (hP.arr 2 (by decide)) 0 rfl (k := k) rfl (show _ < 6 by omega) (by decide) dL_ends_131 ?_
                    refine W.eq (g2 := F0 m 132 ls [.int (τ2 2 k)]) (congrArg (fun z => F0 m 132 ls [.int z]) (lr_l hR4 hk6)) ?_
                    refine lv_aload_n hx hb dL_ends_132 rfl (lv_at hl 3 rfl) ?_
                    refine lv_iconst (v := 2) hx hb dL_ends_133 (by decide) ?_
                    refine xiald hx hb hE.1.1 (hP.arr 0 (by decide)) 0 rfl (k := 2) rfl (show _ < 7 by omega) (by decide) dL_ends_134 ?_
                    refine W.eq (g2 := F0 m 135 ls [.int (τ2 26 0), .int (τ2 2 k)]) (congrArg (fun z => F0 m 135 ls [.int z, .int (τ2 2 k)]) (lr_n2 hR4)) ?_
                    refine lv_icmp_lt (tgt := 148) hx hb dL_ends_135 (by decide) (fun c_135_4 => ?_) (fun c_135_4 => ?_)
                    · refine lv_iinc (v := (nI (k + 1))) (lv' := [(7, .int (nI (k + 1))), (9, .int (nI j)), (8, .int (mOr τ2 nT k)), (0, .ref (al 0)), (1, .ref (al 2)), (2, .ref (al 3)), (3, .ref (al 4)), (4, .ref (al 5)), (5, .ref (al 6)), (6, .ref (al 13))]) hx hb dL_ends_148 hl (k := 2) rfl (nI_1 _) (by decide) rfl (fun ls hl => ?_)
                      refine lv_goto (tgt := 51) hx hb dL_ends_151 (by decide) ?_
                      exact ih51 _ _ (k + 1) (by omega) (by omega) hR4 (by rw [itr_step hk6, show mShM nT k τ2 = τ2 from if_neg (by rw [fBel_lt.mpr c_135_4]; decide)] at gT; exact gT) _ _ _ hS hP (lv_sub hl [0, 3, 4, 5, 6, 7, 8, 9] rfl)
                    · refine lv_aload hx hb dL_ends_138 (lv_at hl 9 rfl) ?_
                      refine lv_sipush (v := 200) hx hb dL_ends_140 (by decide) ?_
                      refine lv_iload hx hb dL_ends_143 (lv_at hl 1 rfl) ?_
                      refine W.eq (g2 := F0 m 145 ls [.int (nI s8), .int 200, .ref (al 13)]) (congrArg (fun z => F0 m 145 ls [.int z, .int 200, .ref (al 13)]) (es8)) ?_
                      refine kcallS (n := 3) F (kL_shares l G A al μ2 τ2 nT nW hR4 200 s8 hs8) wML_L_32 wST_L_shares wIN_L wCO_L_shares (by decide) rfl ⟨by decide, by decide⟩ hS (fun _ h => h) (fun q h => hA q (Nat.le_trans hS.1 h)) hP rfl hl.1 (Nat.le_of_ble_eq_true rfl) dL_ends_145 ⟨by decide, by decide⟩ (fun E ce q9 H1 locs1 hx9 _ _ _ _ _ => hx9.elim) (fun v H1 locs1 hv hk hS => ?_)
                      obtain ⟨rfl, μ_5, hR_6, hP⟩ := hv
                      refine lv_iinc (v := (nI (k + 1))) (lv' := [(7, .int (nI (k + 1))), (9, .int (nI j)), (8, .int (mOr τ2 nT k)), (0, .ref (al 0)), (1, .ref (al 2)), (2, .ref (al 3)), (3, .ref (al 4)), (4, .ref (al 5)), (5, .ref (al 6)), (6, .ref (al 13))]) hx hb dL_ends_148 hl (k := 2) rfl (nI_1 _) (by decide) rfl (fun ls hl => ?_)
                      refine lv_goto (tgt := 51) hx hb dL_ends_151 (by decide) ?_
                      exact ih51 _ _ (k + 1) (by omega) (by omega) hR_6 (by rw [itr_step hk6, show mShM nT k τ2 = mShare 200 (nI s8) τ2 from by unfold mShM; rw [if_pos (fBel_ge.mpr c_135_4), es8]] at gT; exact gT) _ _ _ hS hP (lv_sub hl [0, 3, 4, 5, 6, 7, 8, 9] rfl)
                  · have hj := nI_lt' f1 (by omega) c_69_3
                    refine lv_iload hx hb dL_ends_72 (lv_at hl 1 rfl) ?_
                    refine lv_aload_n hx hb dL_ends_74 rfl (lv_at hl 3 rfl) ?_
                    refine lv_aload_n hx hb dL_ends_75 rfl (lv_at hl 5 rfl) ?_
                    refine lv_aload_n hx hb dL_ends_76 rfl (lv_at hl 6 rfl) ?_
                    refine lv_iload hx hb dL_ends_77 (lv_at hl 0 rfl) ?_
                    refine kcallS (n := 4) F (kL_isNow l G (fun q => H.size ≤ q) A al μ2 τ2 nT nW hR4 j hj) wML_L_28 wST_L_isNow wIN_L wCO_L_isNow (by decide) rfl ⟨by decide, by decide⟩ hS (fun q h => hA q (Nat.le_trans hS.1 h)) (fun q h => h) hP rfl hl.1 (Nat.le_of_ble_eq_true rfl) dL_ends_79 ⟨by decide, by decide⟩ (fun E ce q9 H1 locs1 hx9 _ _ _ _ _ => hx9.elim) (fun v H1 locs1 hv hk hS => ?_)
                    have hP := hP.old hk
                    subst hv
                    refine lv_if_eq (tgt := 118) hx hb dL_ends_82 (by decide) (fun c_82_7 => ?_) (fun c_82_7 => ?_)
                    · refine lv_iconst (v := 0) hx hb dL_ends_118 (by decide) ?_
                      refine lv_ior hx hb dL_ends_119 ?_
                      refine lv_istore (lv' := [(8, .int (y1 ||| 0)), (9, .int (nI j)), (7, .int (nI k)), (0, .ref (al 0)), (1, .ref (al 2)), (2, .ref (al 3)), (3, .ref (al 4)), (4, .ref (al 5)), (5, .ref (al 6)), (6, .ref (al 13))]) hx hb dL_ends_120 hl (by decide) rfl (fun ls hl => ?_)
                      refine lv_iinc (v := (nI (j + 1))) (lv' := [(9, .int (nI (j + 1))), (8, .int (y1 ||| 0)), (7, .int (nI k)), (0, .ref (al 0)), (1, .ref (al 2)), (2, .ref (al 3)), (3, .ref (al 4)), (4, .ref (al 5)), (5, .ref (al 6)), (6, .ref (al 13))]) hx hb dL_ends_122 hl (k := 1) rfl (nI_1 _) (by decide) rfl (fun ls hl => ?_)
                      refine lv_goto (tgt := 64) hx hb dL_ends_125 (by decide) ?_
                      exact ih64 (y1 ||| 0) (j + 1) (by omega) (by omega) (by rw [itr_step hj, show mOr1 τ2 k j y1 = y1 ||| 0 from if_neg (by simp [mHas, (b2i_0.mp c_82_7)])] at fT; exact fT) _ _ _ hS hP (lv_sub hl [0, 1, 2, 3, 4, 5, 6, 7, 8, 9] rfl)
                    · refine lv_aload_n hx hb dL_ends_85 rfl (lv_at hl 5 rfl) ?_
                      refine lv_iload hx hb dL_ends_86 (lv_at hl 0 rfl) ?_
                      refine xiald hx hb hE.1.1 (hP.arr 3 (by decide)) 0 rfl (k := j) rfl (show _ < 60 by omega) (by decide) dL_ends_88 ?_
                      refine lv_iconst (v := 4) hx hb dL_ends_89 (by decide) ?_
                      refine lv_irem hx hb dL_ends_90 (by decide) ?_
                      refine W.eq (g2 := F0 m 91 ls [.int (τ2 4 j), .int y1]) (congrArg (fun z => F0 m 91 ls [.int z, .int y1]) (lr_so hR4 hj)) ?_
                      refine lv_iconst (v := 2) hx hb dL_ends_91 (by decide) ?_
                      refine lv_icmp_ne (tgt := 118) hx hb dL_ends_92 (by decide) (fun c_92_8 => ?_) (fun c_92_8 => ?_)
                      · refine lv_iconst (v := 0) hx hb dL_ends_118 (by decide) ?_
                        refine lv_ior hx hb dL_ends_119 ?_
                        refine lv_istore (lv' := [(8, .int (y1 ||| 0)), (9, .int (nI j)), (7, .int (nI k)), (0, .ref (al 0)), (1, .ref (al 2)), (2, .ref (al 3)), (3, .ref (al 4)), (4, .ref (al 5)), (5, .ref (al 6)), (6, .ref (al 13))]) hx hb dL_ends_120 hl (by decide) rfl (fun ls hl => ?_)
                        refine lv_iinc (v := (nI (j + 1))) (lv' := [(9, .int (nI (j + 1))), (8, .int (y1 ||| 0)), (7, .int (nI k)), (0, .ref (al 0)), (1, .ref (al 2)), (2, .ref (al 3)), (3, .ref (al 4)), (4, .ref (al 5)), (5, .ref (al 6)), (6, .ref (al 13))]) hx hb dL_ends_122 hl (k := 1) rfl (nI_1 _) (by decide) rfl (fun ls hl => ?_)
                        refine lv_goto (tgt := 64) hx hb dL_ends_125 (by decide) ?_
                        exact ih64 (y1 ||| 0) (j + 1) (by omega) (by omega) (by rw [itr_step hj, show mOr1 τ2 k j y1 = y1 ||| 0 from if_neg (by simp [mHas, c_92_8])] at fT; exact fT) _ _ _ hS hP (lv_sub hl [0, 1, 2, 3, 4, 5, 6, 7, 8, 9] rfl)
                      · refine lv_aload_n hx hb dL_ends_95 rfl (lv_at hl 5 rfl) ?_
                        refine lv_iload hx hb dL_ends_96 (lv_at hl 0 rfl) ?_
                        refine xiald hx hb hE.1.1 (hP.arr 3 (by decide)) 0 rfl (k := j) rfl (show _ < 60 by omega) (by decide) dL_ends_98 ?_
                        refine lv_bipush (v := 16) hx hb dL_ends_99 (by decide) ?_
                        refine lv_idiv hx hb dL_ends_101 (by decide) ?_
                        refine lv_bipush (v := 8) hx hb dL_ends_102 (by decide) ?_
                        refine lv_irem hx hb dL_ends_104 (by decide) ?_
                        refine W.eq (g2 := F0 m 105 ls [.int (τ2 6 j), .int y1]) (congrArg (fun z => F0 m 105 ls [.int z, .int y1]) (lr_me hR4 hj (so9 := 2) (by decide) (by decide) c_92_8)) ?_
                        refine lv_iload hx hb dL_ends_105 (lv_at hl 2 rfl) ?_
                        refine lv_icmp_ne (tgt := 118) hx hb dL_ends_107 (by decide) (fun c_107_9 => ?_) (fun c_107_9 => ?_)
                        · refine lv_iconst (v := 0) hx hb dL_ends_118 (by decide) ?_
                          refine lv_ior hx hb dL_ends_119 ?_
                          refine lv_istore (lv' := [(8, .int (y1 ||| 0)), (9, .int (nI j)), (7, .int (nI k)), (0, .ref (al 0)), (1, .ref (al 2)), (2, .ref (al 3)), (3, .ref (al 4)), (4, .ref (al 5)), (5, .ref (al 6)), (6, .ref (al 13))]) hx hb dL_ends_120 hl (by decide) rfl (fun ls hl => ?_)
                          refine lv_iinc (v := (nI (j + 1))) (lv' := [(9, .int (nI (j + 1))), (8, .int (y1 ||| 0)), (7, .int (nI k)), (0, .ref (al 0)), (1, .ref (al 2)), (2, .ref (al 3)), (3, .ref (al 4)), (4, .ref (al 5)), (5, .ref (al 6)), (6, .ref (al 13))]) hx hb dL_ends_122 hl (k := 1) rfl (nI_1 _) (by decide) rfl (fun ls hl => ?_)
                          refine lv_goto (tgt := 64) hx hb dL_ends_125 (by decide) ?_
                          exact ih64 (y1 ||| 0) (j + 1) (by omega) (by omega) (by rw [itr_step hj, show mOr1 τ2 k j y1 = y1 ||| 0 from if_neg (by simp [mHas, c_107_9])] at fT; exact fT) _ _ _ hS hP (lv_sub hl [0, 1, 2, 3, 4, 5, 6, 7, 8, 9] rfl)
                        · refine lv_aload hx hb dL_ends_110 (lv_at hl 7 rfl) ?_
                          refine lv_iload hx hb dL_ends_112 (lv_at hl 0 rfl) ?_
                          refine xiald hx hb hE.1.1 (hP.arr 5 (by decide)) 0 rfl (k := j) rfl (show _ < 60 by omega) (by decide) dL_ends_114 ?_
                          refine W.eq (g2 := F0 m 115 ls [.int (τ2 13 j), .int y1]) (congrArg (fun z => F0 m 115 ls [.int z, .int y1]) (lr_s hR4 j)) ?_
                          refine lv_goto (tgt := 119) hx hb dL_ends_115 (by decide) ?_
                          refine lv_ior hx hb dL_ends_119 ?_
                          refine lv_istore (lv' := [(8, .int (y1 ||| (τ2 13 j))), (9, .int (nI j)), (7, .int (nI k)), (0, .ref (al 0)), (1, .ref (al 2)), (2, .ref (al 3)), (3, .ref (al 4)), (4, .ref (al 5)), (5, .ref (al 6)), (6, .ref (al 13))]) hx hb dL_ends_120 hl (by decide) rfl (fun ls hl => ?_)
                          refine lv_iinc (v := (nI (j + 1))) (lv' := [(9, .int (nI (j + 1))), (8, .int (y1 ||| (τ2 13 j))), (7, .int (nI k)), (0, .ref (al 0)), (1, .ref (al 2)), (2, .ref (al 3)), (3, .ref (al 4)), (4, .ref (al 5)), (5, .ref (al 6)), (6, .ref (al 13))]) hx hb dL_ends_122 hl (k := 1) rfl (nI_1 _) (by decide) rfl (fun ls hl => ?_)
                          refine lv_goto (tgt := 64) hx hb dL_ends_125 (by decide) ?_
                          exact ih64 (y1 ||| (τ2 13 j)) (j + 1) (by omega) (by omega) (by rw [itr_step hj, show mOr1 τ2 k j y1 = y1 ||| (τ2 13 j) from if_pos (by simp [mHas, (b2i_1.mp c_82_7), c_92_8, c_107_9])] at fT; exact fT) _ _ _ hS hP (lv_sub hl [0, 1, 2, 3, 4, 5, 6, 7, 8, 9] rfl)
              exact L64 (nT + 1) 0 0 (by omega) (by omega) rfl _ _ _ hS hP (lv_sub hl [0, 1, 2, 3, 4, 5, 6, 7, 8, 9] rfl)
        exact L51 7 μ1 (mEnd2 nT τ) 0 (by omega) (by omega) hR3 mEnd3_def _ _ _ hS hP (lv_sub hl [0, 1, 2, 3, 4, 5, 6, 7] rfl)
      · have hi := nI_lt' h1 (by omega) c_8_1
        refine lv_aload hx hb dL_ends_11 (lv_at hl 6 rfl) ?_
        refine lv_iload hx hb dL_ends_13 (lv_at hl 0 rfl) ?_
        refine lv_iconst (v := 0) hx hb dL_ends_15 (by decide) ?_
        refine xiast hx hb hE.1.1 hS (hP.arr 6 (by decide)) (hP.oarr 6 (by decide)) 0 rfl (k := i) rfl (show _ < 60 by omega) (by decide) dL_ends_16 (fun H1 locs1 he1 z1 oq1 hS => ?_)
        have hP := hP.put 6 i (by decide) he1 oq1
        have hR2 := hR1.w6 hi (Or.inl ⟨rfl, rfl⟩)
        obtain ⟨s9, hs9, es9⟩ := lr_s4 hR2 i
        refine lv_aload_n hx hb dL_ends_17 rfl (lv_at hl 1 rfl) ?_
        refine lv_aload_n hx hb dL_ends_18 rfl (lv_at hl 3 rfl) ?_
        refine lv_aload_n hx hb dL_ends_19 rfl (lv_at hl 4 rfl) ?_
        refine lv_iload hx hb dL_ends_20 (lv_at hl 0 rfl) ?_
        refine kcallS (n := 4) F (kL_isNow l G (fun q => H1.size ≤ q) A al (up μ1 6 i 0) (up τ1 10 i (-1)) nT nW hR2 i hi) wML_L_28 wST_L_isNow wIN_L wCO_L_isNow (by decide) rfl ⟨by decide, by decide⟩ hS (fun q h => hA q (Nat.le_trans hS.1 h)) (fun q h => h) hP rfl hl.1 (Nat.le_of_ble_eq_true rfl) dL_ends_22 ⟨by decide, by decide⟩ (fun E ce q9 H1 locs1 hx9 _ _ _ _ _ => hx9.elim) (fun v H1 locs1 hv hk hS => ?_)
        have hP := hP.old hk
        subst hv
        refine lv_if_eq (tgt := 42) hx hb dL_ends_25 (by decide) (fun c_25_10 => ?_) (fun c_25_10 => ?_)
        · refine lv_iinc (v := (nI (i + 1))) (lv' := [(7, .int (nI (i + 1))), (0, .ref (al 0)), (1, .ref (al 2)), (2, .ref (al 3)), (3, .ref (al 4)), (4, .ref (al 5)), (5, .ref (al 6)), (6, .ref (al 13))]) hx hb dL_ends_42 hl (k := 0) rfl (nI_1 _) (by decide) rfl (fun ls hl => ?_)
          refine lv_goto (tgt := 3) hx hb dL_ends_45 (by decide) ?_
          exact ih3 _ _ (i + 1) (by omega) (by omega) hR2 (by rw [itr_last, Nat.zero_add]; exact ((hT.sht i).trans9 (fun g hg j => (show mShT i τ1 g j = up τ1 10 i (-1) g j from by
            have a9 : ag10 (up τ1 10 i (-1)) τ1 := fun g hg j => up_f hg
            have a8 := a9.sht i g hg j
            rw [← a8]
            unfold mShT; rw [if_neg (by rw [b2i_0.mp c_25_10]; decide)])))) (fun u hu => by
            have e9 : up τ1 10 i (-1) 10 u = -1 := by
              by_cases c9 : u = i
              · subst c9; exact up_s
              · rw [up_i c9]; exact h10 u (by omega)
            exact e9) _ _ _ hS hP (lv_sub hl [0, 1, 2, 3, 4, 5, 6, 7] rfl)
        · refine lv_aload hx hb dL_ends_28 (lv_at hl 7 rfl) ?_
          refine lv_aload_n hx hb dL_ends_30 rfl (lv_at hl 4 rfl) ?_
          refine lv_iload hx hb dL_ends_31 (lv_at hl 0 rfl) ?_
          refine xiald hx hb hE.1.1 (hP.arr 4 (by decide)) 0 rfl (k := i) rfl (show _ < 60 by omega) (by decide) dL_ends_33 ?_
          rw [show (up μ1 6 i 0) 4 i = μ1 4 i from by simp [up]]
          refine W.eq (g2 := F0 m 34 ls [.int (up τ1 10 i (-1) 8 i), .ref (al 13)]) (congrArg (fun z => F0 m 34 ls [.int z, .ref (al 13)]) ((show μ1 4 i = up μ1 6 i 0 4 i from by simp [up]).trans (lr_c hR2 hi (b2i_1.mp c_25_10)))) ?_
          refine lv_aload hx hb dL_ends_34 (lv_at hl 5 rfl) ?_
          refine lv_iload hx hb dL_ends_36 (lv_at hl 0 rfl) ?_
          refine xiald hx hb hE.1.1 (hP.arr 5 (by decide)) 0 rfl (k := i) rfl (show _ < 60 by omega) (by decide) dL_ends_38 ?_
          rw [show (up μ1 6 i 0) 5 i = μ1 5 i from by simp [up]]
          refine W.eq (g2 := F0 m 39 ls [.int (nI s9), .int (up τ1 10 i (-1) 8 i), .ref (al 13)]) (congrArg (fun z => F0 m 39 ls [.int z, .int (up τ1 10 i (-1) 8 i), .ref (al 13)]) ((show μ1 5 i = up μ1 6 i 0 5 i from by simp [up]).trans ((lr_s hR2 i).trans es9))) ?_
          refine kcallS (n := 3) F (kL_shares l G A al (up μ1 6 i 0) (up τ1 10 i (-1)) nT nW hR2 (up τ1 10 i (-1) 8 i) s9 hs9) wML_L_32 wST_L_shares wIN_L wCO_L_shares (by decide) rfl ⟨by decide, by decide⟩ hS (fun _ h => h) (fun q h => hA q (Nat.le_trans hS.1 h)) hP rfl hl.1 (Nat.le_of_ble_eq_true rfl) dL_ends_39 ⟨by decide, by decide⟩ (fun E ce q9 H1 locs1 hx9 _ _ _ _ _ => hx9.elim) (fun v H1 locs1 hv hk hS => ?_)
          obtain ⟨rfl, μ_11, hR_12, hP⟩ := hv
          refine lv_iinc (v := (nI (i + 1))) (lv' := [(7, .int (nI (i + 1))), (0, .ref (al 0)), (1, .ref (al 2)), (2, .ref (al 3)), (3, .ref (al 4)), (4, .ref (al 5)), (5, .ref (al 6)), (6, .ref (al 13))]) hx hb dL_ends_42 hl (k := 0) rfl (nI_1 _) (by decide) rfl (fun ls hl => ?_)
          refine lv_goto (tgt := 3) hx hb dL_ends_45 (by decide) ?_
          exact ih3 _ _ (i + 1) (by omega) (by omega) hR_12 (by rw [itr_last, Nat.zero_add]; exact ((hT.sht i).trans9 (fun g hg j => (show mShT i τ1 g j = mShare (up τ1 10 i (-1) 8 i) (nI s9) (up τ1 10 i (-1)) g j from by
            have a9 : ag10 (up τ1 10 i (-1)) τ1 := fun g hg j => up_f hg
            have a8 := a9.sht i g hg j
            rw [← a8]
            unfold mShT; rw [if_pos (b2i_1.mp c_25_10), es9])))) (fun u hu => by
            have e9 : up τ1 10 i (-1) 10 u = -1 := by
              by_cases c9 : u = i
              · subst c9; exact up_s
              · rw [up_i c9]; exact h10 u (by omega)
            rw [mShare_ne (by decide)]; exact e9) _ _ _ hS hP (lv_sub hl [0, 1, 2, 3, 4, 5, 6, 7] rfl)
  exact L3 (nT + 1) μ τ 0 (by omega) (by omega) hR (end1_ag nT) (fun u hu => absurd hu (Nat.not_lt_zero u)) _ _ _ hS hP (lv_sub hl [0, 1, 2, 3, 4, 5, 6, 7] rfl)

