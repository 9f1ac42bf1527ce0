def mBit (x : Int32) (r : Nat) : Int32 := (x >>> (nI r &&& 31)) &&& 1
def mFee (τ : SG) (w : Nat) : Int32 := if τ 19 w = 0 then 0 else τ 20 w
def mV4 (τ : SG) (w r h : Nat) (x : Int32) : SG := up (up (up (up τ 23 w (τ 23 w + 1)) 24 (r / 3) (τ 24 (r / 3) - x)) 24 h ((up (up τ 23 w (τ 23 w + 1)) 24 (r / 3) (τ 24 (r / 3) - x)) 24 h + x)) 21 w (τ 21 w + x)
def mView (r w : Nat) (τ : SG) : SG := if τ 18 w = nI r then mV4 τ w r (τ 17 w).toNatClampNeg (mFee τ w) else τ
def WFm (τ : SG) (nW : Nat) : Prop := ∀ w, w < nW → ∃ h, h < 4 ∧ τ 17 w = nI h
def mSeeL (nW r : Nat) (τ : SG) : SG := itr (mView r) 0 nW τ
def mSee (nW t r : Nat) (τ : SG) : SG := if mBit (τ 13 t) r = 1 then up τ 10 t (nI r) else mSeeL nW r (up (up τ 10 t (nI r)) 13 t (τ 13 t ||| ((1 : Int32) <<< (nI r &&& 31))))
theorem mV4_ne {τ : SG} {w r h g j : Nat} {x : Int32} (hg : g ≠ 21 ∧ g ≠ 23 ∧ g ≠ 24) : mV4 τ w r h x g j = τ g j := by simp [mV4, up, hg]
theorem mView_ne {τ : SG} {w r g j : Nat} (hg : g ≠ 21 ∧ g ≠ 23 ∧ g ≠ 24) : mView r w τ g j = τ g j := by
  unfold mView
  split
  · exact mV4_ne hg
  · rfl
theorem itr_neM {f : Nat → SG → SG} {g j : Nat} (hf : ∀ i σ, f i σ g j = σ g j) : ∀ (n a : Nat) (σ : SG), itr f a n σ g j = σ g j
  | 0, _, _ => rfl
  | n + 1, a, σ => (itr_neM hf n (a + 1) (f a σ)).trans (hf a σ)
theorem mSee_ne {τ : SG} {nW t r g j : Nat} (hg : g ≠ 10 ∧ g ≠ 13 ∧ g ≠ 21 ∧ g ≠ 23 ∧ g ≠ 24) : mSee nW t r τ g j = τ g j := by
  unfold mSee
  split
  · simp [up, hg]
  · unfold mSeeL
    rw [itr_neM (fun i σ => mView_ne ⟨hg.2.2.1, hg.2.2.2.1, hg.2.2.2.2⟩)]
    simp [up, hg]
theorem mSee_10 {τ : SG} {nW t r j : Nat} : mSee nW t r τ 10 j = up τ 10 t (nI r) 10 j := by
  unfold mSee
  split
  · rfl
  · unfold mSeeL
    rw [itr_neM (fun i σ => mView_ne (by decide))]
    simp [up]
theorem WFm.view {τ : SG} {nW r w : Nat} (h : WFm τ nW) : WFm (mView r w τ) nW := fun x hx => by
  rw [mView_ne (by decide)]
  exact h x hx
theorem mView_eq {τ : SG} {w r h : Nat} {x : Int32} (c : τ 18 w = nI r) (hh : h < 4) (eh : τ 17 w = nI h) (hx : mFee τ w = x) : mView r w τ = mV4 τ w r h x := by
  unfold mView
  rw [if_pos c, eh, nI_clamp (by omega), hx]
theorem r3' (r : Nat) (hr : r < 12) : nI r / 3 = nI (r / 3) := r3 r hr
set_option maxHeartbeats 4000000 in
set_option maxRecDepth 100000 in
theorem kM_see (l : Launch) (G : GE) (A : Nat → Prop) (ad : Nat → Nat) (τ : SG) (t r : Nat) (ht : t < 80) (hr9 : r < 12) (nW : Nat) (hw : τ 16 0 = nI nW) (hnW : nW ≤ 12) (hW0 : WFm τ nW) : KM l G A yX6_see cX6_see 4 none (rmL 1 0 0) [.ref (ad 30), .int (nI t), .int (nI r)] (PM G A ad τ) (fun v H => v = none ∧ PM G A ad (mSee nW t r τ) H) (fun _ _ => False) := by
  refine KM.of (by decide) (Nat.le_of_ble_eq_true rfl) ?_
  intro p e s m args below meth c F hP ls hl
  have hx := F.1.1
  have hb := F.1.2.1
  have hown := F.1.2.2.2.1
  have hts := F.1.2.2.2.2
  have hr := F.2.1
  have hlocks := F.2.2.1
  have hE := F.2.2.2.2.2.1
  have hA := F.2.2.2.2.2.2
  have hS : va_S A s.heap s.heap [] := va_S.rf
  have hl : lv_has ls 4 [(0, .ref (ad 30)), (1, .int (nI t)), (2, .int (nI r))] := hl
  have hP := hP
  refine lv_aload_n hx hb dX6_see_0 rfl (lv_at hl 0 rfl) ?_
  refine gX6 F hP.main 10 (by decide) wFL_X6_35 (fun _ h9 => h9) (v := .ref (ad 10)) rfl dX6_see_1 ?_
  refine lv_iload_n hx hb dX6_see_4 rfl (lv_at hl 1 rfl) ?_
  refine lv_iload_n hx hb dX6_see_5 rfl (lv_at hl 2 rfl) ?_
  refine xiast hx hb hE.1.1 hS (hP.arr 10 (by decide) (by decide)) (hP.oarr 10 (by decide)) 0 rfl (k := t) rfl (show _ < 80 by omega) (by decide) dX6_see_6 (fun H1 locs1 he1 z1 oq1 hS => ?_)
  have hP := hP.parr 10 t (by decide) (by decide) he1 oq1
  refine lv_aload_n hx hb dX6_see_7 rfl (lv_at hl 0 rfl) ?_
  refine gX6 F hP.main 13 (by decide) wFL_X6_41 (fun _ h9 => h9) (v := .ref (ad 13)) rfl dX6_see_8 ?_
  refine lv_iload_n hx hb dX6_see_11 rfl (lv_at hl 1 rfl) ?_
  refine xiald hx hb hE.1.1 (hP.arr 13 (by decide) (by decide)) 0 rfl (k := t) rfl (show _ < 80 by omega) (by decide) dX6_see_12 ?_
  rw [show (up τ 10 t (nI r)) 13 t = τ 13 t from by simp [up]]
  refine lv_iload_n hx hb dX6_see_13 rfl (lv_at hl 2 rfl) ?_
  refine lv_ishr hx hb dX6_see_14 ?_
  refine lv_iconst (v := 1) hx hb dX6_see_15 (by decide) ?_
  refine lv_iand hx hb dX6_see_16 ?_
  refine lv_iconst (v := 1) hx hb dX6_see_17 (by decide) ?_
  refine lv_icmp_ne (tgt := 22) hx hb dX6_see_18 (by decide) (fun c_18_1 => ?_) (fun c_18_1 => ?_)
  · have hb9 : ¬ mBit (τ 13 t) r = 1 := c_18_1
    refine lv_aload_n hx hb dX6_see_22 rfl (lv_at hl 0 rfl) ?_
    refine gX6 F hP.main 13 (by decide) wFL_X6_41 (fun _ h9 => h9) (v := .ref (ad 13)) rfl dX6_see_23 ?_
    refine lv_iload_n hx hb dX6_see_26 rfl (lv_at hl 1 rfl) ?_
    refine lv_dup2_11 hx hb dX6_see_27 rfl rfl ?_
    refine xiald hx hb hE.1.1 (hP.arr 13 (by decide) (by decide)) 0 rfl (k := t) rfl (show _ < 80 by omega) (by decide) dX6_see_28 ?_
    rw [show (up τ 10 t (nI r)) 13 t = τ 13 t from by simp [up]]
    refine lv_iconst (v := 1) hx hb dX6_see_29 (by decide) ?_
    refine lv_iload_n hx hb dX6_see_30 rfl (lv_at hl 2 rfl) ?_
    refine lv_ishl hx hb dX6_see_31 ?_
    refine lv_ior hx hb dX6_see_32 ?_
    refine xiast hx hb hE.1.1 hS (hP.arr 13 (by decide) (by decide)) (hP.oarr 13 (by decide)) 0 rfl (k := t) rfl (show _ < 80 by omega) (by decide) dX6_see_33 (fun H1 locs1 he1 z1 oq1 hS => ?_)
    have hP := hP.parr 13 t (by decide) (by decide) he1 oq1
    refine lv_iconst (v := 0) hx hb dX6_see_34 (by decide) ?_
    refine lv_istore_n (lv' := [(3, .int 0), (0, .ref (ad 30)), (1, .int (nI t)), (2, .int (nI r))]) hx hb dX6_see_35 rfl hl (by decide) rfl (fun ls hl => ?_)
    have L36 : ∀ (n9 : Nat) (τ1 : SG) (i : Nat) (h1 : i ≤ nW) (h2 : nW < i + n9) (hT : itr (mView r) i (nW - i) τ1 = mSee nW t r τ) (hw1 : τ1 16 0 = nI nW) (hW1 : WFm τ1 nW) (H : Heap) (locs : List Loc) (ls : Array Slot), va_S A s.heap H locs → PM G A ad τ1 H → lv_has ls 4 [(3, .int (nI i)), (0, .ref (ad 30)), (1, .int (nI t)), (2, .int (nI r))] → W p l e (rmL 1 0 0) s m args below meth c H locs 0 0 (KE below A (fun v H => v = none ∧ PM G A ad (mSee nW t r τ) H) (fun _ _ => False) args s (rmL 1 0 0)) (F0 m 36 ls []) := by
      intro n9
      induction n9 with
      | zero =>
        intro τ1 i h1 h2 hT hw1 hW1 H locs ls hS hP hl
        exact absurd True.intro (by omega)
      | succ n9 ih36 =>
        intro τ1 i h1 h2 hT hw1 hW1 H locs ls hS hP hl
        refine lv_iload_n hx hb dX6_see_36 rfl (lv_at hl 0 rfl) ?_
        refine lv_aload_n hx hb dX6_see_37 rfl (lv_at hl 1 rfl) ?_
        refine gX6 F hP.main 16 (by decide) wFL_X6_91 (fun _ h9 => h9) (v := .int (nI nW)) (by simp [up, thr, hw1]) dX6_see_38 ?_
        refine lv_icmp_ge (tgt := 161) hx hb dX6_see_41 (by decide) (fun c_41_2 => ?_) (fun c_41_2 => ?_)
        · have ei := nI_eqle h1 (by omega) c_41_2
          rw [ei, itr_end] at hT
          exact kvret hx hb hr hlocks hS (by decide) (by decide) dX6_see_161 (⟨rfl, by rw [← hT]; exact hP⟩)
        · have hi := nI_lt' h1 (by omega) c_41_2
          refine lv_aload_n hx hb dX6_see_44 rfl (lv_at hl 1 rfl) ?_
          refine gX6 F hP.main 18 (by decide) wFL_X6_53 (fun _ h9 => h9) (v := .ref (ad 18)) rfl dX6_see_45 ?_
          refine lv_iload_n hx hb dX6_see_48 rfl (lv_at hl 0 rfl) ?_
          refine xiald hx hb hE.1.1 (hP.arr 18 (by decide) (by decide)) 0 rfl (k := i) rfl (show _ < 12 by omega) (by decide) dX6_see_49 ?_
          refine lv_iload_n hx hb dX6_see_50 rfl (lv_at hl 3 rfl) ?_
          refine lv_icmp_ne (tgt := 155) hx hb dX6_see_51 (by decide) (fun c_51_3 => ?_) (fun c_51_3 => ?_)
          · refine lv_iinc (v := (nI (i + 1))) (lv' := [(3, .int (nI (i + 1))), (0, .ref (ad 30)), (1, .int (nI t)), (2, .int (nI r))]) hx hb dX6_see_155 hl (k := 0) rfl (nI_1 _) (by decide) rfl (fun ls hl => ?_)
            refine lv_goto (tgt := 36) hx hb dX6_see_158 (by decide) ?_
            exact ih36 τ1 (i + 1) (by omega) (by omega) (by rw [itr_step hi, show mView r i τ1 = τ1 from if_neg c_51_3] at hT; exact hT) hw1 hW1 _ _ _ hS hP (lv_sub hl [0, 1, 2, 3] rfl)
          · obtain ⟨h, hh, eh⟩ := hW1 i hi
            refine lv_aload_n hx hb dX6_see_54 rfl (lv_at hl 1 rfl) ?_
            refine gX6 F hP.main 23 (by decide) wFL_X6_68 (fun _ h9 => h9) (v := .ref (ad 23)) rfl dX6_see_55 ?_
            refine lv_iload_n hx hb dX6_see_58 rfl (lv_at hl 0 rfl) ?_
            refine lv_dup2_11 hx hb dX6_see_59 rfl rfl ?_
            refine xiald hx hb hE.1.1 (hP.arr 23 (by decide) (by decide)) 0 rfl (k := i) rfl (show _ < 12 by omega) (by decide) dX6_see_60 ?_
            refine lv_iconst (v := 1) hx hb dX6_see_61 (by decide) ?_
            refine lv_iadd hx hb dX6_see_62 ?_
            refine xiast hx hb hE.1.1 hS (hP.arr 23 (by decide) (by decide)) (hP.oarr 23 (by decide)) 0 rfl (k := i) rfl (show _ < 12 by omega) (by decide) dX6_see_63 (fun H1 locs1 he1 z1 oq1 hS => ?_)
            have hP := hP.parr 23 i (by decide) (by decide) he1 oq1
            refine lv_aload_n hx hb dX6_see_64 rfl (lv_at hl 1 rfl) ?_
            refine gX6 F hP.main 24 (by decide) wFL_X6_71 (fun _ h9 => h9) (v := .ref (ad 24)) rfl dX6_see_65 ?_
            refine lv_iload_n hx hb dX6_see_68 rfl (lv_at hl 3 rfl) ?_
            refine lv_iconst (v := 3) hx hb dX6_see_69 (by decide) ?_
            refine lv_idiv hx hb dX6_see_70 (by decide) ?_
            refine W.eq (g2 := F0 m 71 ls [.int (nI (r / 3)), .ref (ad 24)]) (congrArg (fun z => F0 m 71 ls [.int z, .ref (ad 24)]) (r3 r hr9)) ?_
            refine lv_dup2_11 hx hb dX6_see_71 rfl rfl ?_
            refine xiald hx hb hE.1.1 (hP.arr 24 (by decide) (by decide)) 0 rfl (k := (r / 3)) rfl (show _ < 5 by omega) (by decide) dX6_see_72 ?_
            rw [show (up τ1 23 i ((τ1 23 i) + 1)) 24 (r / 3) = τ1 24 (r / 3) from by simp [up]]
            refine lv_aload_n hx hb dX6_see_73 rfl (lv_at hl 1 rfl) ?_
            refine gX6 F hP.main 19 (by decide) wFL_X6_56 (fun _ h9 => h9) (v := .ref (ad 19)) rfl dX6_see_74 ?_
            refine lv_iload_n hx hb dX6_see_77 rfl (lv_at hl 0 rfl) ?_
            refine xzald hx hb hE.1.1 (hP.arr 19 (by decide) (by decide)) 1 rfl (k := i) rfl (show _ < 12 by omega) (by decide) dX6_see_78 ?_
            rw [show (up τ1 23 i ((τ1 23 i) + 1)) 19 i = τ1 19 i from by simp [up]]
            refine lv_if_eq (tgt := 91) hx hb dX6_see_79 (by decide) (fun c_79_4 => ?_) (fun c_79_4 => ?_)
            · refine lv_iconst (v := 0) hx hb dX6_see_91 (by decide) ?_
              refine lv_isub hx hb dX6_see_92 ?_
              refine xiast hx hb hE.1.1 hS (hP.arr 24 (by decide) (by decide)) (hP.oarr 24 (by decide)) 0 rfl (k := (r / 3)) rfl (show _ < 5 by omega) (by decide) dX6_see_93 (fun H1 locs1 he1 z1 oq1 hS => ?_)
              have hP := hP.parr 24 (r / 3) (by decide) (by decide) he1 oq1
              refine lv_aload_n hx hb dX6_see_94 rfl (lv_at hl 1 rfl) ?_
              refine gX6 F hP.main 24 (by decide) wFL_X6_71 (fun _ h9 => h9) (v := .ref (ad 24)) rfl dX6_see_95 ?_
              refine lv_aload_n hx hb dX6_see_98 rfl (lv_at hl 1 rfl) ?_
              refine gX6 F hP.main 17 (by decide) wFL_X6_50 (fun _ h9 => h9) (v := .ref (ad 17)) rfl dX6_see_99 ?_
              refine lv_iload_n hx hb dX6_see_102 rfl (lv_at hl 0 rfl) ?_
              refine xiald hx hb hE.1.1 (hP.arr 17 (by decide) (by decide)) 0 rfl (k := i) rfl (show _ < 12 by omega) (by decide) dX6_see_103 ?_
              rw [show (up (up τ1 23 i ((τ1 23 i) + 1)) 24 (r / 3) ((τ1 24 (r / 3)) - 0)) 17 i = τ1 17 i from by simp [up]]
              refine W.eq (g2 := F0 m 104 ls [.int (nI h), .ref (ad 24)]) (congrArg (fun z => F0 m 104 ls [.int z, .ref (ad 24)]) (eh)) ?_
              refine lv_dup2_11 hx hb dX6_see_104 rfl rfl ?_
              refine xiald hx hb hE.1.1 (hP.arr 24 (by decide) (by decide)) 0 rfl (k := h) rfl (show _ < 5 by omega) (by decide) dX6_see_105 ?_
              refine lv_aload_n hx hb dX6_see_106 rfl (lv_at hl 1 rfl) ?_
              refine gX6 F hP.main 19 (by decide) wFL_X6_56 (fun _ h9 => h9) (v := .ref (ad 19)) rfl dX6_see_107 ?_
              refine lv_iload_n hx hb dX6_see_110 rfl (lv_at hl 0 rfl) ?_
              refine xzald hx hb hE.1.1 (hP.arr 19 (by decide) (by decide)) 1 rfl (k := i) rfl (show _ < 12 by omega) (by decide) dX6_see_111 ?_
              rw [show (up (up τ1 23 i ((τ1 23 i) + 1)) 24 (r / 3) ((τ1 24 (r / 3)) - 0)) 19 i = τ1 19 i from by simp [up]]
              refine lv_if_eq (tgt := 124) hx hb dX6_see_112 (by decide) (fun c_112_5 => ?_) (fun c_112_5 => ?_)
              · refine lv_iconst (v := 0) hx hb dX6_see_124 (by decide) ?_
                refine lv_iadd hx hb dX6_see_125 ?_
                refine xiast hx hb hE.1.1 hS (hP.arr 24 (by decide) (by decide)) (hP.oarr 24 (by decide)) 0 rfl (k := h) rfl (show _ < 5 by omega) (by decide) dX6_see_126 (fun H1 locs1 he1 z1 oq1 hS => ?_)
                have hP := hP.parr 24 h (by decide) (by decide) he1 oq1
                refine lv_aload_n hx hb dX6_see_127 rfl (lv_at hl 1 rfl) ?_
                refine gX6 F hP.main 21 (by decide) wFL_X6_62 (fun _ h9 => h9) (v := .ref (ad 21)) rfl dX6_see_128 ?_
                refine lv_iload_n hx hb dX6_see_131 rfl (lv_at hl 0 rfl) ?_
                refine lv_dup2_11 hx hb dX6_see_132 rfl rfl ?_
                refine xiald hx hb hE.1.1 (hP.arr 21 (by decide) (by decide)) 0 rfl (k := i) rfl (show _ < 12 by omega) (by decide) dX6_see_133 ?_
                rw [show (up (up (up τ1 23 i ((τ1 23 i) + 1)) 24 (r / 3) ((τ1 24 (r / 3)) - 0)) 24 h (((up (up τ1 23 i ((τ1 23 i) + 1)) 24 (r / 3) ((τ1 24 (r / 3)) - 0)) 24 h) + 0)) 21 i = τ1 21 i from by simp [up]]
                refine lv_aload_n hx hb dX6_see_134 rfl (lv_at hl 1 rfl) ?_
                refine gX6 F hP.main 19 (by decide) wFL_X6_56 (fun _ h9 => h9) (v := .ref (ad 19)) rfl dX6_see_135 ?_
                refine lv_iload_n hx hb dX6_see_138 rfl (lv_at hl 0 rfl) ?_
                refine xzald hx hb hE.1.1 (hP.arr 19 (by decide) (by decide)) 1 rfl (k := i) rfl (show _ < 12 by omega) (by decide) dX6_see_139 ?_
                rw [show (up (up (up τ1 23 i ((τ1 23 i) + 1)) 24 (r / 3) ((τ1 24 (r / 3)) - 0)) 24 h (((up (up τ1 23 i ((τ1 23 i) + 1)) 24 (r / 3) ((τ1 24 (r / 3)) - 0)) 24 h) + 0)) 19 i = τ1 19 i from by simp [up]]
                refine lv_if_eq (tgt := 152) hx hb dX6_see_140 (by decide) (fun c_140_6 => ?_) (fun c_140_6 => ?_)
                · refine lv_iconst (v := 0) hx hb dX6_see_152 (by decide) ?_
                  refine lv_iadd hx hb dX6_see_153 ?_
                  refine xiast hx hb hE.1.1 hS (hP.arr 21 (by decide) (by decide)) (hP.oarr 21 (by decide)) 0 rfl (k := i) rfl (show _ < 12 by omega) (by decide) dX6_see_154 (fun H1 locs1 he1 z1 oq1 hS => ?_)
                  have hP := hP.parr 21 i (by decide) (by decide) he1 oq1
                  refine lv_iinc (v := (nI (i + 1))) (lv' := [(3, .int (nI (i + 1))), (0, .ref (ad 30)), (1, .int (nI t)), (2, .int (nI r))]) hx hb dX6_see_155 hl (k := 0) rfl (nI_1 _) (by decide) rfl (fun ls hl => ?_)
                  refine lv_goto (tgt := 36) hx hb dX6_see_158 (by decide) ?_
                  exact ih36 _ (i + 1) (by omega) (by omega) (by rw [itr_step hi] at hT; exact hT) (by rw [mView_ne (by decide)]; exact hw1) hW1.view _ _ _ hS (show PM G A ad (mView r i τ1) _ by rw [mView_eq c_51_3 hh eh (x := 0) (if_pos c_79_4)]; exact hP) (lv_sub hl [0, 1, 2, 3] rfl)
                · exact absurd c_79_4 c_140_6
              · exact absurd c_79_4 c_112_5
            · refine lv_aload_n hx hb dX6_see_82 rfl (lv_at hl 1 rfl) ?_
              refine gX6 F hP.main 20 (by decide) wFL_X6_59 (fun _ h9 => h9) (v := .ref (ad 20)) rfl dX6_see_83 ?_
              refine lv_iload_n hx hb dX6_see_86 rfl (lv_at hl 0 rfl) ?_
              refine xiald hx hb hE.1.1 (hP.arr 20 (by decide) (by decide)) 0 rfl (k := i) rfl (show _ < 12 by omega) (by decide) dX6_see_87 ?_
              rw [show (up τ1 23 i ((τ1 23 i) + 1)) 20 i = τ1 20 i from by simp [up]]
              refine lv_goto (tgt := 92) hx hb dX6_see_88 (by decide) ?_
              refine lv_isub hx hb dX6_see_92 ?_
              refine xiast hx hb hE.1.1 hS (hP.arr 24 (by decide) (by decide)) (hP.oarr 24 (by decide)) 0 rfl (k := (r / 3)) rfl (show _ < 5 by omega) (by decide) dX6_see_93 (fun H1 locs1 he1 z1 oq1 hS => ?_)
              have hP := hP.parr 24 (r / 3) (by decide) (by decide) he1 oq1
              refine lv_aload_n hx hb dX6_see_94 rfl (lv_at hl 1 rfl) ?_
              refine gX6 F hP.main 24 (by decide) wFL_X6_71 (fun _ h9 => h9) (v := .ref (ad 24)) rfl dX6_see_95 ?_
              refine lv_aload_n hx hb dX6_see_98 rfl (lv_at hl 1 rfl) ?_
              refine gX6 F hP.main 17 (by decide) wFL_X6_50 (fun _ h9 => h9) (v := .ref (ad 17)) rfl dX6_see_99 ?_
              refine lv_iload_n hx hb dX6_see_102 rfl (lv_at hl 0 rfl) ?_
              refine xiald hx hb hE.1.1 (hP.arr 17 (by decide) (by decide)) 0 rfl (k := i) rfl (show _ < 12 by omega) (by decide) dX6_see_103 ?_
              rw [show (up (up τ1 23 i ((τ1 23 i) + 1)) 24 (r / 3) ((τ1 24 (r / 3)) - (τ1 20 i))) 17 i = τ1 17 i from by simp [up]]
              refine W.eq (g2 := F0 m 104 ls [.int (nI h), .ref (ad 24)]) (congrArg (fun z => F0 m 104 ls [.int z, .ref (ad 24)]) (eh)) ?_
              refine lv_dup2_11 hx hb dX6_see_104 rfl rfl ?_
              refine xiald hx hb hE.1.1 (hP.arr 24 (by decide) (by decide)) 0 rfl (k := h) rfl (show _ < 5 by omega) (by decide) dX6_see_105 ?_
              refine lv_aload_n hx hb dX6_see_106 rfl (lv_at hl 1 rfl) ?_
              refine gX6 F hP.main 19 (by decide) wFL_X6_56 (fun _ h9 => h9) (v := .ref (ad 19)) rfl dX6_see_107 ?_
              refine lv_iload_n hx hb dX6_see_110 rfl (lv_at hl 0 rfl) ?_
              refine xzald hx hb hE.1.1 (hP.arr 19 (by decide) (by decide)) 1 rfl (k := i) rfl (show _ < 12 by omega) (by decide) dX6_see_111 ?_
              rw [show (up (up τ1 23 i ((τ1 23 i) + 1)) 24 (r / 3) ((τ1 24 (r / 3)) - (τ1 20 i))) 19 i = τ1 19 i from by simp [up]]
              refine lv_if_eq (tgt := 124) hx hb dX6_see_112 (by decide) (fun c_112_7 => ?_) (fun c_112_7 => ?_)
              · exact absurd c_112_7 c_79_4
              · refine lv_aload_n hx hb dX6_see_115 rfl (lv_at hl 1 rfl) ?_
                refine gX6 F hP.main 20 (by decide) wFL_X6_59 (fun _ h9 => h9) (v := .ref (ad 20)) rfl dX6_see_116 ?_
                refine lv_iload_n hx hb dX6_see_119 rfl (lv_at hl 0 rfl) ?_
                refine xiald hx hb hE.1.1 (hP.arr 20 (by decide) (by decide)) 0 rfl (k := i) rfl (show _ < 12 by omega) (by decide) dX6_see_120 ?_
                rw [show (up (up τ1 23 i ((τ1 23 i) + 1)) 24 (r / 3) ((τ1 24 (r / 3)) - (τ1 20 i))) 20 i = τ1 20 i from by simp [up]]
                refine lv_goto (tgt := 125) hx hb dX6_see_121 (by decide) ?_
                refine lv_iadd hx hb dX6_see_125 ?_
                refine xiast hx hb hE.1.1 hS (hP.arr 24 (by decide) (by decide)) (hP.oarr 24 (by decide)) 0 rfl (k := h) rfl (show _ < 5 by omega) (by decide) dX6_see_126 (fun H1 locs1 he1 z1 oq1 hS => ?_)
                have hP := hP.parr 24 h (by decide) (by decide) he1 oq1
                refine lv_aload_n hx hb dX6_see_127 rfl (lv_at hl 1 rfl) ?_
                refine gX6 F hP.main 21 (by decide) wFL_X6_62 (fun _ h9 => h9) (v := .ref (ad 21)) rfl dX6_see_128 ?_
                refine lv_iload_n hx hb dX6_see_131 rfl (lv_at hl 0 rfl) ?_
                refine lv_dup2_11 hx hb dX6_see_132 rfl rfl ?_
                refine xiald hx hb hE.1.1 (hP.arr 21 (by decide) (by decide)) 0 rfl (k := i) rfl (show _ < 12 by omega) (by decide) dX6_see_133 ?_
                rw [show (up (up (up τ1 23 i ((τ1 23 i) + 1)) 24 (r / 3) ((τ1 24 (r / 3)) - (τ1 20 i))) 24 h (((up (up τ1 23 i ((τ1 23 i) + 1)) 24 (r / 3) ((τ1 24 (r / 3)) - (τ1 20 i))) 24 h) + (τ1 20 i))) 21 i = τ1 21 i from by simp [up]]
                refine lv_aload_n hx hb dX6_see_134 rfl (lv_at hl 1 rfl) ?_
                refine gX6 F hP.main 19 (by decide) wFL_X6_56 (fun _ h9 => h9) (v := .ref (ad 19)) rfl dX6_see_135 ?_
                refine lv_iload_n hx hb dX6_see_138 rfl (lv_at hl 0 rfl) ?_
                refine xzald hx hb hE.1.1 (hP.arr 19 (by decide) (by decide)) 1 rfl (k := i) rfl (show _ < 12 by omega) (by decide) dX6_see_139 ?_
                rw [show (up (up (up τ1 23 i ((τ1 23 i) + 1)) 24 (r / 3) ((τ1 24 (r / 3)) - (τ1 20 i))) 24 h (((up (up τ1 23 i ((τ1 23 i) + 1)) 24 (r / 3) ((τ1 24 (r / 3)) - (τ1 20 i))) 24 h) + (τ1 20 i))) 19 i = τ1 19 i from by simp [up]]
                refine lv_if_eq (tgt := 152) hx hb dX6_see_140 (by decide) (fun c_140_8 => ?_) (fun c_140_8 => ?_)
                · exact absurd c_140_8 c_79_4
                · refine lv_aload_n hx hb dX6_see_143 rfl (lv_at hl 1 rfl) ?_
                  refine gX6 F hP.main 20 (by decide) wFL_X6_59 (fun _ h9 => h9) (v := .ref (ad 20)) rfl dX6_see_144 ?_
                  refine lv_iload_n hx hb dX6_see_147 rfl (lv_at hl 0 rfl) ?_
                  refine xiald hx hb hE.1.1 (hP.arr 20 (by decide) (by decide)) 0 rfl (k := i) rfl (show _ < 12 by omega) (by decide) dX6_see_148 ?_
                  rw [show (up (up (up τ1 23 i ((τ1 23 i) + 1)) 24 (r / 3) ((τ1 24 (r / 3)) - (τ1 20 i))) 24 h (((up (up τ1 23 i ((τ1 23 i) + 1)) 24 (r / 3) ((τ1 24 (r / 3)) - (τ1 20 i))) 24 h) + (τ1 20 i))) 20 i = τ1 20 i from by simp [up]]
                  refine lv_goto (tgt := 153) hx hb dX6_see_149 (by decide) ?_
                  refine lv_iadd hx hb dX6_see_153 ?_
                  refine xiast hx hb hE.1.1 hS (hP.arr 21 (by decide) (by decide)) (hP.oarr 21 (by decide)) 0 rfl (k := i) rfl (show _ < 12 by omega) (by decide) dX6_see_154 (fun H1 locs1 he1 z1 oq1 hS => ?_)
                  have hP := hP.parr 21 i (by decide) (by decide) he1 oq1
                  refine lv_iinc (v := (nI (i + 1))) (lv' := [(3, .int (nI (i + 1))), (0, .ref (ad 30)), (1, .int (nI t)), (2, .int (nI r))]) hx hb dX6_see_155 hl (k := 0) rfl (nI_1 _) (by decide) rfl (fun ls hl => ?_)
                  refine lv_goto (tgt := 36) hx hb dX6_see_158 (by decide) ?_
                  exact ih36 _ (i + 1) (by omega) (by omega) (by rw [itr_step hi] at hT; exact hT) (by rw [mView_ne (by decide)]; exact hw1) hW1.view _ _ _ hS (show PM G A ad (mView r i τ1) _ by rw [mView_eq c_51_3 hh eh (x := τ1 20 i) (if_neg c_79_4)]; exact hP) (lv_sub hl [0, 1, 2, 3] rfl)
    exact L36 (nW + 1) _ 0 (by omega) (by omega) (if_neg hb9).symm (by simp [up, hw]) (fun x hx => by simp [up]; exact hW0 x hx) _ _ _ hS hP (lv_sub hl [0, 1, 2, 3] rfl)
  · have hb9 :  mBit (τ 13 t) r = 1 := c_18_1
    exact kvret hx hb hr hlocks hS (by decide) (by decide) dX6_see_21 (⟨rfl, by rw [mSee, if_pos hb9]; exact hP⟩)

def mQn (τ : SG) (n r : Nat) : Nat := cntF (fun t => decide (τ 10 t = 100 + nI r)) 0 n
def mLet (nW n r : Nat) : Nat → SG → SG
  | 0, τ => τ
  | k + 1, τ => if mQ τ n r 0 ≠ -1 ∧ nI (cntF (mIn τ (nI r)) 0 n) < τ 14 r then mLet nW n r k (mSee nW (mQ τ n r 0).toNatClampNeg r τ) else τ
theorem fnd_some {p : Nat → Bool} : ∀ (n a : Nat), fndF p a n ≠ -1 → ∃ i, a ≤ i ∧ i < a + n ∧ fndF p a n = nI i ∧ p i = true
  | 0, a, h => absurd rfl h
  | n + 1, a, h => by
    simp only [fndF] at h ⊢
    by_cases c : p a = true
    · rw [if_pos c]
      exact ⟨a, Nat.le_refl _, by omega, rfl, c⟩
    · rw [if_neg c] at h ⊢
      obtain ⟨i, h1, h2, h3, h4⟩ := fnd_some n (a + 1) h
      exact ⟨i, by omega, by omega, h3, h4⟩
theorem mQ_some {τ : SG} {n r : Nat} {pp : Int32} (h : ¬ mQ τ n r pp = -1) : ∃ i, i < n ∧ mQ τ n r pp = nI i ∧ τ 10 i = 100 + nI r := by
  obtain ⟨i, -, h2, h3, h4⟩ := fnd_some _ _ h
  refine ⟨i, by omega, h3, ?_⟩
  simp only [mAt, Bool.and_eq_true, decide_eq_true_eq] at h4
  exact h4.1
theorem cntF_mono {p q : Nat → Bool} : ∀ (n a : Nat), (∀ i, a ≤ i → i < a + n → q i = true → p i = true) → cntF q a n ≤ cntF p a n
  | 0, _, _ => Nat.le_refl _
  | n + 1, a, h => by
    have h1 := cntF_mono n (a + 1) (fun i h1 h2 => h i (by omega) (by omega))
    have h2 := h a (Nat.le_refl _) (by omega)
    simp only [cntF]
    cases cq : q a with
    | false => simp; omega
    | true => simp [h2 cq]; omega
theorem cntF_lt {p q : Nat → Bool} : ∀ (n a i : Nat), a ≤ i → i < a + n → p i = true → q i = false → (∀ i, a ≤ i → i < a + n → q i = true → p i = true) → cntF q a n < cntF p a n
  | 0, a, i, h1, h2, _, _, _ => by omega
  | n + 1, a, i, h1, h2, hp, hq, h => by
    simp only [cntF]
    by_cases c : a = i
    · subst c
      have := cntF_mono n (a + 1) (fun i h1 h2 => h i (by omega) (by omega))
      simp [hp, hq]
      omega
    · have h3 := cntF_lt n (a + 1) i (by omega) (by omega) hp hq (fun i h1 h2 => h i (by omega) (by omega))
      have h2 := h a (Nat.le_refl _) (by omega)
      cases cq : q a with
      | false => simp; omega
      | true => simp [h2 cq]; omega
theorem q_ne (r : Nat) (hr : r < 12) : ¬ nI r = 100 + nI r := (by decide +kernel : ∀ r, r < 12 → ¬ nI r = 100 + nI r) r hr
theorem mQn_see {τ : SG} {n nW r i : Nat} (hr9 : r < 12) (hi : i < n) (e : τ 10 i = 100 + nI r) : mQn (mSee nW i r τ) n r < mQn τ n r := by
  unfold mQn
  refine cntF_lt n 0 i (by omega) (by omega) (by simp [e]) ?_ (fun j _ _ hj => ?_)
  · simp only [mSee_10, up_s, decide_eq_false_iff_not]
    exact q_ne r hr9
  · simp only [mSee_10, decide_eq_true_eq] at hj ⊢
    by_cases c : j = i
    · subst c
      exact e
    · rw [← hj]
      simp [up, c]
theorem mLet_end {nW n r k : Nat} {τ : SG} (h : ¬ (mQ τ n r 0 ≠ -1 ∧ nI (cntF (mIn τ (nI r)) 0 n) < τ 14 r)) : mLet nW n r k τ = τ := by
  cases k with
  | zero => rfl
  | succ k => exact if_neg h
theorem mLet_go {nW n r k i : Nat} {τ : SG} (h : mQ τ n r 0 ≠ -1 ∧ nI (cntF (mIn τ (nI r)) 0 n) < τ 14 r) (e : mQ τ n r 0 = nI i) (hi : i < 80) : mLet nW n r (k + 1) τ = mLet nW n r k (mSee nW i r τ) := by
  show (if _ then _ else _) = _
  rw [if_pos h, e, nI_clamp (by omega)]
set_option maxHeartbeats 4000000 in
set_option maxRecDepth 100000 in
theorem kM_letIn (l : Launch) (G : GE) (A : Nat → Prop) (ad : Nat → Nat) (τ : SG) (r : Nat) (hr9 : r < 12) (n : Nat) (hn : τ 3 0 = nI n) (hn8 : n ≤ 80) (nW : Nat) (hw : τ 16 0 = nI nW) (hnW : nW ≤ 12) (hW0 : WFm τ nW) : KM l G A yX6_letIn cX6_letIn 3 none (rmL 3 0 0) [.ref (ad 30), .int (nI r)] (PM G A ad τ) (fun v H => v = none ∧ PM G A ad (mLet nW n r n τ) H) (fun _ _ => False) := by
  refine KM.of (by decide) (Nat.le_of_ble_eq_true rfl) ?_
  intro p e s m args below meth c F hP ls hl
  have hx := F.1.1
  have hb := F.1.2.1
  have hown := F.1.2.2.2.1
  have hts := F.1.2.2.2.2
  have hr := F.2.1
  have hlocks := F.2.2.1
  have hE := F.2.2.2.2.2.1
  have hA := F.2.2.2.2.2.2
  have hS : va_S A s.heap s.heap [] := va_S.rf
  have hl : lv_has ls 3 [(0, .ref (ad 30)), (1, .int (nI r))] := hl
  have hP := hP
  refine lv_aload_n hx hb dX6_letIn_0 rfl (lv_at hl 0 rfl) ?_
  refine lv_iload_n hx hb dX6_letIn_1 rfl (lv_at hl 1 rfl) ?_
  refine lv_iconst (v := 0) hx hb dX6_letIn_2 (by decide) ?_
  refine kcallV (n := 2) F (kM_inQueue l G (fun q => s.heap.size ≤ q) A ad τ r 0 n hn hn8) wML_X6_131 wIM_X6_inQueue wSE_X6_X6_inQueue wIN_X6 wCO_X6_inQueue (by decide) rfl ⟨by decide, by decide⟩ (frec F hP.main _ rfl) hS (fun q h => hA q (Nat.le_trans hS.1 h)) (fun q h => h) hP rfl hl.1 (Nat.le_of_ble_eq_true rfl) dX6_letIn_3 ⟨by decide, by decide⟩ (fun E ce q9 H1 locs1 hx9 _ _ _ _ _ => hx9.elim) (fun v H1 locs1 hv hk hS => ?_)
  have hP := hP.old hk
  subst hv
  refine lv_istore_n (lv' := [(2, .int (mQ τ n r 0)), (0, .ref (ad 30)), (1, .int (nI r))]) hx hb dX6_letIn_6 rfl hl (by decide) rfl (fun ls hl => ?_)
  have L7 : ∀ (n9 : Nat) (τ1 : SG) (k9 : Nat) (hk9 : mQn τ1 n r ≤ k9) (h2 : k9 < n9) (hT : mLet nW n r k9 τ1 = mLet nW n r n τ) (hn1 : τ1 3 0 = nI n) (hw1 : τ1 16 0 = nI nW) (hW1 : WFm τ1 nW) (H : Heap) (locs : List Loc) (ls : Array Slot), va_S A s.heap H locs → PM G A ad τ1 H → lv_has ls 3 [(2, .int (mQ τ1 n r 0)), (0, .ref (ad 30)), (1, .int (nI r))] → W p l e (rmL 3 0 0) s m args below meth c H locs 0 0 (KE below A (fun v H => v = none ∧ PM G A ad (mLet nW n r n τ) H) (fun _ _ => False) args s (rmL 3 0 0)) (F0 m 7 ls []) := by
    intro n9
    induction n9 with
    | zero =>
      intro τ1 k9 hk9 h2 hT hn1 hw1 hW1 H locs ls hS hP hl
      exact absurd True.intro (by omega)
    | succ n9 ih7 =>
      intro τ1 k9 hk9 h2 hT hn1 hw1 hW1 H locs ls hS hP hl
      refine lv_iload_n hx hb dX6_letIn_7 rfl (lv_at hl 0 rfl) ?_
      refine lv_iconst (v := (-1)) hx hb dX6_letIn_8 (by decide) ?_
      refine lv_icmp_eq (tgt := 42) hx hb dX6_letIn_9 (by decide) (fun c_9_1 => ?_) (fun c_9_1 => ?_)
      · rw [mLet_end (fun z => z.1 c_9_1)] at hT
        exact kvret hx hb hr hlocks hS (by decide) (by decide) dX6_letIn_42 (⟨rfl, by rw [← hT]; exact hP⟩)
      · obtain ⟨i, hi, eq, e10⟩ := mQ_some c_9_1
        refine lv_aload_n hx hb dX6_letIn_12 rfl (lv_at hl 1 rfl) ?_
        refine lv_iload_n hx hb dX6_letIn_13 rfl (lv_at hl 2 rfl) ?_
        refine kcallV (n := 1) F (kM_insideOf l G (fun q => H.size ≤ q) A ad τ1 (nI r) n hn1 hn8) wML_X6_134 wIM_X6_insideOf wSE_X6_X6_insideOf wIN_X6 wCO_X6_insideOf (by decide) rfl ⟨by decide, by decide⟩ (frec F hP.main _ rfl) hS (fun q h => hA q (Nat.le_trans hS.1 h)) (fun q h => h) hP rfl hl.1 (Nat.le_of_ble_eq_true rfl) dX6_letIn_14 ⟨by decide, by decide⟩ (fun E ce q9 H1 locs1 hx9 _ _ _ _ _ => hx9.elim) (fun v H1 locs1 hv hk hS => ?_)
        have hP := hP.old hk
        subst hv
        refine lv_aload_n hx hb dX6_letIn_17 rfl (lv_at hl 1 rfl) ?_
        refine gX6 F hP.main 14 (by decide) wFL_X6_44 (fun _ h9 => h9) (v := .ref (ad 14)) rfl dX6_letIn_18 ?_
        refine lv_iload_n hx hb dX6_letIn_21 rfl (lv_at hl 2 rfl) ?_
        refine xiald hx hb hE.1.1 (hP.arr 14 (by decide) (by decide)) 0 rfl (k := r) rfl (show _ < 12 by omega) (by decide) dX6_letIn_22 ?_
        refine lv_icmp_ge (tgt := 42) hx hb dX6_letIn_23 (by decide) (fun c_23_2 => ?_) (fun c_23_2 => ?_)
        · rw [mLet_end (fun z => absurd (by first | exact z.2 | (rw [← eq] at *; exact z.2)) (Int32.not_lt.mpr (by simpa using c_23_2)))] at hT
          exact kvret hx hb hr hlocks hS (by decide) (by decide) dX6_letIn_42 (⟨rfl, by rw [← hT]; exact hP⟩)
        · have hlt : nI (cntF (mIn τ1 (nI r)) 0 n) < τ1 14 r := by simpa using c_23_2
          refine lv_aload_n hx hb dX6_letIn_26 rfl (lv_at hl 1 rfl) ?_
          refine lv_iload_n hx hb dX6_letIn_27 rfl (lv_at hl 0 rfl) ?_
          refine lv_iload_n hx hb dX6_letIn_28 rfl (lv_at hl 2 rfl) ?_
          rw [eq]
          refine kcallV (n := 2) F (kM_see l G A ad τ1 i r (by omega) hr9 nW hw1 hnW hW1) wML_X6_138 wIM_X6_see wSE_X6_X6_see wIN_X6 wCO_X6_see (by decide) rfl ⟨by decide, by decide⟩ (frec F hP.main _ rfl) hS (fun _ h => h) (fun q h => hA q (Nat.le_trans hS.1 h)) hP rfl hl.1 (Nat.le_of_ble_eq_true rfl) dX6_letIn_29 ⟨by decide, by decide⟩ (fun E ce q9 H1 locs1 hx9 _ _ _ _ _ => hx9.elim) (fun v H1 locs1 hv hk hS => ?_)
          obtain ⟨rfl, hP⟩ := hv
          refine lv_aload_n hx hb dX6_letIn_32 rfl (lv_at hl 1 rfl) ?_
          refine lv_iload_n hx hb dX6_letIn_33 rfl (lv_at hl 2 rfl) ?_
          refine lv_iconst (v := 0) hx hb dX6_letIn_34 (by decide) ?_
          refine kcallV (n := 2) F (kM_inQueue l G (fun q => H1.size ≤ q) A ad (mSee nW i r τ1) r 0 n (by rw [mSee_ne (by decide)]; exact hn1) hn8) wML_X6_131 wIM_X6_inQueue wSE_X6_X6_inQueue wIN_X6 wCO_X6_inQueue (by decide) rfl ⟨by decide, by decide⟩ (frec F hP.main _ rfl) hS (fun q h => hA q (Nat.le_trans hS.1 h)) (fun q h => h) hP rfl hl.1 (Nat.le_of_ble_eq_true rfl) dX6_letIn_35 ⟨by decide, by decide⟩ (fun E ce q9 H1 locs1 hx9 _ _ _ _ _ => hx9.elim) (fun v H1 locs1 hv hk hS => ?_)
          have hP := hP.old hk
          subst hv
          refine lv_istore_n (lv' := [(2, .int (mQ (mSee nW i r τ1) n r 0)), (0, .ref (ad 30)), (1, .int (nI r))]) hx hb dX6_letIn_38 rfl hl (by decide) rfl (fun ls hl => ?_)
          refine lv_goto (tgt := 7) hx hb dX6_letIn_39 (by decide) ?_
          exact ih7 (mSee nW i r τ1) (k9 - 1) (by have := mQn_see (nW := nW) hr9 hi e10; omega) (by have := mQn_see (nW := nW) hr9 hi e10; omega) (by have h8 := mQn_see (nW := nW) hr9 hi e10; rw [← hT]; obtain ⟨k8, hk8⟩ : ∃ k8, k9 = k8 + 1 := ⟨k9 - 1, by omega⟩; rw [hk8, mLet_go ⟨c_9_1, hlt⟩ eq (by omega)]; rfl) (by rw [mSee_ne (by decide)]; exact hn1) (by rw [mSee_ne (by decide)]; exact hw1) (fun x hx => by rw [mSee_ne (by decide)]; exact hW1 x hx) _ _ _ hS hP (lv_sub hl [0, 1, 2] rfl)
  exact L7 (n + 1) τ n (by have := cntF_le (fun t => decide (τ 10 t = 100 + nI r)) n 0; exact this) (by omega) rfl hn hw hW0 _ _ _ hS hP (lv_sub hl [0, 1, 2] rfl)

