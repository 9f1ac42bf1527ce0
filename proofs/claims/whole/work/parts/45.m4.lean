def mOut (τ : SG) (r t : Nat) : Bool := decide (τ 10 t = nI r) || decide (τ 10 t = 100 + nI r)
def mClrP (r t : Nat) (x : SG × Int32) : SG × Int32 := if mOut x.1 r t = true then (up x.1 10 t (-1), x.2 + 1) else x
def mClear (τ : SG) (n r : Nat) : SG × Int32 := itr (mClrP r) 0 n (τ, 0)
theorem itrp_ne {f : Nat → SG × Int32 → SG × Int32} {g j : Nat} (hf : ∀ i x, (f i x).1 g j = x.1 g j) : ∀ (n a : Nat) (x : SG × Int32), (itr f a n x).1 g j = x.1 g j
  | 0, _, _ => rfl
  | n + 1, a, x => (itrp_ne hf n (a + 1) (f a x)).trans (hf a x)
theorem mClear_ne {τ : SG} {n r g j : Nat} (hg : g ≠ 10) : (mClear τ n r).1 g j = τ g j := by
  unfold mClear
  rw [itrp_ne (fun i x => by unfold mClrP; split <;> simp [up, hg])]
def mBits (se : Int32) : Int32 := itr (fun r x => x + mBit se r) 0 12 0
def mPart (am se : Int32) : Int32 := if mBits se = 0 then 0 else am / mBits se
def mShr1 (se pt : Int32) (r : Nat) (τ : SG) : SG := up τ 24 (r / 3) (τ 24 (r / 3) + if mBit se r = 1 then pt else 0)
def mShrL (se pt : Int32) (τ : SG) : SG := itr (mShr1 se pt) 0 12 τ
def mShare (am se : Int32) (τ : SG) : SG := up (mShrL se (mPart am se) τ) 24 4 (mShrL se (mPart am se) τ 24 4 + (am - mPart am se * mBits se))
theorem mShrL_ne {τ : SG} {se pt : Int32} {g j : Nat} (hg : g ≠ 24) : mShrL se pt τ g j = τ g j := itr_neM (fun i σ => by simp [mShr1, up, hg]) _ _ _
theorem mShare_ne {τ : SG} {am se : Int32} {g j : Nat} (hg : g ≠ 24) : mShare am se τ g j = τ g j := by
  unfold mShare
  rw [show ∀ (σ : SG) (v : Int32), up σ 24 4 v g j = σ g j from fun σ v => by simp [up, hg]]
  exact mShrL_ne hg
set_option maxHeartbeats 4000000 in
set_option maxRecDepth 100000 in
theorem kM_clear (l : Launch) (G : GE) (A : Nat → Prop) (ad : Nat → Nat) (τ : SG) (r : Nat) (n : Nat) (hn : τ 3 0 = nI n) (hn8 : n ≤ 80) : KM l G A yX6_clear cX6_clear 4 (some .int) (rmL 1 0 0) [.ref (ad 30), .int (nI r)] (PM G A ad τ) (fun v H => v = some (.int (mClear τ n r).2) ∧ PM G A ad (mClear τ n r).1 H) (fun _ _ => False) := by
  refine KM.of (by decide) (Nat.le_of_ble_eq_true rfl) ?_
  intro p e s m args below meth c F hP ls hl
  have hx := F.1.1
  have hb := F.1.2.1
  have hown := F.1.2.2.2.1
  have hts := F.1.2.2.2.2
  have hr := F.2.1
  have hlocks := F.2.2.1
  have hE := F.2.2.2.2.2.1
  have hA := F.2.2.2.2.2.2
  have hS : va_S A s.heap s.heap [] := va_S.rf
  have hl : lv_has ls 4 [(0, .ref (ad 30)), (1, .int (nI r))] := hl
  have hP := hP
  refine lv_iconst (v := 0) hx hb dX6_clear_0 (by decide) ?_
  refine lv_istore_n (lv' := [(2, .int 0), (0, .ref (ad 30)), (1, .int (nI r))]) hx hb dX6_clear_1 rfl hl (by decide) rfl (fun ls hl => ?_)
  refine lv_iconst (v := 0) hx hb dX6_clear_2 (by decide) ?_
  refine lv_istore_n (lv' := [(3, .int 0), (2, .int 0), (0, .ref (ad 30)), (1, .int (nI r))]) hx hb dX6_clear_3 rfl hl (by decide) rfl (fun ls hl => ?_)
  have L4 : ∀ (n9 : Nat) (τ1 : SG) (x1 : Int32) (i : Nat) (h1 : i ≤ n) (h2 : n < i + n9) (hT : itr (mClrP r) i (n - i) (τ1, x1) = mClear τ n r) (hn1 : τ1 3 0 = nI n) (H : Heap) (locs : List Loc) (ls : Array Slot), va_S A s.heap H locs → PM G A ad τ1 H → lv_has ls 4 [(3, .int (nI i)), (2, .int x1), (0, .ref (ad 30)), (1, .int (nI r))] → W p l e (rmL 1 0 0) s m args below meth c H locs 0 0 (KE below A (fun v H => v = some (.int (mClear τ n r).2) ∧ PM G A ad (mClear τ n r).1 H) (fun _ _ => False) args s (rmL 1 0 0)) (F0 m 4 ls []) := by
    intro n9
    induction n9 with
    | zero =>
      intro τ1 x1 i h1 h2 hT hn1 H locs ls hS hP hl
      exact absurd True.intro (by omega)
    | succ n9 ih4 =>
      intro τ1 x1 i h1 h2 hT hn1 H locs ls hS hP hl
      refine lv_iload_n hx hb dX6_clear_4 rfl (lv_at hl 0 rfl) ?_
      refine lv_aload_n hx hb dX6_clear_5 rfl (lv_at hl 2 rfl) ?_
      refine gX6 F hP.main 3 (by decide) wFL_X6_88 (fun _ h9 => h9) (v := .int (nI n)) (by simp [up, thr, hn1]) dX6_clear_6 ?_
      refine lv_icmp_ge (tgt := 51) hx hb dX6_clear_9 (by decide) (fun c_9_1 => ?_) (fun c_9_1 => ?_)
      · have ei := nI_eqle h1 (by omega) c_9_1
        rw [ei, itr_end] at hT
        refine lv_iload_n hx hb dX6_clear_51 rfl (lv_at hl 1 rfl) ?_
        exact kiret hx hb hr hlocks hS (by decide) (by decide) dX6_clear_52 (⟨by rw [← hT], by rw [← hT]; exact hP⟩)
      · have hi := nI_lt' h1 (by omega) c_9_1
        refine lv_aload_n hx hb dX6_clear_12 rfl (lv_at hl 2 rfl) ?_
        refine gX6 F hP.main 10 (by decide) wFL_X6_35 (fun _ h9 => h9) (v := .ref (ad 10)) rfl dX6_clear_13 ?_
        refine lv_iload_n hx hb dX6_clear_16 rfl (lv_at hl 0 rfl) ?_
        refine xiald hx hb hE.1.1 (hP.arr 10 (by decide) (by decide)) 0 rfl (k := i) rfl (show _ < 80 by omega) (by decide) dX6_clear_17 ?_
        refine lv_iload_n hx hb dX6_clear_18 rfl (lv_at hl 3 rfl) ?_
        refine lv_icmp_eq (tgt := 35) hx hb dX6_clear_19 (by decide) (fun c_19_2 => ?_) (fun c_19_2 => ?_)
        · refine lv_aload_n hx hb dX6_clear_35 rfl (lv_at hl 2 rfl) ?_
          refine gX6 F hP.main 10 (by decide) wFL_X6_35 (fun _ h9 => h9) (v := .ref (ad 10)) rfl dX6_clear_36 ?_
          refine lv_iload_n hx hb dX6_clear_39 rfl (lv_at hl 0 rfl) ?_
          refine lv_iconst (v := (-1)) hx hb dX6_clear_40 (by decide) ?_
          refine xiast hx hb hE.1.1 hS (hP.arr 10 (by decide) (by decide)) (hP.oarr 10 (by decide)) 0 rfl (k := i) rfl (show _ < 80 by omega) (by decide) dX6_clear_41 (fun H1 locs1 he1 z1 oq1 hS => ?_)
          have hP := hP.parr 10 i (by decide) (by decide) he1 oq1
          refine lv_iinc (v := (x1 + 1)) (lv' := [(2, .int (x1 + 1)), (3, .int (nI i)), (0, .ref (ad 30)), (1, .int (nI r))]) hx hb dX6_clear_42 hl (k := 1) rfl rfl (by decide) rfl (fun ls hl => ?_)
          refine lv_iinc (v := (nI (i + 1))) (lv' := [(3, .int (nI (i + 1))), (2, .int (x1 + 1)), (0, .ref (ad 30)), (1, .int (nI r))]) hx hb dX6_clear_45 hl (k := 1) rfl (nI_1 _) (by decide) rfl (fun ls hl => ?_)
          refine lv_goto (tgt := 4) hx hb dX6_clear_48 (by decide) ?_
          exact ih4 (up τ1 10 i (-1)) (x1 + 1) (i + 1) (by omega) (by omega) (by rw [itr_step hi, show mClrP r i (τ1, x1) = (up τ1 10 i (-1), x1 + 1) from if_pos (by simp [mOut, c_19_2])] at hT; exact hT) (by simp [up, hn1]) _ _ _ hS hP (lv_sub hl [0, 1, 2, 3] rfl)
        · refine lv_aload_n hx hb dX6_clear_22 rfl (lv_at hl 2 rfl) ?_
          refine gX6 F hP.main 10 (by decide) wFL_X6_35 (fun _ h9 => h9) (v := .ref (ad 10)) rfl dX6_clear_23 ?_
          refine lv_iload_n hx hb dX6_clear_26 rfl (lv_at hl 0 rfl) ?_
          refine xiald hx hb hE.1.1 (hP.arr 10 (by decide) (by decide)) 0 rfl (k := i) rfl (show _ < 80 by omega) (by decide) dX6_clear_27 ?_
          refine lv_bipush (v := 100) hx hb dX6_clear_28 (by decide) ?_
          refine lv_iload_n hx hb dX6_clear_30 rfl (lv_at hl 3 rfl) ?_
          refine lv_iadd hx hb dX6_clear_31 ?_
          refine lv_icmp_ne (tgt := 45) hx hb dX6_clear_32 (by decide) (fun c_32_3 => ?_) (fun c_32_3 => ?_)
          · refine lv_iinc (v := (nI (i + 1))) (lv' := [(3, .int (nI (i + 1))), (2, .int x1), (0, .ref (ad 30)), (1, .int (nI r))]) hx hb dX6_clear_45 hl (k := 0) rfl (nI_1 _) (by decide) rfl (fun ls hl => ?_)
            refine lv_goto (tgt := 4) hx hb dX6_clear_48 (by decide) ?_
            exact ih4 τ1 x1 (i + 1) (by omega) (by omega) (by rw [itr_step hi, show mClrP r i (τ1, x1) = (τ1, x1) from if_neg (by simp [mOut, c_19_2, c_32_3])] at hT; exact hT) hn1 _ _ _ hS hP (lv_sub hl [0, 1, 2, 3] rfl)
          · refine lv_aload_n hx hb dX6_clear_35 rfl (lv_at hl 2 rfl) ?_
            refine gX6 F hP.main 10 (by decide) wFL_X6_35 (fun _ h9 => h9) (v := .ref (ad 10)) rfl dX6_clear_36 ?_
            refine lv_iload_n hx hb dX6_clear_39 rfl (lv_at hl 0 rfl) ?_
            refine lv_iconst (v := (-1)) hx hb dX6_clear_40 (by decide) ?_
            refine xiast hx hb hE.1.1 hS (hP.arr 10 (by decide) (by decide)) (hP.oarr 10 (by decide)) 0 rfl (k := i) rfl (show _ < 80 by omega) (by decide) dX6_clear_41 (fun H1 locs1 he1 z1 oq1 hS => ?_)
            have hP := hP.parr 10 i (by decide) (by decide) he1 oq1
            refine lv_iinc (v := (x1 + 1)) (lv' := [(2, .int (x1 + 1)), (3, .int (nI i)), (0, .ref (ad 30)), (1, .int (nI r))]) hx hb dX6_clear_42 hl (k := 1) rfl rfl (by decide) rfl (fun ls hl => ?_)
            refine lv_iinc (v := (nI (i + 1))) (lv' := [(3, .int (nI (i + 1))), (2, .int (x1 + 1)), (0, .ref (ad 30)), (1, .int (nI r))]) hx hb dX6_clear_45 hl (k := 1) rfl (nI_1 _) (by decide) rfl (fun ls hl => ?_)
            refine lv_goto (tgt := 4) hx hb dX6_clear_48 (by decide) ?_
            exact ih4 (up τ1 10 i (-1)) (x1 + 1) (i + 1) (by omega) (by omega) (by rw [itr_step hi, show mClrP r i (τ1, x1) = (up τ1 10 i (-1), x1 + 1) from if_pos (by simp [mOut, c_19_2, c_32_3])] at hT; exact hT) (by simp [up, hn1]) _ _ _ hS hP (lv_sub hl [0, 1, 2, 3] rfl)
  exact L4 (n + 1) τ 0 0 (by omega) (by omega) rfl hn _ _ _ hS hP (lv_sub hl [0, 1, 2, 3] rfl)

set_option maxHeartbeats 4000000 in
set_option maxRecDepth 100000 in
theorem kM_bits (l : Launch) (G : GE) (A1 : Nat → Prop) (se : Int32) : KM l G A1 yX6_bits cX6_bits 3 (some .int) (rmL 1 0 0) [.int se] (fun _ => True) (fun v _ => v = some (.int (mBits se))) (fun _ _ => False) := by
  refine KM.of (by decide) (Nat.le_of_ble_eq_true rfl) ?_
  intro p e s m args below meth c F hP ls hl
  have hx := F.1.1
  have hb := F.1.2.1
  have hown := F.1.2.2.2.1
  have hts := F.1.2.2.2.2
  have hr := F.2.1
  have hlocks := F.2.2.1
  have hE := F.2.2.2.2.2.1
  have hA := F.2.2.2.2.2.2
  have hS : va_S A1 s.heap s.heap [] := va_S.rf
  have hl : lv_has ls 3 [(0, .int se)] := hl
  have hP := hP
  refine lv_iconst (v := 0) hx hb dX6_bits_0 (by decide) ?_
  refine lv_istore_n (lv' := [(1, .int 0), (0, .int se)]) hx hb dX6_bits_1 rfl hl (by decide) rfl (fun ls hl => ?_)
  refine lv_iconst (v := 0) hx hb dX6_bits_2 (by decide) ?_
  refine lv_istore_n (lv' := [(2, .int 0), (1, .int 0), (0, .int se)]) hx hb dX6_bits_3 rfl hl (by decide) rfl (fun ls hl => ?_)
  have L4 : ∀ (n9 : Nat) (x1 : Int32) (i : Nat) (h1 : i ≤ 12) (h2 : 12 < i + n9) (hT : itr (fun r x => x + mBit se r) i (12 - i) x1 = mBits se) (H : Heap) (locs : List Loc) (ls : Array Slot), va_S A1 s.heap H locs → lv_has ls 3 [(2, .int (nI i)), (1, .int x1), (0, .int se)] → W p l e (rmL 1 0 0) s m args below meth c H locs 0 0 (KE below A1 (fun v _ => v = some (.int (mBits se))) (fun _ _ => False) args s (rmL 1 0 0)) (F0 m 4 ls []) := by
    intro n9
    induction n9 with
    | zero =>
      intro x1 i h1 h2 hT H locs ls hS  hl
      exact absurd True.intro (by omega)
    | succ n9 ih4 =>
      intro x1 i h1 h2 hT H locs ls hS  hl
      refine lv_iload_n hx hb dX6_bits_4 rfl (lv_at hl 0 rfl) ?_
      refine lv_bipush (v := 12) hx hb dX6_bits_5 (by decide) ?_
      refine lv_icmp_ge (tgt := 24) hx hb dX6_bits_7 (by decide) (fun c_7_1 => ?_) (fun c_7_1 => ?_)
      · have ei := nI_eqle (n := 12) h1 (by decide) c_7_1
        rw [ei, itr_end] at hT
        refine lv_iload_n hx hb dX6_bits_24 rfl (lv_at hl 1 rfl) ?_
        exact kiret hx hb hr hlocks hS (by decide) (by decide) dX6_bits_25 (by rw [hT])
      · have hi := nI_lt' (n := 12) h1 (by decide) c_7_1
        refine lv_iload_n hx hb dX6_bits_10 rfl (lv_at hl 1 rfl) ?_
        refine lv_iload_n hx hb dX6_bits_11 rfl (lv_at hl 2 rfl) ?_
        refine lv_iload_n hx hb dX6_bits_12 rfl (lv_at hl 0 rfl) ?_
        refine lv_ishr hx hb dX6_bits_13 ?_
        refine lv_iconst (v := 1) hx hb dX6_bits_14 (by decide) ?_
        refine lv_iand hx hb dX6_bits_15 ?_
        refine lv_iadd hx hb dX6_bits_16 ?_
        refine lv_istore_n (lv' := [(1, .int (x1 + ((se >>> ((nI i) &&& 31)) &&& 1))), (2, .int (nI i)), (0, .int se)]) hx hb dX6_bits_17 rfl hl (by decide) rfl (fun ls hl => ?_)
        refine lv_iinc (v := (nI (i + 1))) (lv' := [(2, .int (nI (i + 1))), (1, .int (x1 + ((se >>> ((nI i) &&& 31)) &&& 1))), (0, .int se)]) hx hb dX6_bits_18 hl (k := 1) rfl (nI_1 _) (by decide) rfl (fun ls hl => ?_)
        refine lv_goto (tgt := 4) hx hb dX6_bits_21 (by decide) ?_
        exact ih4 _ (i + 1) (by omega) (by omega) (by rw [itr_step hi] at hT; exact hT) _ _ _ hS (lv_sub hl [0, 1, 2] rfl)
  exact L4 13 0 0 (by omega) (by omega) rfl _ _ _ hS (lv_sub hl [0, 1, 2] rfl)

set_option maxHeartbeats 4000000 in
set_option maxRecDepth 100000 in
theorem kM_share (l : Launch) (G : GE) (A : Nat → Prop) (ad : Nat → Nat) (τ : SG) (am se : Int32) : KM l G A yX6_share cX6_share 6 none (rmL 2 0 0) [.ref (ad 30), .int am, .int se] (PM G A ad τ) (fun v H => v = none ∧ PM G A ad (mShare am se τ) H) (fun _ _ => False) := by
  refine KM.of (by decide) (Nat.le_of_ble_eq_true rfl) ?_
  intro p e s m args below meth c F hP ls hl
  have hx := F.1.1
  have hb := F.1.2.1
  have hown := F.1.2.2.2.1
  have hts := F.1.2.2.2.2
  have hr := F.2.1
  have hlocks := F.2.2.1
  have hE := F.2.2.2.2.2.1
  have hA := F.2.2.2.2.2.2
  have hS : va_S A s.heap s.heap [] := va_S.rf
  have hl : lv_has ls 6 [(0, .ref (ad 30)), (1, .int am), (2, .int se)] := hl
  have hP := hP
  refine lv_iload_n hx hb dX6_share_0 rfl (lv_at hl 2 rfl) ?_
  refine kcallS (n := 1) F (kM_bits l G (fun q => s.heap.size ≤ q) se) wML_X6_162 wST_X6_bits wIN_X6 wCO_X6_bits (by decide) rfl ⟨by decide, by decide⟩ hS (fun q h => hA q (Nat.le_trans hS.1 h)) (fun q h => h) trivial rfl hl.1 (Nat.le_of_ble_eq_true rfl) dX6_share_1 ⟨by decide, by decide⟩ (fun E ce q9 H1 locs1 hx9 _ _ _ _ _ => hx9.elim) (fun v H1 locs1 hv hk hS => ?_)
  have hP := hP.old hk
  subst hv
  refine lv_istore_n (lv' := [(3, .int (mBits se)), (0, .ref (ad 30)), (1, .int am), (2, .int se)]) hx hb dX6_share_4 rfl hl (by decide) rfl (fun ls hl => ?_)
  refine lv_iload_n hx hb dX6_share_5 rfl (lv_at hl 0 rfl) ?_
  refine lv_if_ne (tgt := 13) hx hb dX6_share_6 (by decide) (fun c_6_1 => ?_) (fun c_6_1 => ?_)
  · refine lv_iload_n hx hb dX6_share_13 rfl (lv_at hl 2 rfl) ?_
    refine lv_iload_n hx hb dX6_share_14 rfl (lv_at hl 0 rfl) ?_
    refine lv_idiv hx hb dX6_share_15 c_6_1 ?_
    rw [show (am / (mBits se) : Int32) = mPart am se from (if_neg c_6_1).symm]
    refine lv_istore (lv' := [(4, .int (mPart am se)), (3, .int (mBits se)), (0, .ref (ad 30)), (1, .int am), (2, .int se)]) hx hb dX6_share_16 hl (by decide) rfl (fun ls hl => ?_)
    refine lv_iconst (v := 0) hx hb dX6_share_18 (by decide) ?_
    refine lv_istore (lv' := [(5, .int 0), (4, .int (mPart am se)), (3, .int (mBits se)), (0, .ref (ad 30)), (1, .int am), (2, .int se)]) hx hb dX6_share_19 hl (by decide) rfl (fun ls hl => ?_)
    have L21 : ∀ (n9 : Nat) (τ1 : SG) (i : Nat) (h1 : i ≤ 12) (h2 : 12 < i + n9) (hT : itr (mShr1 se (mPart am se)) i (12 - i) τ1 = mShrL se (mPart am se) τ) (H : Heap) (locs : List Loc) (ls : Array Slot), va_S A s.heap H locs → PM G A ad τ1 H → lv_has ls 6 [(5, .int (nI i)), (4, .int (mPart am se)), (0, .ref (ad 30)), (1, .int am), (2, .int se), (3, .int (mBits se))] → W p l e (rmL 2 0 0) s m args below meth c H locs 0 0 (KE below A (fun v H => v = none ∧ PM G A ad (mShare am se τ) H) (fun _ _ => False) args s (rmL 2 0 0)) (F0 m 21 ls []) := by
      intro n9
      induction n9 with
      | zero =>
        intro τ1 i h1 h2 hT H locs ls hS hP hl
        exact absurd True.intro (by omega)
      | succ n9 ih21 =>
        intro τ1 i h1 h2 hT H locs ls hS hP hl
        refine lv_iload hx hb dX6_share_21 (lv_at hl 0 rfl) ?_
        refine lv_bipush (v := 12) hx hb dX6_share_23 (by decide) ?_
        refine lv_icmp_ge (tgt := 62) hx hb dX6_share_25 (by decide) (fun c_25_2 => ?_) (fun c_25_2 => ?_)
        · have ei := nI_eqle (n := 12) h1 (by decide) c_25_2
          rw [ei, itr_end] at hT
          refine lv_aload_n hx hb dX6_share_62 rfl (lv_at hl 2 rfl) ?_
          refine gX6 F hP.main 24 (by decide) wFL_X6_71 (fun _ h9 => h9) (v := .ref (ad 24)) rfl dX6_share_63 ?_
          refine lv_iconst (v := 4) hx hb dX6_share_66 (by decide) ?_
          refine W.eq (g2 := F0 m 67 ls [.int (nI 4), .ref (ad 24)]) (congrArg (fun z => F0 m 67 ls [.int z, .ref (ad 24)]) ((rfl : (4 : Int32) = nI 4))) ?_
          refine lv_dup2_11 hx hb dX6_share_67 rfl rfl ?_
          refine xiald hx hb hE.1.1 (hP.arr 24 (by decide) (by decide)) 0 rfl (k := 4) rfl (show _ < 5 by omega) (by decide) dX6_share_68 ?_
          refine lv_iload_n hx hb dX6_share_69 rfl (lv_at hl 3 rfl) ?_
          refine lv_iload hx hb dX6_share_70 (lv_at hl 1 rfl) ?_
          refine lv_iload_n hx hb dX6_share_72 rfl (lv_at hl 5 rfl) ?_
          refine lv_imul hx hb dX6_share_73 ?_
          refine lv_isub hx hb dX6_share_74 ?_
          refine lv_iadd hx hb dX6_share_75 ?_
          refine xiast hx hb hE.1.1 hS (hP.arr 24 (by decide) (by decide)) (hP.oarr 24 (by decide)) 0 rfl (k := 4) rfl (show _ < 5 by omega) (by decide) dX6_share_76 (fun H1 locs1 he1 z1 oq1 hS => ?_)
          have hP := hP.parr 24 4 (by decide) (by decide) he1 oq1
          exact kvret hx hb hr hlocks hS (by decide) (by decide) dX6_share_77 (⟨rfl, by rw [hT] at hP; exact hP⟩)
        · have hi := nI_lt' (n := 12) h1 (by decide) c_25_2
          refine lv_aload_n hx hb dX6_share_28 rfl (lv_at hl 2 rfl) ?_
          refine gX6 F hP.main 24 (by decide) wFL_X6_71 (fun _ h9 => h9) (v := .ref (ad 24)) rfl dX6_share_29 ?_
          refine lv_iload hx hb dX6_share_32 (lv_at hl 0 rfl) ?_
          refine lv_iconst (v := 3) hx hb dX6_share_34 (by decide) ?_
          refine lv_idiv hx hb dX6_share_35 (by decide) ?_
          refine W.eq (g2 := F0 m 36 ls [.int (nI (i / 3)), .ref (ad 24)]) (congrArg (fun z => F0 m 36 ls [.int z, .ref (ad 24)]) (r3 i hi)) ?_
          refine lv_dup2_11 hx hb dX6_share_36 rfl rfl ?_
          refine xiald hx hb hE.1.1 (hP.arr 24 (by decide) (by decide)) 0 rfl (k := (i / 3)) rfl (show _ < 5 by omega) (by decide) dX6_share_37 ?_
          refine lv_iload_n hx hb dX6_share_38 rfl (lv_at hl 4 rfl) ?_
          refine lv_iload hx hb dX6_share_39 (lv_at hl 0 rfl) ?_
          refine lv_ishr hx hb dX6_share_41 ?_
          refine lv_iconst (v := 1) hx hb dX6_share_42 (by decide) ?_
          refine lv_iand hx hb dX6_share_43 ?_
          refine lv_iconst (v := 1) hx hb dX6_share_44 (by decide) ?_
          refine lv_icmp_ne (tgt := 53) hx hb dX6_share_45 (by decide) (fun c_45_3 => ?_) (fun c_45_3 => ?_)
          · refine lv_iconst (v := 0) hx hb dX6_share_53 (by decide) ?_
            refine lv_iadd hx hb dX6_share_54 ?_
            refine xiast hx hb hE.1.1 hS (hP.arr 24 (by decide) (by decide)) (hP.oarr 24 (by decide)) 0 rfl (k := (i / 3)) rfl (show _ < 5 by omega) (by decide) dX6_share_55 (fun H1 locs1 he1 z1 oq1 hS => ?_)
            have hP := hP.parr 24 (i / 3) (by decide) (by decide) he1 oq1
            refine lv_iinc (v := (nI (i + 1))) (lv' := [(5, .int (nI (i + 1))), (4, .int (mPart am se)), (0, .ref (ad 30)), (1, .int am), (2, .int se), (3, .int (mBits se))]) hx hb dX6_share_56 hl (k := 0) rfl (nI_1 _) (by decide) rfl (fun ls hl => ?_)
            refine lv_goto (tgt := 21) hx hb dX6_share_59 (by decide) ?_
            exact ih21 _ (i + 1) (by omega) (by omega) (by rw [itr_step hi] at hT; exact hT) _ _ _ hS (show PM G A ad (mShr1 se (mPart am se) i τ1) _ by rw [show mShr1 se (mPart am se) i τ1 = up τ1 24 (i / 3) (τ1 24 (i / 3) + 0) from by simp only [mShr1]; rw [if_neg (show ¬ mBit se i = 1 from c_45_3)]]; exact hP) (lv_sub hl [0, 1, 2, 3, 4, 5] rfl)
          · refine lv_iload hx hb dX6_share_48 (lv_at hl 1 rfl) ?_
            refine lv_goto (tgt := 54) hx hb dX6_share_50 (by decide) ?_
            refine lv_iadd hx hb dX6_share_54 ?_
            refine xiast hx hb hE.1.1 hS (hP.arr 24 (by decide) (by decide)) (hP.oarr 24 (by decide)) 0 rfl (k := (i / 3)) rfl (show _ < 5 by omega) (by decide) dX6_share_55 (fun H1 locs1 he1 z1 oq1 hS => ?_)
            have hP := hP.parr 24 (i / 3) (by decide) (by decide) he1 oq1
            refine lv_iinc (v := (nI (i + 1))) (lv' := [(5, .int (nI (i + 1))), (4, .int (mPart am se)), (0, .ref (ad 30)), (1, .int am), (2, .int se), (3, .int (mBits se))]) hx hb dX6_share_56 hl (k := 0) rfl (nI_1 _) (by decide) rfl (fun ls hl => ?_)
            refine lv_goto (tgt := 21) hx hb dX6_share_59 (by decide) ?_
            exact ih21 _ (i + 1) (by omega) (by omega) (by rw [itr_step hi] at hT; exact hT) _ _ _ hS (show PM G A ad (mShr1 se (mPart am se) i τ1) _ by rw [show mShr1 se (mPart am se) i τ1 = up τ1 24 (i / 3) (τ1 24 (i / 3) + mPart am se) from by simp only [mShr1]; rw [if_pos (show  mBit se i = 1 from c_45_3)]]; exact hP) (lv_sub hl [0, 1, 2, 3, 4, 5] rfl)
    exact L21 13 τ 0 (by omega) (by omega) rfl _ _ _ hS hP (lv_sub hl [0, 1, 3, 4, 5, 2] rfl)
  · refine lv_iconst (v := 0) hx hb dX6_share_9 (by decide) ?_
    refine lv_goto (tgt := 16) hx hb dX6_share_10 (by decide) ?_
    rw [show (0 : Int32) = mPart am se from (if_pos c_6_1).symm]
    refine lv_istore (lv' := [(4, .int (mPart am se)), (3, .int (mBits se)), (0, .ref (ad 30)), (1, .int am), (2, .int se)]) hx hb dX6_share_16 hl (by decide) rfl (fun ls hl => ?_)
    refine lv_iconst (v := 0) hx hb dX6_share_18 (by decide) ?_
    refine lv_istore (lv' := [(5, .int 0), (4, .int (mPart am se)), (3, .int (mBits se)), (0, .ref (ad 30)), (1, .int am), (2, .int se)]) hx hb dX6_share_19 hl (by decide) rfl (fun ls hl => ?_)
    have L21 : ∀ (n9 : Nat) (τ1 : SG) (i : Nat) (h1 : i ≤ 12) (h2 : 12 < i + n9) (hT : itr (mShr1 se (mPart am se)) i (12 - i) τ1 = mShrL se (mPart am se) τ) (H : Heap) (locs : List Loc) (ls : Array Slot), va_S A s.heap H locs → PM G A ad τ1 H → lv_has ls 6 [(5, .int (nI i)), (4, .int (mPart am se)), (0, .ref (ad 30)), (1, .int am), (2, .int se), (3, .int (mBits se))] → W p l e (rmL 2 0 0) s m args below meth c H locs 0 0 (KE below A (fun v H => v = none ∧ PM G A ad (mShare am se τ) H) (fun _ _ => False) args s (rmL 2 0 0)) (F0 m 21 ls []) := by
      intro n9
      induction n9 with
      | zero =>
        intro τ1 i h1 h2 hT H locs ls hS hP hl
        exact absurd True.intro (by omega)
      | succ n9 ih21 =>
        intro τ1 i h1 h2 hT H locs ls hS hP hl
        refine lv_iload hx hb dX6_share_21 (lv_at hl 0 rfl) ?_
        refine lv_bipush (v := 12) hx hb dX6_share_23 (by decide) ?_
        refine lv_icmp_ge (tgt := 62) hx hb dX6_share_25 (by decide) (fun c_25_4 => ?_) (fun c_25_4 => ?_)
        · have ei := nI_eqle (n := 12) h1 (by decide) c_25_4
          rw [ei, itr_end] at hT
          refine lv_aload_n hx hb dX6_share_62 rfl (lv_at hl 2 rfl) ?_
          refine gX6 F hP.main 24 (by decide) wFL_X6_71 (fun _ h9 => h9) (v := .ref (ad 24)) rfl dX6_share_63 ?_
          refine lv_iconst (v := 4) hx hb dX6_share_66 (by decide) ?_
          refine W.eq (g2 := F0 m 67 ls [.int (nI 4), .ref (ad 24)]) (congrArg (fun z => F0 m 67 ls [.int z, .ref (ad 24)]) ((rfl : (4 : Int32) = nI 4))) ?_
          refine lv_dup2_11 hx hb dX6_share_67 rfl rfl ?_
          refine xiald hx hb hE.1.1 (hP.arr 24 (by decide) (by decide)) 0 rfl (k := 4) rfl (show _ < 5 by omega) (by decide) dX6_share_68 ?_
          refine lv_iload_n hx hb dX6_share_69 rfl (lv_at hl 3 rfl) ?_
          refine lv_iload hx hb dX6_share_70 (lv_at hl 1 rfl) ?_
          refine lv_iload_n hx hb dX6_share_72 rfl (lv_at hl 5 rfl) ?_
          refine lv_imul hx hb dX6_share_73 ?_
          refine lv_isub hx hb dX6_share_74 ?_
          refine lv_iadd hx hb dX6_share_75 ?_
          refine xiast hx hb hE.1.1 hS (hP.arr 24 (by decide) (by decide)) (hP.oarr 24 (by decide)) 0 rfl (k := 4) rfl (show _ < 5 by omega) (by decide) dX6_share_76 (fun H1 locs1 he1 z1 oq1 hS => ?_)
          have hP := hP.parr 24 4 (by decide) (by decide) he1 oq1
          exact kvret hx hb hr hlocks hS (by decide) (by decide) dX6_share_77 (⟨rfl, by rw [hT] at hP; exact hP⟩)
        · have hi := nI_lt' (n := 12) h1 (by decide) c_25_4
          refine lv_aload_n hx hb dX6_share_28 rfl (lv_at hl 2 rfl) ?_
          refine gX6 F hP.main 24 (by decide) wFL_X6_71 (fun _ h9 => h9) (v := .ref (ad 24)) rfl dX6_share_29 ?_
          refine lv_iload hx hb dX6_share_32 (lv_at hl 0 rfl) ?_
          refine lv_iconst (v := 3) hx hb dX6_share_34 (by decide) ?_
          refine lv_idiv hx hb dX6_share_35 (by decide) ?_
          refine W.eq (g2 := F0 m 36 ls [.int (nI (i / 3)), .ref (ad 24)]) (congrArg (fun z => F0 m 36 ls [.int z, .ref (ad 24)]) (r3 i hi)) ?_
          refine lv_dup2_11 hx hb dX6_share_36 rfl rfl ?_
          refine xiald hx hb hE.1.1 (hP.arr 24 (by decide) (by decide)) 0 rfl (k := (i / 3)) rfl (show _ < 5 by omega) (by decide) dX6_share_37 ?_
          refine lv_iload_n hx hb dX6_share_38 rfl (lv_at hl 4 rfl) ?_
          refine lv_iload hx hb dX6_share_39 (lv_at hl 0 rfl) ?_
          refine lv_ishr hx hb dX6_share_41 ?_
          refine lv_iconst (v := 1) hx hb dX6_share_42 (by decide) ?_
          refine lv_iand hx hb dX6_share_43 ?_
          refine lv_iconst (v := 1) hx hb dX6_share_44 (by decide) ?_
          refine lv_icmp_ne (tgt := 53) hx hb dX6_share_45 (by decide) (fun c_45_5 => ?_) (fun c_45_5 => ?_)
          · refine lv_iconst (v := 0) hx hb dX6_share_53 (by decide) ?_
            refine lv_iadd hx hb dX6_share_54 ?_
            refine xiast hx hb hE.1.1 hS (hP.arr 24 (by decide) (by decide)) (hP.oarr 24 (by decide)) 0 rfl (k := (i / 3)) rfl (show _ < 5 by omega) (by decide) dX6_share_55 (fun H1 locs1 he1 z1 oq1 hS => ?_)
            have hP := hP.parr 24 (i / 3) (by decide) (by decide) he1 oq1
            refine lv_iinc (v := (nI (i + 1))) (lv' := [(5, .int (nI (i + 1))), (4, .int (mPart am se)), (0, .ref (ad 30)), (1, .int am), (2, .int se), (3, .int (mBits se))]) hx hb dX6_share_56 hl (k := 0) rfl (nI_1 _) (by decide) rfl (fun ls hl => ?_)
            refine lv_goto (tgt := 21) hx hb dX6_share_59 (by decide) ?_
            exact ih21 _ (i + 1) (by omega) (by omega) (by rw [itr_step hi] at hT; exact hT) _ _ _ hS (show PM G A ad (mShr1 se (mPart am se) i τ1) _ by rw [show mShr1 se (mPart am se) i τ1 = up τ1 24 (i / 3) (τ1 24 (i / 3) + 0) from by simp only [mShr1]; rw [if_neg (show ¬ mBit se i = 1 from c_45_5)]]; exact hP) (lv_sub hl [0, 1, 2, 3, 4, 5] rfl)
          · refine lv_iload hx hb dX6_share_48 (lv_at hl 1 rfl) ?_
            refine lv_goto (tgt := 54) hx hb dX6_share_50 (by decide) ?_
            refine lv_iadd hx hb dX6_share_54 ?_
            refine xiast hx hb hE.1.1 hS (hP.arr 24 (by decide) (by decide)) (hP.oarr 24 (by decide)) 0 rfl (k := (i / 3)) rfl (show _ < 5 by omega) (by decide) dX6_share_55 (fun H1 locs1 he1 z1 oq1 hS => ?_)
            have hP := hP.parr 24 (i / 3) (by decide) (by decide) he1 oq1
            refine lv_iinc (v := (nI (i + 1))) (lv' := [(5, .int (nI (i + 1))), (4, .int (mPart am se)), (0, .ref (ad 30)), (1, .int am), (2, .int se), (3, .int (mBits se))]) hx hb dX6_share_56 hl (k := 0) rfl (nI_1 _) (by decide) rfl (fun ls hl => ?_)
            refine lv_goto (tgt := 21) hx hb dX6_share_59 (by decide) ?_
            exact ih21 _ (i + 1) (by omega) (by omega) (by rw [itr_step hi] at hT; exact hT) _ _ _ hS (show PM G A ad (mShr1 se (mPart am se) i τ1) _ by rw [show mShr1 se (mPart am se) i τ1 = up τ1 24 (i / 3) (τ1 24 (i / 3) + mPart am se) from by simp only [mShr1]; rw [if_pos (show  mBit se i = 1 from c_45_5)]]; exact hP) (lv_sub hl [0, 1, 2, 3, 4, 5] rfl)
    exact L21 13 τ 0 (by omega) (by omega) rfl _ _ _ hS hP (lv_sub hl [0, 1, 3, 4, 5, 2] rfl)

def mClrR (n r : Nat) (τ : SG) : SG := (mClear τ n r).1
def mShT (t : Nat) (τ : SG) : SG := if mNow τ t = true then mShare (τ 8 t) (τ 13 t) τ else τ
def mOr1 (τ : SG) (k t : Nat) (x : Int32) : Int32 := if mHas τ (nI k) 2 t = true then x ||| τ 13 t else x ||| 0
def mOr (τ : SG) (n k : Nat) : Int32 := itr (mOr1 τ k) 0 n 0
def mShM (n k : Nat) (τ : SG) : SG := if fBel (τ 2 k) (τ 26 0) = true then mShare 200 (mOr τ n k) τ else τ
def mEnd1 (n : Nat) (τ : SG) : SG := itr (mClrR n) 0 12 τ
def mEnd2 (n : Nat) (τ : SG) : SG := itr mShT 0 n (mEnd1 n τ)
def mEnd3 (n : Nat) (τ : SG) : SG := itr (mShM n) 0 6 (mEnd2 n τ)
def mEnd (n : Nat) (τ : SG) : SG := up (mEnd3 n τ) 26 0 (mEnd3 n τ 26 0 + 1)
theorem mEnd2_def {n : Nat} {τ : SG} : itr mShT 0 (n - 0) (mEnd1 n τ) = mEnd2 n τ := rfl
theorem mEnd3_def {n : Nat} {τ : SG} : itr (mShM n) 0 (6 - 0) (mEnd2 n τ) = mEnd3 n τ := rfl
theorem mClrR_ne {τ : SG} {n r g j : Nat} (hg : g ≠ 10) : mClrR n r τ g j = τ g j := mClear_ne hg
theorem mShT_ne {τ : SG} {t g j : Nat} (hg : g ≠ 24) : mShT t τ g j = τ g j := by
  unfold mShT
  split
  · exact mShare_ne hg
  · rfl
theorem mShM_ne {τ : SG} {n k g j : Nat} (hg : g ≠ 24) : mShM n k τ g j = τ g j := by
  unfold mShM
  split
  · exact mShare_ne hg
  · rfl
theorem mEnd1_ne {τ : SG} {n g j : Nat} (hg : g ≠ 10) : mEnd1 n τ g j = τ g j := itr_neM (fun _ _ => mClrR_ne hg) _ _ _
theorem mEnd2_ne {τ : SG} {n g j : Nat} (hg : g ≠ 10 ∧ g ≠ 24) : mEnd2 n τ g j = τ g j := by
  unfold mEnd2
  rw [itr_neM (fun _ _ => mShT_ne hg.2)]
  exact mEnd1_ne hg.1
theorem mEnd3_ne {τ : SG} {n g j : Nat} (hg : g ≠ 10 ∧ g ≠ 24) : mEnd3 n τ g j = τ g j := by
  unfold mEnd3
  rw [itr_neM (fun _ _ => mShM_ne hg.2)]
  exact mEnd2_ne hg
set_option maxHeartbeats 4000000 in
set_option maxRecDepth 100000 in
theorem kM_endDay (l : Launch) (G : GE) (A : Nat → Prop) (ad : Nat → Nat) (τ : SG) (n : Nat) (hn : τ 3 0 = nI n) (hn8 : n ≤ 80) : KM l G A yX6_endDay cX6_endDay 4 none (rmL 3 0 0) [.ref (ad 30)] (PM G A ad τ) (fun v H => v = none ∧ PM G A ad (mEnd n τ) H) (fun _ _ => False) := by
  refine KM.of (by decide) (Nat.le_of_ble_eq_true rfl) ?_
  intro p e s m args below meth c F hP ls hl
  have hx := F.1.1
  have hb := F.1.2.1
  have hown := F.1.2.2.2.1
  have hts := F.1.2.2.2.2
  have hr := F.2.1
  have hlocks := F.2.2.1
  have hE := F.2.2.2.2.2.1
  have hA := F.2.2.2.2.2.2
  have hS : va_S A s.heap s.heap [] := va_S.rf
  have hl : lv_has ls 4 [(0, .ref (ad 30))] := hl
  have hP := hP
  refine lv_iconst (v := 0) hx hb dX6_endDay_0 (by decide) ?_
  refine lv_istore_n (lv' := [(1, .int 0), (0, .ref (ad 30))]) hx hb dX6_endDay_1 rfl hl (by decide) rfl (fun ls hl => ?_)
  have L2 : ∀ (n9 : Nat) (τ1 : SG) (i : Nat) (h1 : i ≤ 12) (h2 : 12 < i + n9) (hT : itr (mClrR n) i (12 - i) τ1 = mEnd1 n τ) (hn1 : τ1 3 0 = nI n) (H : Heap) (locs : List Loc) (ls : Array Slot), va_S A s.heap H locs → PM G A ad τ1 H → lv_has ls 4 [(1, .int (nI i)), (0, .ref (ad 30))] → W p l e (rmL 3 0 0) s m args below meth c H locs 0 0 (KE below A (fun v H => v = none ∧ PM G A ad (mEnd n τ) H) (fun _ _ => False) args s (rmL 3 0 0)) (F0 m 2 ls []) := by
    intro n9
    induction n9 with
    | zero =>
      intro τ1 i h1 h2 hT hn1 H locs ls hS hP hl
      exact absurd True.intro (by omega)
    | succ n9 ih2 =>
      intro τ1 i h1 h2 hT hn1 H locs ls hS hP hl
      refine lv_iload_n hx hb dX6_endDay_2 rfl (lv_at hl 0 rfl) ?_
      refine lv_bipush (v := 12) hx hb dX6_endDay_3 (by decide) ?_
      refine lv_icmp_ge (tgt := 20) hx hb dX6_endDay_5 (by decide) (fun c_5_1 => ?_) (fun c_5_1 => ?_)
      · have ei := nI_eqle (n := 12) h1 (by decide) c_5_1
        rw [ei, itr_end] at hT
        refine lv_iconst (v := 0) hx hb dX6_endDay_20 (by decide) ?_
        refine lv_istore_n (lv' := [(1, .int 0), (0, .ref (ad 30))]) hx hb dX6_endDay_21 rfl hl (by decide) rfl (fun ls hl => ?_)
        have L22 : ∀ (n9 : Nat) (τ1 : SG) (i : Nat) (h1 : i ≤ n) (h2 : n < i + n9) (hT : itr mShT i (n - i) τ1 = mEnd2 n τ) (hn1 : τ1 3 0 = nI n) (H : Heap) (locs : List Loc) (ls : Array Slot), va_S A s.heap H locs → PM G A ad τ1 H → lv_has ls 4 [(1, .int (nI i)), (0, .ref (ad 30))] → W p l e (rmL 3 0 0) s m args below meth c H locs 0 0 (KE below A (fun v H => v = none ∧ PM G A ad (mEnd n τ) H) (fun _ _ => False) args s (rmL 3 0 0)) (F0 m 22 ls []) := by
          intro n9
          induction n9 with
          | zero =>
            intro τ1 i h1 h2 hT hn1 H locs ls hS hP hl
            exact absurd True.intro (by omega)
          | succ n9 ih22 =>
            intro τ1 i h1 h2 hT hn1 H locs ls hS hP hl
            refine lv_iload_n hx hb dX6_endDay_22 rfl (lv_at hl 0 rfl) ?_
            refine lv_aload_n hx hb dX6_endDay_23 rfl (lv_at hl 1 rfl) ?_
            refine gX6 F hP.main 3 (by decide) wFL_X6_88 (fun _ h9 => h9) (v := .int (nI n)) (by simp [up, thr, hn1]) dX6_endDay_24 ?_
            refine lv_icmp_ge (tgt := 60) hx hb dX6_endDay_27 (by decide) (fun c_27_2 => ?_) (fun c_27_2 => ?_)
            · have ei := nI_eqle h1 (by omega) c_27_2
              rw [ei, itr_end] at hT
              refine lv_iconst (v := 0) hx hb dX6_endDay_60 (by decide) ?_
              refine lv_istore_n (lv' := [(1, .int 0), (0, .ref (ad 30))]) hx hb dX6_endDay_61 rfl hl (by decide) rfl (fun ls hl => ?_)
              have L62 : ∀ (n9 : Nat) (τ1 : SG) (i : Nat) (h1 : i ≤ 6) (h2 : 6 < i + n9) (hT : itr (mShM n) i (6 - i) τ1 = mEnd3 n τ) (hn1 : τ1 3 0 = nI n) (H : Heap) (locs : List Loc) (ls : Array Slot), va_S A s.heap H locs → PM G A ad τ1 H → lv_has ls 4 [(1, .int (nI i)), (0, .ref (ad 30))] → W p l e (rmL 3 0 0) s m args below meth c H locs 0 0 (KE below A (fun v H => v = none ∧ PM G A ad (mEnd n τ) H) (fun _ _ => False) args s (rmL 3 0 0)) (F0 m 62 ls []) := by
                intro n9
                induction n9 with
                | zero =>
                  intro τ1 i h1 h2 hT hn1 H locs ls hS hP hl
                  exact absurd True.intro (by omega)
                | succ n9 ih62 =>
                  intro τ1 i h1 h2 hT hn1 H locs ls hS hP hl
                  refine lv_iload_n hx hb dX6_endDay_62 rfl (lv_at hl 0 rfl) ?_
                  refine lv_bipush (v := 6) hx hb dX6_endDay_63 (by decide) ?_
                  refine lv_icmp_ge (tgt := 149) hx hb dX6_endDay_65 (by decide) (fun c_65_3 => ?_) (fun c_65_3 => ?_)
                  · have ei := nI_eqle (n := 6) h1 (by decide) c_65_3
                    rw [ei, itr_end] at hT
                    refine lv_aload_n hx hb dX6_endDay_149 rfl (lv_at hl 1 rfl) ?_
                    refine lv_dup hx hb dX6_endDay_150 rfl ?_
                    refine gX6 F hP.main 26 (by decide) wFL_X6_94 (fun _ h9 => h9) (v := .int (τ1 26 0)) rfl dX6_endDay_151 ?_
                    refine lv_iconst (v := 1) hx hb dX6_endDay_154 (by decide) ?_
                    refine lv_iadd hx hb dX6_endDay_155 ?_
                    refine pX6 F hS hP.main hP.omain 26 (by decide) wFL_X6_94 (fun _ h9 => h9) rfl rfl rfl (by simp) dX6_endDay_156 (fun H1 locs1 he1 z1 oq1 hS => ?_)
                    have hP := hP.p26 he1 oq1
                    exact kvret hx hb hr hlocks hS (by decide) (by decide) dX6_endDay_159 (⟨rfl, by rw [mEnd, ← hT]; exact hP⟩)
                  · have hi := nI_lt' (n := 6) h1 (by decide) c_65_3
                    refine lv_iconst (v := 0) hx hb dX6_endDay_68 (by decide) ?_
                    refine lv_istore_n (lv' := [(2, .int 0), (1, .int (nI i)), (0, .ref (ad 30))]) hx hb dX6_endDay_69 rfl hl (by decide) rfl (fun ls hl => ?_)
                    refine lv_iconst (v := 0) hx hb dX6_endDay_70 (by decide) ?_
                    refine lv_istore_n (lv' := [(3, .int 0), (2, .int 0), (1, .int (nI i)), (0, .ref (ad 30))]) hx hb dX6_endDay_71 rfl hl (by decide) rfl (fun ls hl => ?_)
                    have L72 : ∀ (n9 : Nat) (y1 : Int32) (j : Nat) (g1 : j ≤ n) (g2 : n < j + n9) (gT : itr (mOr1 τ1 i) j (n - j) y1 = mOr τ1 n i) (H : Heap) (locs : List Loc) (ls : Array Slot), va_S A s.heap H locs → PM G A ad τ1 H → lv_has ls 4 [(3, .int (nI j)), (2, .int y1), (1, .int (nI i)), (0, .ref (ad 30))] → W p l e (rmL 3 0 0) s m args below meth c H locs 0 0 (KE below A (fun v H => v = none ∧ PM G A ad (mEnd n τ) H) (fun _ _ => False) args s (rmL 3 0 0)) (F0 m 72 ls []) := by
                      intro n9
                      induction n9 with
                      | zero =>
                        intro y1 j g1 g2 gT H locs ls hS hP hl
                        exact absurd True.intro (by omega)
                      | succ n9 ih72 =>
                        intro y1 j g1 g2 gT H locs ls hS hP hl
                        refine lv_iload_n hx hb dX6_endDay_72 rfl (lv_at hl 0 rfl) ?_
                        refine lv_aload_n hx hb dX6_endDay_73 rfl (lv_at hl 3 rfl) ?_
                        refine gX6 F hP.main 3 (by decide) wFL_X6_88 (fun _ h9 => h9) (v := .int (nI n)) (by simp [up, thr, hn1]) dX6_endDay_74 ?_
                        refine lv_icmp_ge (tgt := 127) hx hb dX6_endDay_77 (by decide) (fun c_77_4 => ?_) (fun c_77_4 => ?_)
                        · have ej := nI_eqle g1 (by omega) c_77_4
                          rw [ej, itr_end] at gT
                          subst gT
                          refine lv_aload_n hx hb dX6_endDay_127 rfl (lv_at hl 3 rfl) ?_
                          refine lv_iload_n hx hb dX6_endDay_128 rfl (lv_at hl 2 rfl) ?_
                          refine kcallV (n := 1) F (kM_isValid l G (fun q => H.size ≤ q) A ad τ1 i (by omega)) wML_X6_118 wIM_X6_isValid wSE_X6_X6_isValid wIN_X6 wCO_X6_isValid (by decide) rfl ⟨by decide, by decide⟩ (frec F hP.main _ rfl) hS (fun q h => hA q (Nat.le_trans hS.1 h)) (fun q h => h) hP rfl hl.1 (Nat.le_of_ble_eq_true rfl) dX6_endDay_129 ⟨by decide, by decide⟩ (fun E ce q9 H1 locs1 hx9 _ _ _ _ _ => hx9.elim) (fun v H1 locs1 hv hk hS => ?_)
                          have hP := hP.old hk
                          subst hv
                          refine lv_if_eq (tgt := 143) hx hb dX6_endDay_132 (by decide) (fun c_132_5 => ?_) (fun c_132_5 => ?_)
                          · refine lv_iinc (v := (nI (i + 1))) (lv' := [(1, .int (nI (i + 1))), (3, .int (nI j)), (2, .int (mOr τ1 n i)), (0, .ref (ad 30))]) hx hb dX6_endDay_143 hl (k := 2) rfl (nI_1 _) (by decide) rfl (fun ls hl => ?_)
                            refine lv_goto (tgt := 62) hx hb dX6_endDay_146 (by decide) ?_
                            exact ih62 τ1 (i + 1) (by omega) (by omega) (by rw [itr_step hi, show mShM n i τ1 = τ1 from if_neg (by rw [b2i_0.mp c_132_5]; decide)] at hT; exact hT) hn1 _ _ _ hS hP (lv_sub hl [0, 3] rfl)
                          · refine lv_aload_n hx hb dX6_endDay_135 rfl (lv_at hl 3 rfl) ?_
                            refine lv_sipush (v := 200) hx hb dX6_endDay_136 (by decide) ?_
                            refine lv_iload_n hx hb dX6_endDay_139 rfl (lv_at hl 1 rfl) ?_
                            refine kcallV (n := 2) F (kM_share l G A ad τ1 200 (mOr τ1 n i)) wML_X6_165 wIM_X6_share wSE_X6_X6_share wIN_X6 wCO_X6_share (by decide) rfl ⟨by decide, by decide⟩ (frec F hP.main _ rfl) hS (fun _ h => h) (fun q h => hA q (Nat.le_trans hS.1 h)) hP rfl hl.1 (Nat.le_of_ble_eq_true rfl) dX6_endDay_140 ⟨by decide, by decide⟩ (fun E ce q9 H1 locs1 hx9 _ _ _ _ _ => hx9.elim) (fun v H1 locs1 hv hk hS => ?_)
                            obtain ⟨rfl, hP⟩ := hv
                            refine lv_iinc (v := (nI (i + 1))) (lv' := [(1, .int (nI (i + 1))), (3, .int (nI j)), (2, .int (mOr τ1 n i)), (0, .ref (ad 30))]) hx hb dX6_endDay_143 hl (k := 2) rfl (nI_1 _) (by decide) rfl (fun ls hl => ?_)
                            refine lv_goto (tgt := 62) hx hb dX6_endDay_146 (by decide) ?_
                            exact ih62 (mShare 200 (mOr τ1 n i) τ1) (i + 1) (by omega) (by omega) (by rw [itr_step hi, show mShM n i τ1 = mShare 200 (mOr τ1 n i) τ1 from if_pos (b2i_1.mp c_132_5)] at hT; exact hT) (by rw [mShare_ne (by decide)]; exact hn1) _ _ _ hS hP (lv_sub hl [0, 3] rfl)
                        · have hj := nI_lt' g1 (by omega) c_77_4
                          refine lv_iload_n hx hb dX6_endDay_80 rfl (lv_at hl 1 rfl) ?_
                          refine lv_aload_n hx hb dX6_endDay_81 rfl (lv_at hl 3 rfl) ?_
                          refine lv_iload_n hx hb dX6_endDay_82 rfl (lv_at hl 0 rfl) ?_
                          refine kcallV (n := 1) F (kM_isNow l G (fun q => H.size ≤ q) A ad τ1 j (by omega)) wML_X6_108 wIM_X6_isNow wSE_X6_X6_isNow wIN_X6 wCO_X6_isNow (by decide) rfl ⟨by decide, by decide⟩ (frec F hP.main _ rfl) hS (fun q h => hA q (Nat.le_trans hS.1 h)) (fun q h => h) hP rfl hl.1 (Nat.le_of_ble_eq_true rfl) dX6_endDay_83 ⟨by decide, by decide⟩ (fun E ce q9 H1 locs1 hx9 _ _ _ _ _ => hx9.elim) (fun v H1 locs1 hv hk hS => ?_)
                          have hP := hP.old hk
                          subst hv
                          refine lv_if_eq (tgt := 118) hx hb dX6_endDay_86 (by decide) (fun c_86_6 => ?_) (fun c_86_6 => ?_)
                          · refine lv_iconst (v := 0) hx hb dX6_endDay_118 (by decide) ?_
                            refine lv_ior hx hb dX6_endDay_119 ?_
                            refine lv_istore_n (lv' := [(2, .int (y1 ||| 0)), (3, .int (nI j)), (1, .int (nI i)), (0, .ref (ad 30))]) hx hb dX6_endDay_120 rfl hl (by decide) rfl (fun ls hl => ?_)
                            refine lv_iinc (v := (nI (j + 1))) (lv' := [(3, .int (nI (j + 1))), (2, .int (y1 ||| 0)), (1, .int (nI i)), (0, .ref (ad 30))]) hx hb dX6_endDay_121 hl (k := 1) rfl (nI_1 _) (by decide) rfl (fun ls hl => ?_)
                            refine lv_goto (tgt := 72) hx hb dX6_endDay_124 (by decide) ?_
                            exact ih72 (y1 ||| 0) (j + 1) (by omega) (by omega) (by rw [itr_step hj, show mOr1 τ1 i j y1 = y1 ||| 0 from if_neg (by simp [mHas, (b2i_0.mp c_86_6)])] at gT; exact gT) _ _ _ hS hP (lv_sub hl [0, 1, 2, 3] rfl)
                          · refine lv_aload_n hx hb dX6_endDay_89 rfl (lv_at hl 3 rfl) ?_
                            refine gX6 F hP.main 4 (by decide) wFL_X6_16 (fun _ h9 => h9) (v := .ref (ad 4)) rfl dX6_endDay_90 ?_
                            refine lv_iload_n hx hb dX6_endDay_93 rfl (lv_at hl 0 rfl) ?_
                            refine xiald hx hb hE.1.1 (hP.arr 4 (by decide) (by decide)) 0 rfl (k := j) rfl (show _ < 80 by omega) (by decide) dX6_endDay_94 ?_
                            refine lv_iconst (v := 2) hx hb dX6_endDay_95 (by decide) ?_
                            refine lv_icmp_ne (tgt := 118) hx hb dX6_endDay_96 (by decide) (fun c_96_7 => ?_) (fun c_96_7 => ?_)
                            · refine lv_iconst (v := 0) hx hb dX6_endDay_118 (by decide) ?_
                              refine lv_ior hx hb dX6_endDay_119 ?_
                              refine lv_istore_n (lv' := [(2, .int (y1 ||| 0)), (3, .int (nI j)), (1, .int (nI i)), (0, .ref (ad 30))]) hx hb dX6_endDay_120 rfl hl (by decide) rfl (fun ls hl => ?_)
                              refine lv_iinc (v := (nI (j + 1))) (lv' := [(3, .int (nI (j + 1))), (2, .int (y1 ||| 0)), (1, .int (nI i)), (0, .ref (ad 30))]) hx hb dX6_endDay_121 hl (k := 1) rfl (nI_1 _) (by decide) rfl (fun ls hl => ?_)
                              refine lv_goto (tgt := 72) hx hb dX6_endDay_124 (by decide) ?_
                              exact ih72 (y1 ||| 0) (j + 1) (by omega) (by omega) (by rw [itr_step hj, show mOr1 τ1 i j y1 = y1 ||| 0 from if_neg (by simp [mHas, c_96_7, (b2i_1.mp c_86_6)])] at gT; exact gT) _ _ _ hS hP (lv_sub hl [0, 1, 2, 3] rfl)
                            · refine lv_aload_n hx hb dX6_endDay_99 rfl (lv_at hl 3 rfl) ?_
                              refine gX6 F hP.main 6 (by decide) wFL_X6_22 (fun _ h9 => h9) (v := .ref (ad 6)) rfl dX6_endDay_100 ?_
                              refine lv_iload_n hx hb dX6_endDay_103 rfl (lv_at hl 0 rfl) ?_
                              refine xiald hx hb hE.1.1 (hP.arr 6 (by decide) (by decide)) 0 rfl (k := j) rfl (show _ < 80 by omega) (by decide) dX6_endDay_104 ?_
                              refine lv_iload_n hx hb dX6_endDay_105 rfl (lv_at hl 2 rfl) ?_
                              refine lv_icmp_ne (tgt := 118) hx hb dX6_endDay_106 (by decide) (fun c_106_8 => ?_) (fun c_106_8 => ?_)
                              · refine lv_iconst (v := 0) hx hb dX6_endDay_118 (by decide) ?_
                                refine lv_ior hx hb dX6_endDay_119 ?_
                                refine lv_istore_n (lv' := [(2, .int (y1 ||| 0)), (3, .int (nI j)), (1, .int (nI i)), (0, .ref (ad 30))]) hx hb dX6_endDay_120 rfl hl (by decide) rfl (fun ls hl => ?_)
                                refine lv_iinc (v := (nI (j + 1))) (lv' := [(3, .int (nI (j + 1))), (2, .int (y1 ||| 0)), (1, .int (nI i)), (0, .ref (ad 30))]) hx hb dX6_endDay_121 hl (k := 1) rfl (nI_1 _) (by decide) rfl (fun ls hl => ?_)
                                refine lv_goto (tgt := 72) hx hb dX6_endDay_124 (by decide) ?_
                                exact ih72 (y1 ||| 0) (j + 1) (by omega) (by omega) (by rw [itr_step hj, show mOr1 τ1 i j y1 = y1 ||| 0 from if_neg (by simp [mHas, c_96_7, c_106_8, (b2i_1.mp c_86_6)])] at gT; exact gT) _ _ _ hS hP (lv_sub hl [0, 1, 2, 3] rfl)
                              · refine lv_aload_n hx hb dX6_endDay_109 rfl (lv_at hl 3 rfl) ?_
                                refine gX6 F hP.main 13 (by decide) wFL_X6_41 (fun _ h9 => h9) (v := .ref (ad 13)) rfl dX6_endDay_110 ?_
                                refine lv_iload_n hx hb dX6_endDay_113 rfl (lv_at hl 0 rfl) ?_
                                refine xiald hx hb hE.1.1 (hP.arr 13 (by decide) (by decide)) 0 rfl (k := j) rfl (show _ < 80 by omega) (by decide) dX6_endDay_114 ?_
                                refine lv_goto (tgt := 119) hx hb dX6_endDay_115 (by decide) ?_
                                refine lv_ior hx hb dX6_endDay_119 ?_
                                refine lv_istore_n (lv' := [(2, .int (y1 ||| (τ1 13 j))), (3, .int (nI j)), (1, .int (nI i)), (0, .ref (ad 30))]) hx hb dX6_endDay_120 rfl hl (by decide) rfl (fun ls hl => ?_)
                                refine lv_iinc (v := (nI (j + 1))) (lv' := [(3, .int (nI (j + 1))), (2, .int (y1 ||| (τ1 13 j))), (1, .int (nI i)), (0, .ref (ad 30))]) hx hb dX6_endDay_121 hl (k := 1) rfl (nI_1 _) (by decide) rfl (fun ls hl => ?_)
                                refine lv_goto (tgt := 72) hx hb dX6_endDay_124 (by decide) ?_
                                exact ih72 (y1 ||| (τ1 13 j)) (j + 1) (by omega) (by omega) (by rw [itr_step hj, show mOr1 τ1 i j y1 = y1 ||| (τ1 13 j) from if_pos (by simp [mHas, c_96_7, c_106_8, (b2i_1.mp c_86_6)])] at gT; exact gT) _ _ _ hS hP (lv_sub hl [0, 1, 2, 3] rfl)
                    exact L72 (n + 1) 0 0 (by omega) (by omega) rfl _ _ _ hS hP (lv_sub hl [0, 1, 2, 3] rfl)
              exact L62 (6 + 1) τ1 0 (by omega) (by omega) (by rw [hT]; exact mEnd3_def) hn1 _ _ _ hS hP (lv_sub hl [0, 1] rfl)
            · have hi := nI_lt' h1 (by omega) c_27_2
              refine lv_aload_n hx hb dX6_endDay_30 rfl (lv_at hl 1 rfl) ?_
              refine lv_iload_n hx hb dX6_endDay_31 rfl (lv_at hl 0 rfl) ?_
              refine kcallV (n := 1) F (kM_isNow l G (fun q => H.size ≤ q) A ad τ1 i (by omega)) wML_X6_108 wIM_X6_isNow wSE_X6_X6_isNow wIN_X6 wCO_X6_isNow (by decide) rfl ⟨by decide, by decide⟩ (frec F hP.main _ rfl) hS (fun q h => hA q (Nat.le_trans hS.1 h)) (fun q h => h) hP rfl hl.1 (Nat.le_of_ble_eq_true rfl) dX6_endDay_32 ⟨by decide, by decide⟩ (fun E ce q9 H1 locs1 hx9 _ _ _ _ _ => hx9.elim) (fun v H1 locs1 hv hk hS => ?_)
              have hP := hP.old hk
              subst hv
              refine lv_if_eq (tgt := 54) hx hb dX6_endDay_35 (by decide) (fun c_35_9 => ?_) (fun c_35_9 => ?_)
              · refine lv_iinc (v := (nI (i + 1))) (lv' := [(1, .int (nI (i + 1))), (0, .ref (ad 30))]) hx hb dX6_endDay_54 hl (k := 0) rfl (nI_1 _) (by decide) rfl (fun ls hl => ?_)
                refine lv_goto (tgt := 22) hx hb dX6_endDay_57 (by decide) ?_
                exact ih22 τ1 (i + 1) (by omega) (by omega) (by rw [itr_step hi, show mShT i τ1 = τ1 from if_neg (by rw [b2i_0.mp c_35_9]; decide)] at hT; exact hT) hn1 _ _ _ hS hP (lv_sub hl [0, 1] rfl)
              · refine lv_aload_n hx hb dX6_endDay_38 rfl (lv_at hl 1 rfl) ?_
                refine lv_aload_n hx hb dX6_endDay_39 rfl (lv_at hl 1 rfl) ?_
                refine gX6 F hP.main 8 (by decide) wFL_X6_28 (fun _ h9 => h9) (v := .ref (ad 8)) rfl dX6_endDay_40 ?_
                refine lv_iload_n hx hb dX6_endDay_43 rfl (lv_at hl 0 rfl) ?_
                refine xiald hx hb hE.1.1 (hP.arr 8 (by decide) (by decide)) 0 rfl (k := i) rfl (show _ < 80 by omega) (by decide) dX6_endDay_44 ?_
                refine lv_aload_n hx hb dX6_endDay_45 rfl (lv_at hl 1 rfl) ?_
                refine gX6 F hP.main 13 (by decide) wFL_X6_41 (fun _ h9 => h9) (v := .ref (ad 13)) rfl dX6_endDay_46 ?_
                refine lv_iload_n hx hb dX6_endDay_49 rfl (lv_at hl 0 rfl) ?_
                refine xiald hx hb hE.1.1 (hP.arr 13 (by decide) (by decide)) 0 rfl (k := i) rfl (show _ < 80 by omega) (by decide) dX6_endDay_50 ?_
                refine kcallV (n := 2) F (kM_share l G A ad τ1 (τ1 8 i) (τ1 13 i)) wML_X6_165 wIM_X6_share wSE_X6_X6_share wIN_X6 wCO_X6_share (by decide) rfl ⟨by decide, by decide⟩ (frec F hP.main _ rfl) hS (fun _ h => h) (fun q h => hA q (Nat.le_trans hS.1 h)) hP rfl hl.1 (Nat.le_of_ble_eq_true rfl) dX6_endDay_51 ⟨by decide, by decide⟩ (fun E ce q9 H1 locs1 hx9 _ _ _ _ _ => hx9.elim) (fun v H1 locs1 hv hk hS => ?_)
                obtain ⟨rfl, hP⟩ := hv
                refine lv_iinc (v := (nI (i + 1))) (lv' := [(1, .int (nI (i + 1))), (0, .ref (ad 30))]) hx hb dX6_endDay_54 hl (k := 0) rfl (nI_1 _) (by decide) rfl (fun ls hl => ?_)
                refine lv_goto (tgt := 22) hx hb dX6_endDay_57 (by decide) ?_
                exact ih22 (mShare (τ1 8 i) (τ1 13 i) τ1) (i + 1) (by omega) (by omega) (by rw [itr_step hi, show mShT i τ1 = mShare (τ1 8 i) (τ1 13 i) τ1 from if_pos (b2i_1.mp c_35_9)] at hT; exact hT) (by rw [mShare_ne (by decide)]; exact hn1) _ _ _ hS hP (lv_sub hl [0, 1] rfl)
        exact L22 (n + 1) τ1 0 (by omega) (by omega) (by rw [hT]; exact mEnd2_def) hn1 _ _ _ hS hP (lv_sub hl [0, 1] rfl)
      · have hi := nI_lt' (n := 12) h1 (by decide) c_5_1
        refine lv_aload_n hx hb dX6_endDay_8 rfl (lv_at hl 1 rfl) ?_
        refine lv_iload_n hx hb dX6_endDay_9 rfl (lv_at hl 0 rfl) ?_
        refine kcallV (n := 1) F (kM_clear l G A ad τ1 i n hn1 hn8) wML_X6_149 wIM_X6_clear wSE_X6_X6_clear wIN_X6 wCO_X6_clear (by decide) rfl ⟨by decide, by decide⟩ (frec F hP.main _ rfl) hS (fun _ h => h) (fun q h => hA q (Nat.le_trans hS.1 h)) hP rfl hl.1 (Nat.le_of_ble_eq_true rfl) dX6_endDay_10 ⟨by decide, by decide⟩ (fun E ce q9 H1 locs1 hx9 _ _ _ _ _ => hx9.elim) (fun v H1 locs1 hv hk hS => ?_)
        obtain ⟨rfl, hP⟩ := hv
        refine lv_istore_n (lv' := [(2, .int ((mClear τ1 n i).2)), (1, .int (nI i)), (0, .ref (ad 30))]) hx hb dX6_endDay_13 rfl hl (by decide) rfl (fun ls hl => ?_)
        refine lv_iinc (v := (nI (i + 1))) (lv' := [(1, .int (nI (i + 1))), (2, .int ((mClear τ1 n i).2)), (0, .ref (ad 30))]) hx hb dX6_endDay_14 hl (k := 1) rfl (nI_1 _) (by decide) rfl (fun ls hl => ?_)
        refine lv_goto (tgt := 2) hx hb dX6_endDay_17 (by decide) ?_
        exact ih2 (mClrR n i τ1) (i + 1) (by omega) (by omega) (by rw [itr_step hi] at hT; exact hT) (by rw [mClrR_ne (by decide)]; exact hn1) _ _ _ hS hP (lv_sub hl [0, 2] rfl)
  exact L2 (12 + 1) τ 0 (by omega) (by omega) rfl hn _ _ _ hS hP (lv_sub hl [0, 1] rfl)

