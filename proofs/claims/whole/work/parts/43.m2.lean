def thr (τ : SG) (k : Int32) : SG := up τ 27 0 k
theorem thr_o {τ : SG} {k : Int32} {f i : Nat} (h : f ≠ 27) : thr τ k f i = τ f i := up_f h
theorem thr_27 {τ : SG} {k : Int32} : thr τ k 27 0 = k := up_s
def mFor (τ : SG) (t : Nat) (hh : Int32) : Bool := !(decide (τ 4 t = 0) && !decide (τ 5 t = hh))
def cI (p : Nat → Bool) (i : Nat) (x : Int32) : Int32 := if p i = true then x + 1 else x + 0
theorem itr_cI {p : Nat → Bool} : ∀ (n a : Nat) (x : Int32), itr (cI p) a n x = x + nI (cntF p a n)
  | 0, a, x => (Int32.add_zero x).symm
  | n + 1, a, x => by
    show itr (cI p) (a + 1) n (cI p a x) = _
    rw [itr_cI n (a + 1)]
    simp only [cntF, cI]
    split
    · rw [show nI (1 + cntF p (a + 1) n) = 1 + nI (cntF p (a + 1) n) from by rw [Nat.add_comm, ← nI_1]; exact Int32.add_comm _ _]
      exact Int32.add_assoc _ _ _
    · rw [Int32.add_zero, Nat.zero_add]
theorem cnt_of {p : Nat → Bool} {n : Nat} {x : Int32} (h : itr (cI p) n (n - n) x = itr (cI p) 0 (n - 0) 0) : x = nI (cntF p 0 n) := by
  rw [itr_end, itr_cI, Nat.sub_zero] at h
  rw [h]
  exact Int32.zero_add _
def mHas (τ : SG) (mm so : Int32) (t : Nat) : Bool := mNow τ t && decide (τ 4 t = so) && decide (τ 6 t = mm)
def mIn (τ : SG) (rr : Int32) (t : Nat) : Bool := decide (τ 10 t = rr)
def mAhead (τ : SG) (u t : Nat) : Bool := if decide (τ 4 u = 2) = decide (τ 4 t = 2) then decide (τ 11 u < τ 11 t) else decide (τ 4 u = 2)
def mAhd (τ : SG) (r t u : Nat) : Bool := decide (τ 10 u = 100 + nI r) && !decide (u = t) && mAhead τ u t
def fndF (p : Nat → Bool) : Nat → Nat → Int32
  | _, 0 => -1
  | a, n + 1 => if p a = true then nI a else fndF p (a + 1) n
theorem fnd_step {p : Nat → Bool} {i n : Nat} (h : i < n) : fndF p i (n - i) = if p i = true then nI i else fndF p (i + 1) (n - (i + 1)) := by
  obtain ⟨k, hk⟩ : ∃ k, n - i = k + 1 := ⟨n - i - 1, by omega⟩
  rw [hk, show n - (i + 1) = k by omega]
  rfl
theorem fnd_end {p : Nat → Bool} {i : Nat} : fndF p i (i - i) = -1 := by rw [Nat.sub_self]; rfl
def mAt (τ : SG) (n r : Nat) (pp : Int32) (t : Nat) : Bool := decide (τ 10 t = 100 + nI r) && decide (nI (cntF (mAhd τ r t) 0 n) = pp)
def mQ (τ : SG) (n r : Nat) (pp : Int32) : Int32 := fndF (mAt τ n r pp) 0 n
theorem in_ex {x b : Int32} {n : Nat} (hb : b + 1 = nI n) (hn : n ≤ 1000) (h : inB x 0 b = true) : ∃ j, j < n ∧ x = nI j := by
  simp only [inB, Bool.and_eq_true, decide_eq_true_eq] at h
  refine ix_of (by omega) (Int32.not_lt.mpr h.1) ?_
  have hb' : b = nI n - 1 := by rw [← hb]; exact (Int32.add_sub_cancel _ _).symm
  have h2 := h.2
  cases n with
  | zero =>
    have h1 := h.1
    rw [hb'] at h2
    exact absurd (Int32.le_trans h1 h2) (by decide)
  | succ k =>
    rw [hb', nI_m1] at h2
    exact Int32.lt_of_le_of_lt h2 ((nI_ltI (by omega) (by omega)).mpr (Nat.lt_succ_self k))
theorem in_no {x b : Int32} {n : Nat} (hb : b + 1 = nI n) (hn : n ≤ 1000) (h : inB x 0 b = false) : ¬ ∃ j, j < n ∧ x = nI j := by
  rintro ⟨j, hj, rfl⟩
  have hb' : b = nI n - 1 := by rw [← hb]; exact (Int32.add_sub_cancel _ _).symm
  obtain ⟨k, rfl⟩ : ∃ k, n = k + 1 := ⟨n - 1, by omega⟩
  rw [hb', nI_m1] at h
  have h1 : inB (nI j) 0 (nI k) = true := by
    simp only [inB, Bool.and_eq_true, decide_eq_true_eq]
    exact ⟨(nI_leI (a := 0) (by decide) (by omega)).mpr (Nat.zero_le _), (nI_leI (by omega) (by omega)).mpr (by omega)⟩
  rw [h1] at h
  cases h
theorem m1p {x : Int32} : x - 1 + 1 = x := Int32.sub_add_cancel _ _
set_option maxHeartbeats 4000000 in
set_option maxRecDepth 100000 in
theorem kM_isValid (l : Launch) (G : GE) (A1 A : Nat → Prop) (ad : Nat → Nat) (τ : SG) (k : Nat) (hm9 : k < 6) : KM l G A1 yX6_isValid cX6_isValid 2 (some .boolean) (rmL 1 0 0) [.ref (ad 30), .int (nI k)] (PM G A ad τ) (fun v _ => v = some (.int (b2i (fBel (τ 2 k) (τ 26 0))))) (fun _ _ => False) := by
  refine KM.of (by decide) (Nat.le_of_ble_eq_true rfl) ?_
  intro p e s m args below meth c F hP ls hl
  have hx := F.1.1
  have hb := F.1.2.1
  have hown := F.1.2.2.2.1
  have hts := F.1.2.2.2.2
  have hr := F.2.1
  have hlocks := F.2.2.1
  have hE := F.2.2.2.2.2.1
  have hA := F.2.2.2.2.2.2
  have hS : va_S A1 s.heap s.heap [] := va_S.rf
  have hl : lv_has ls 2 [(0, .ref (ad 30)), (1, .int (nI k))] := hl
  have hP := hP
  refine lv_aload_n hx hb dX6_isValid_0 rfl (lv_at hl 0 rfl) ?_
  refine gX6 F hP.main 2 (by decide) wFL_X6_13 (fun _ h9 => h9) (v := .ref (ad 2)) rfl dX6_isValid_1 ?_
  refine lv_iload_n hx hb dX6_isValid_4 rfl (lv_at hl 1 rfl) ?_
  refine xiald hx hb hE.1.1 (hP.arr 2 (by decide) (by decide)) 0 rfl (k := k) rfl (show _ < 6 by omega) (by decide) dX6_isValid_5 ?_
  refine lv_aload_n hx hb dX6_isValid_6 rfl (lv_at hl 0 rfl) ?_
  refine gX6 F hP.main 26 (by decide) wFL_X6_94 (fun _ h9 => h9) (v := .int (τ 26 0)) rfl dX6_isValid_7 ?_
  refine lv_icmp_lt (tgt := 17) hx hb dX6_isValid_10 (by decide) (fun c_10_1 => ?_) (fun c_10_1 => ?_)
  · refine lv_iconst (v := 0) hx hb dX6_isValid_17 (by decide) ?_
    exact kzret hx hb hr hlocks hS (by decide) (by decide) (Or.inl rfl) dX6_isValid_18 (by simp [b2i, fBel, Int32.not_le.mpr c_10_1])
  · refine lv_iconst (v := 1) hx hb dX6_isValid_13 (by decide) ?_
    refine lv_goto (tgt := 18) hx hb dX6_isValid_14 (by decide) ?_
    exact kzret hx hb hr hlocks hS (by decide) (by decide) (Or.inr rfl) dX6_isValid_18 (by simp [b2i, fBel, Int32.not_lt.mp c_10_1])

set_option maxHeartbeats 4000000 in
set_option maxRecDepth 100000 in
theorem kM_isFor (l : Launch) (G : GE) (A1 A : Nat → Prop) (ad : Nat → Nat) (τ : SG) (t : Nat) (ht : t < 80) (hh : Int32) : KM l G A1 yX6_isFor cX6_isFor 3 (some .boolean) (rmL 1 0 0) [.ref (ad 30), .int (nI t), .int hh] (PM G A ad τ) (fun v _ => v = some (.int (b2i (mFor τ t hh)))) (fun _ _ => False) := by
  refine KM.of (by decide) (Nat.le_of_ble_eq_true rfl) ?_
  intro p e s m args below meth c F hP ls hl
  have hx := F.1.1
  have hb := F.1.2.1
  have hown := F.1.2.2.2.1
  have hts := F.1.2.2.2.2
  have hr := F.2.1
  have hlocks := F.2.2.1
  have hE := F.2.2.2.2.2.1
  have hA := F.2.2.2.2.2.2
  have hS : va_S A1 s.heap s.heap [] := va_S.rf
  have hl : lv_has ls 3 [(0, .ref (ad 30)), (1, .int (nI t)), (2, .int hh)] := hl
  have hP := hP
  refine lv_aload_n hx hb dX6_isFor_0 rfl (lv_at hl 0 rfl) ?_
  refine gX6 F hP.main 4 (by decide) wFL_X6_16 (fun _ h9 => h9) (v := .ref (ad 4)) rfl dX6_isFor_1 ?_
  refine lv_iload_n hx hb dX6_isFor_4 rfl (lv_at hl 1 rfl) ?_
  refine xiald hx hb hE.1.1 (hP.arr 4 (by decide) (by decide)) 0 rfl (k := t) rfl (show _ < 80 by omega) (by decide) dX6_isFor_5 ?_
  refine lv_if_ne (tgt := 19) hx hb dX6_isFor_6 (by decide) (fun c_6_1 => ?_) (fun c_6_1 => ?_)
  · refine lv_iconst (v := 1) hx hb dX6_isFor_19 (by decide) ?_
    refine lv_goto (tgt := 24) hx hb dX6_isFor_20 (by decide) ?_
    exact kzret hx hb hr hlocks hS (by decide) (by decide) (Or.inr rfl) dX6_isFor_24 (by simp [b2i, mFor, c_6_1])
  · refine lv_aload_n hx hb dX6_isFor_9 rfl (lv_at hl 0 rfl) ?_
    refine gX6 F hP.main 5 (by decide) wFL_X6_19 (fun _ h9 => h9) (v := .ref (ad 5)) rfl dX6_isFor_10 ?_
    refine lv_iload_n hx hb dX6_isFor_13 rfl (lv_at hl 1 rfl) ?_
    refine xiald hx hb hE.1.1 (hP.arr 5 (by decide) (by decide)) 0 rfl (k := t) rfl (show _ < 80 by omega) (by decide) dX6_isFor_14 ?_
    refine lv_iload_n hx hb dX6_isFor_15 rfl (lv_at hl 2 rfl) ?_
    refine lv_icmp_ne (tgt := 23) hx hb dX6_isFor_16 (by decide) (fun c_16_2 => ?_) (fun c_16_2 => ?_)
    · refine lv_iconst (v := 0) hx hb dX6_isFor_23 (by decide) ?_
      exact kzret hx hb hr hlocks hS (by decide) (by decide) (Or.inl rfl) dX6_isFor_24 (by simp [b2i, mFor, c_6_1, c_16_2])
    · refine lv_iconst (v := 1) hx hb dX6_isFor_19 (by decide) ?_
      refine lv_goto (tgt := 24) hx hb dX6_isFor_20 (by decide) ?_
      exact kzret hx hb hr hlocks hS (by decide) (by decide) (Or.inr rfl) dX6_isFor_24 (by simp [b2i, mFor, c_6_1, c_16_2])

def mMake (τ : SG) (n : Nat) (so ho me co : Int32) : SG := up (up (up (up (up (up (up (up τ 4 n so) 5 n ho) 6 n me) 7 n (τ 26 0)) 8 n co) 10 n (-1)) 25 0 (τ 25 0 + co)) 3 0 (nI (n + 1))
set_option maxHeartbeats 4000000 in
set_option maxRecDepth 100000 in
theorem kM_make (l : Launch) (G : GE) (A : Nat → Prop) (ad : Nat → Nat) (τ : SG) (n : Nat) (hn : τ 3 0 = nI n) (hn8 : n < 80) (so ho me co : Int32) : KM l G A yX6_make cX6_make 5 (some .int) (rmL 1 0 0) [.ref (ad 30), .int so, .int ho, .int me, .int co] (PM G A ad τ) (fun v H => v = some (.int (nI n)) ∧ PM G A ad (mMake τ n so ho me co) H) (fun _ _ => False) := by
  refine KM.of (by decide) (Nat.le_of_ble_eq_true rfl) ?_
  intro p e s m args below meth c F hP ls hl
  have hx := F.1.1
  have hb := F.1.2.1
  have hown := F.1.2.2.2.1
  have hts := F.1.2.2.2.2
  have hr := F.2.1
  have hlocks := F.2.2.1
  have hE := F.2.2.2.2.2.1
  have hA := F.2.2.2.2.2.2
  have hS : va_S A s.heap s.heap [] := va_S.rf
  have hl : lv_has ls 5 [(0, .ref (ad 30)), (1, .int so), (2, .int ho), (3, .int me), (4, .int co)] := hl
  have hP := hP
  refine lv_aload_n hx hb dX6_make_0 rfl (lv_at hl 0 rfl) ?_
  refine gX6 F hP.main 4 (by decide) wFL_X6_16 (fun _ h9 => h9) (v := .ref (ad 4)) rfl dX6_make_1 ?_
  refine lv_aload_n hx hb dX6_make_4 rfl (lv_at hl 0 rfl) ?_
  refine gX6 F hP.main 3 (by decide) wFL_X6_88 (fun _ h9 => h9) (v := .int (nI n)) (by simp [up, thr, hn]) dX6_make_5 ?_
  refine lv_iload_n hx hb dX6_make_8 rfl (lv_at hl 1 rfl) ?_
  refine xiast hx hb hE.1.1 hS (hP.arr 4 (by decide) (by decide)) (hP.oarr 4 (by decide)) 0 rfl (k := n) rfl (show _ < 80 by omega) (by decide) dX6_make_9 (fun H1 locs1 he1 z1 oq1 hS => ?_)
  have hP := hP.parr 4 n (by decide) (by decide) he1 oq1
  refine lv_aload_n hx hb dX6_make_10 rfl (lv_at hl 0 rfl) ?_
  refine gX6 F hP.main 5 (by decide) wFL_X6_19 (fun _ h9 => h9) (v := .ref (ad 5)) rfl dX6_make_11 ?_
  refine lv_aload_n hx hb dX6_make_14 rfl (lv_at hl 0 rfl) ?_
  refine gX6 F hP.main 3 (by decide) wFL_X6_88 (fun _ h9 => h9) (v := .int (nI n)) (by simp [up, thr, hn]) dX6_make_15 ?_
  refine lv_iload_n hx hb dX6_make_18 rfl (lv_at hl 2 rfl) ?_
  refine xiast hx hb hE.1.1 hS (hP.arr 5 (by decide) (by decide)) (hP.oarr 5 (by decide)) 0 rfl (k := n) rfl (show _ < 80 by omega) (by decide) dX6_make_19 (fun H1 locs1 he1 z1 oq1 hS => ?_)
  have hP := hP.parr 5 n (by decide) (by decide) he1 oq1
  refine lv_aload_n hx hb dX6_make_20 rfl (lv_at hl 0 rfl) ?_
  refine gX6 F hP.main 6 (by decide) wFL_X6_22 (fun _ h9 => h9) (v := .ref (ad 6)) rfl dX6_make_21 ?_
  refine lv_aload_n hx hb dX6_make_24 rfl (lv_at hl 0 rfl) ?_
  refine gX6 F hP.main 3 (by decide) wFL_X6_88 (fun _ h9 => h9) (v := .int (nI n)) (by simp [up, thr, hn]) dX6_make_25 ?_
  refine lv_iload_n hx hb dX6_make_28 rfl (lv_at hl 3 rfl) ?_
  refine xiast hx hb hE.1.1 hS (hP.arr 6 (by decide) (by decide)) (hP.oarr 6 (by decide)) 0 rfl (k := n) rfl (show _ < 80 by omega) (by decide) dX6_make_29 (fun H1 locs1 he1 z1 oq1 hS => ?_)
  have hP := hP.parr 6 n (by decide) (by decide) he1 oq1
  refine lv_aload_n hx hb dX6_make_30 rfl (lv_at hl 0 rfl) ?_
  refine gX6 F hP.main 7 (by decide) wFL_X6_25 (fun _ h9 => h9) (v := .ref (ad 7)) rfl dX6_make_31 ?_
  refine lv_aload_n hx hb dX6_make_34 rfl (lv_at hl 0 rfl) ?_
  refine gX6 F hP.main 3 (by decide) wFL_X6_88 (fun _ h9 => h9) (v := .int (nI n)) (by simp [up, thr, hn]) dX6_make_35 ?_
  refine lv_aload_n hx hb dX6_make_38 rfl (lv_at hl 0 rfl) ?_
  refine gX6 F hP.main 26 (by decide) wFL_X6_94 (fun _ h9 => h9) (v := .int (τ 26 0)) (by simp [up]) dX6_make_39 ?_
  refine xiast hx hb hE.1.1 hS (hP.arr 7 (by decide) (by decide)) (hP.oarr 7 (by decide)) 0 rfl (k := n) rfl (show _ < 80 by omega) (by decide) dX6_make_42 (fun H1 locs1 he1 z1 oq1 hS => ?_)
  have hP := hP.parr 7 n (by decide) (by decide) he1 oq1
  refine lv_aload_n hx hb dX6_make_43 rfl (lv_at hl 0 rfl) ?_
  refine gX6 F hP.main 8 (by decide) wFL_X6_28 (fun _ h9 => h9) (v := .ref (ad 8)) rfl dX6_make_44 ?_
  refine lv_aload_n hx hb dX6_make_47 rfl (lv_at hl 0 rfl) ?_
  refine gX6 F hP.main 3 (by decide) wFL_X6_88 (fun _ h9 => h9) (v := .int (nI n)) (by simp [up, thr, hn]) dX6_make_48 ?_
  refine lv_iload hx hb dX6_make_51 (lv_at hl 4 rfl) ?_
  refine xiast hx hb hE.1.1 hS (hP.arr 8 (by decide) (by decide)) (hP.oarr 8 (by decide)) 0 rfl (k := n) rfl (show _ < 80 by omega) (by decide) dX6_make_53 (fun H1 locs1 he1 z1 oq1 hS => ?_)
  have hP := hP.parr 8 n (by decide) (by decide) he1 oq1
  refine lv_aload_n hx hb dX6_make_54 rfl (lv_at hl 0 rfl) ?_
  refine gX6 F hP.main 10 (by decide) wFL_X6_35 (fun _ h9 => h9) (v := .ref (ad 10)) rfl dX6_make_55 ?_
  refine lv_aload_n hx hb dX6_make_58 rfl (lv_at hl 0 rfl) ?_
  refine gX6 F hP.main 3 (by decide) wFL_X6_88 (fun _ h9 => h9) (v := .int (nI n)) (by simp [up, thr, hn]) dX6_make_59 ?_
  refine lv_iconst (v := (-1)) hx hb dX6_make_62 (by decide) ?_
  refine xiast hx hb hE.1.1 hS (hP.arr 10 (by decide) (by decide)) (hP.oarr 10 (by decide)) 0 rfl (k := n) rfl (show _ < 80 by omega) (by decide) dX6_make_63 (fun H1 locs1 he1 z1 oq1 hS => ?_)
  have hP := hP.parr 10 n (by decide) (by decide) he1 oq1
  refine lv_aload_n hx hb dX6_make_64 rfl (lv_at hl 0 rfl) ?_
  refine lv_dup hx hb dX6_make_65 rfl ?_
  refine gX6 F hP.main 25 (by decide) wFL_X6_101 (fun _ h9 => h9) (v := .int (τ 25 0)) (by simp [up]) dX6_make_66 ?_
  refine lv_iload hx hb dX6_make_69 (lv_at hl 4 rfl) ?_
  refine lv_iadd hx hb dX6_make_71 ?_
  refine pX6 F hS hP.main hP.omain 25 (by decide) wFL_X6_101 (fun _ h9 => h9) rfl rfl rfl (by simp) dX6_make_72 (fun H1 locs1 he1 z1 oq1 hS => ?_)
  have hP := hP.p25 he1 oq1
  refine lv_aload_n hx hb dX6_make_75 rfl (lv_at hl 0 rfl) ?_
  refine lv_dup hx hb dX6_make_76 rfl ?_
  refine gX6 F hP.main 3 (by decide) wFL_X6_88 (fun _ h9 => h9) (v := .int (nI n)) (by simp [up, thr, hn]) dX6_make_77 ?_
  refine lv_iconst (v := 1) hx hb dX6_make_80 (by decide) ?_
  refine lv_iadd hx hb dX6_make_81 ?_
  refine W.eq (g2 := F0 m 82 ls [.int (nI (n + 1)), .ref (ad 30)]) (congrArg (fun z => F0 m 82 ls [.int z, .ref (ad 30)]) (nI_1 _)) ?_
  refine pX6 F hS hP.main hP.omain 3 (by decide) wFL_X6_88 (fun _ h9 => h9) rfl rfl rfl (by simp) dX6_make_82 (fun H1 locs1 he1 z1 oq1 hS => ?_)
  have hP := hP.p3 he1 oq1
  refine lv_aload_n hx hb dX6_make_85 rfl (lv_at hl 0 rfl) ?_
  refine gX6 F hP.main 3 (by decide) wFL_X6_88 (fun _ h9 => h9) (v := .int (nI (n + 1))) (by simp [up]) dX6_make_86 ?_
  refine lv_iconst (v := 1) hx hb dX6_make_89 (by decide) ?_
  refine lv_isub hx hb dX6_make_90 ?_
  exact kiret hx hb hr hlocks hS (by decide) (by decide) dX6_make_91 (⟨by rw [nI_m1], hP⟩)

set_option maxHeartbeats 4000000 in
set_option maxRecDepth 100000 in
theorem kM_has (l : Launch) (G : GE) (A1 A : Nat → Prop) (ad : Nat → Nat) (τ : SG) (mm so : Int32) (n : Nat) (hn : τ 3 0 = nI n) (hn8 : n ≤ 80) : KM l G A1 yX6_has cX6_has 5 (some .int) (rmL 2 0 0) [.ref (ad 30), .int mm, .int so] (PM G A ad τ) (fun v _ => v = some (.int (nI (cntF (mHas τ mm so) 0 n)))) (fun _ _ => False) := by
  refine KM.of (by decide) (Nat.le_of_ble_eq_true rfl) ?_
  intro p e s m args below meth c F hP ls hl
  have hx := F.1.1
  have hb := F.1.2.1
  have hown := F.1.2.2.2.1
  have hts := F.1.2.2.2.2
  have hr := F.2.1
  have hlocks := F.2.2.1
  have hE := F.2.2.2.2.2.1
  have hA := F.2.2.2.2.2.2
  have hS : va_S A1 s.heap s.heap [] := va_S.rf
  have hl : lv_has ls 5 [(0, .ref (ad 30)), (1, .int mm), (2, .int so)] := hl
  have hP := hP
  refine lv_iconst (v := 0) hx hb dX6_has_0 (by decide) ?_
  refine lv_istore_n (lv' := [(3, .int 0), (0, .ref (ad 30)), (1, .int mm), (2, .int so)]) hx hb dX6_has_1 rfl hl (by decide) rfl (fun ls hl => ?_)
  refine lv_iconst (v := 0) hx hb dX6_has_2 (by decide) ?_
  refine lv_istore (lv' := [(4, .int 0), (3, .int 0), (0, .ref (ad 30)), (1, .int mm), (2, .int so)]) hx hb dX6_has_3 hl (by decide) rfl (fun ls hl => ?_)
  have L5 : ∀ (n9 : Nat) (x1 : Int32) (i : Nat) (h1 : i ≤ n) (h2 : n < i + n9) (hT : itr (cI (mHas τ mm so)) i (n - i) x1 = itr (cI (mHas τ mm so)) 0 (n - 0) 0) (H : Heap) (locs : List Loc) (ls : Array Slot), va_S A1 s.heap H locs → PM G A ad τ H → lv_has ls 5 [(4, .int (nI i)), (3, .int x1), (0, .ref (ad 30)), (1, .int mm), (2, .int so)] → W p l e (rmL 2 0 0) s m args below meth c H locs 0 0 (KE below A1 (fun v _ => v = some (.int (nI (cntF (mHas τ mm so) 0 n)))) (fun _ _ => False) args s (rmL 2 0 0)) (F0 m 5 ls []) := by
    intro n9
    induction n9 with
    | zero =>
      intro x1 i h1 h2 hT H locs ls hS hP hl
      exact absurd True.intro (by omega)
    | succ n9 ih5 =>
      intro x1 i h1 h2 hT H locs ls hS hP hl
      refine lv_iload hx hb dX6_has_5 (lv_at hl 0 rfl) ?_
      refine lv_aload_n hx hb dX6_has_7 rfl (lv_at hl 2 rfl) ?_
      refine gX6 F hP.main 3 (by decide) wFL_X6_88 (fun _ h9 => h9) (v := .int (nI n)) (by simp [up, thr, hn]) dX6_has_8 ?_
      refine lv_icmp_ge (tgt := 59) hx hb dX6_has_11 (by decide) (fun c_11_1 => ?_) (fun c_11_1 => ?_)
      · have ei := nI_eqle h1 (by omega) c_11_1
        rw [ei] at hT
        refine lv_iload_n hx hb dX6_has_59 rfl (lv_at hl 1 rfl) ?_
        exact kiret hx hb hr hlocks hS (by decide) (by decide) dX6_has_60 (by rw [cnt_of hT])
      · have hi := nI_lt' h1 (by omega) c_11_1
        refine lv_iload_n hx hb dX6_has_14 rfl (lv_at hl 1 rfl) ?_
        refine lv_aload_n hx hb dX6_has_15 rfl (lv_at hl 2 rfl) ?_
        refine lv_iload hx hb dX6_has_16 (lv_at hl 0 rfl) ?_
        refine kcallV (n := 1) F (kM_isNow l G (fun q => H.size ≤ q) A ad τ i (by omega)) wML_X6_108 wIM_X6_isNow wSE_X6_X6_isNow wIN_X6 wCO_X6_isNow (by decide) rfl ⟨by decide, by decide⟩ (frec F hP.main _ rfl) hS (fun q h => hA q (Nat.le_trans hS.1 h)) (fun q h => h) hP rfl hl.1 (Nat.le_of_ble_eq_true rfl) dX6_has_18 ⟨by decide, by decide⟩ (fun E ce q9 H1 locs1 hx9 _ _ _ _ _ => hx9.elim) (fun v H1 locs1 hv hk hS => ?_)
        have hP := hP.old hk
        subst hv
        refine lv_if_eq (tgt := 50) hx hb dX6_has_21 (by decide) (fun c_21_2 => ?_) (fun c_21_2 => ?_)
        · refine lv_iconst (v := 0) hx hb dX6_has_50 (by decide) ?_
          refine lv_iadd hx hb dX6_has_51 ?_
          refine lv_istore_n (lv' := [(3, .int (x1 + 0)), (4, .int (nI i)), (0, .ref (ad 30)), (1, .int mm), (2, .int so)]) hx hb dX6_has_52 rfl hl (by decide) rfl (fun ls hl => ?_)
          refine lv_iinc (v := (nI (i + 1))) (lv' := [(4, .int (nI (i + 1))), (3, .int (x1 + 0)), (0, .ref (ad 30)), (1, .int mm), (2, .int so)]) hx hb dX6_has_53 hl (k := 1) rfl (nI_1 _) (by decide) rfl (fun ls hl => ?_)
          refine lv_goto (tgt := 5) hx hb dX6_has_56 (by decide) ?_
          exact ih5 (x1 + 0) (i + 1) (by omega) (by omega) (by rw [itr_step hi, show cI (mHas τ mm so) i x1 = x1 + 0 from if_neg (by simp [mHas, (b2i_0.mp c_21_2)])] at hT; exact hT) _ _ _ hS hP (lv_sub hl [0, 1, 2, 3, 4] rfl)
        · refine lv_aload_n hx hb dX6_has_24 rfl (lv_at hl 2 rfl) ?_
          refine gX6 F hP.main 4 (by decide) wFL_X6_16 (fun _ h9 => h9) (v := .ref (ad 4)) rfl dX6_has_25 ?_
          refine lv_iload hx hb dX6_has_28 (lv_at hl 0 rfl) ?_
          refine xiald hx hb hE.1.1 (hP.arr 4 (by decide) (by decide)) 0 rfl (k := i) rfl (show _ < 80 by omega) (by decide) dX6_has_30 ?_
          refine lv_iload_n hx hb dX6_has_31 rfl (lv_at hl 4 rfl) ?_
          refine lv_icmp_ne (tgt := 50) hx hb dX6_has_32 (by decide) (fun c_32_3 => ?_) (fun c_32_3 => ?_)
          · refine lv_iconst (v := 0) hx hb dX6_has_50 (by decide) ?_
            refine lv_iadd hx hb dX6_has_51 ?_
            refine lv_istore_n (lv' := [(3, .int (x1 + 0)), (4, .int (nI i)), (0, .ref (ad 30)), (1, .int mm), (2, .int so)]) hx hb dX6_has_52 rfl hl (by decide) rfl (fun ls hl => ?_)
            refine lv_iinc (v := (nI (i + 1))) (lv' := [(4, .int (nI (i + 1))), (3, .int (x1 + 0)), (0, .ref (ad 30)), (1, .int mm), (2, .int so)]) hx hb dX6_has_53 hl (k := 1) rfl (nI_1 _) (by decide) rfl (fun ls hl => ?_)
            refine lv_goto (tgt := 5) hx hb dX6_has_56 (by decide) ?_
            exact ih5 (x1 + 0) (i + 1) (by omega) (by omega) (by rw [itr_step hi, show cI (mHas τ mm so) i x1 = x1 + 0 from if_neg (by simp [mHas, c_32_3, (b2i_1.mp c_21_2)])] at hT; exact hT) _ _ _ hS hP (lv_sub hl [0, 1, 2, 3, 4] rfl)
          · refine lv_aload_n hx hb dX6_has_35 rfl (lv_at hl 2 rfl) ?_
            refine gX6 F hP.main 6 (by decide) wFL_X6_22 (fun _ h9 => h9) (v := .ref (ad 6)) rfl dX6_has_36 ?_
            refine lv_iload hx hb dX6_has_39 (lv_at hl 0 rfl) ?_
            refine xiald hx hb hE.1.1 (hP.arr 6 (by decide) (by decide)) 0 rfl (k := i) rfl (show _ < 80 by omega) (by decide) dX6_has_41 ?_
            refine lv_iload_n hx hb dX6_has_42 rfl (lv_at hl 3 rfl) ?_
            refine lv_icmp_ne (tgt := 50) hx hb dX6_has_43 (by decide) (fun c_43_4 => ?_) (fun c_43_4 => ?_)
            · refine lv_iconst (v := 0) hx hb dX6_has_50 (by decide) ?_
              refine lv_iadd hx hb dX6_has_51 ?_
              refine lv_istore_n (lv' := [(3, .int (x1 + 0)), (4, .int (nI i)), (0, .ref (ad 30)), (1, .int mm), (2, .int so)]) hx hb dX6_has_52 rfl hl (by decide) rfl (fun ls hl => ?_)
              refine lv_iinc (v := (nI (i + 1))) (lv' := [(4, .int (nI (i + 1))), (3, .int (x1 + 0)), (0, .ref (ad 30)), (1, .int mm), (2, .int so)]) hx hb dX6_has_53 hl (k := 1) rfl (nI_1 _) (by decide) rfl (fun ls hl => ?_)
              refine lv_goto (tgt := 5) hx hb dX6_has_56 (by decide) ?_
              exact ih5 (x1 + 0) (i + 1) (by omega) (by omega) (by rw [itr_step hi, show cI (mHas τ mm so) i x1 = x1 + 0 from if_neg (by simp [mHas, c_32_3, c_43_4, (b2i_1.mp c_21_2)])] at hT; exact hT) _ _ _ hS hP (lv_sub hl [0, 1, 2, 3, 4] rfl)
            · refine lv_iconst (v := 1) hx hb dX6_has_46 (by decide) ?_
              refine lv_goto (tgt := 51) hx hb dX6_has_47 (by decide) ?_
              refine lv_iadd hx hb dX6_has_51 ?_
              refine lv_istore_n (lv' := [(3, .int (x1 + 1)), (4, .int (nI i)), (0, .ref (ad 30)), (1, .int mm), (2, .int so)]) hx hb dX6_has_52 rfl hl (by decide) rfl (fun ls hl => ?_)
              refine lv_iinc (v := (nI (i + 1))) (lv' := [(4, .int (nI (i + 1))), (3, .int (x1 + 1)), (0, .ref (ad 30)), (1, .int mm), (2, .int so)]) hx hb dX6_has_53 hl (k := 1) rfl (nI_1 _) (by decide) rfl (fun ls hl => ?_)
              refine lv_goto (tgt := 5) hx hb dX6_has_56 (by decide) ?_
              exact ih5 (x1 + 1) (i + 1) (by omega) (by omega) (by rw [itr_step hi, show cI (mHas τ mm so) i x1 = x1 + 1 from if_pos (by simp [mHas, c_32_3, c_43_4, (b2i_1.mp c_21_2)])] at hT; exact hT) _ _ _ hS hP (lv_sub hl [0, 1, 2, 3, 4] rfl)
  exact L5 (n + 1) 0 0 (by omega) (by omega) rfl _ _ _ hS hP (lv_sub hl [0, 1, 2, 3, 4] rfl)

set_option maxHeartbeats 4000000 in
set_option maxRecDepth 100000 in
theorem kM_insideOf (l : Launch) (G : GE) (A1 A : Nat → Prop) (ad : Nat → Nat) (τ : SG) (rr : Int32) (n : Nat) (hn : τ 3 0 = nI n) (hn8 : n ≤ 80) : KM l G A1 yX6_insideOf cX6_insideOf 4 (some .int) (rmL 1 0 0) [.ref (ad 30), .int rr] (PM G A ad τ) (fun v _ => v = some (.int (nI (cntF (mIn τ rr) 0 n)))) (fun _ _ => False) := by
  refine KM.of (by decide) (Nat.le_of_ble_eq_true rfl) ?_
  intro p e s m args below meth c F hP ls hl
  have hx := F.1.1
  have hb := F.1.2.1
  have hown := F.1.2.2.2.1
  have hts := F.1.2.2.2.2
  have hr := F.2.1
  have hlocks := F.2.2.1
  have hE := F.2.2.2.2.2.1
  have hA := F.2.2.2.2.2.2
  have hS : va_S A1 s.heap s.heap [] := va_S.rf
  have hl : lv_has ls 4 [(0, .ref (ad 30)), (1, .int rr)] := hl
  have hP := hP
  refine lv_iconst (v := 0) hx hb dX6_insideOf_0 (by decide) ?_
  refine lv_istore_n (lv' := [(2, .int 0), (0, .ref (ad 30)), (1, .int rr)]) hx hb dX6_insideOf_1 rfl hl (by decide) rfl (fun ls hl => ?_)
  refine lv_iconst (v := 0) hx hb dX6_insideOf_2 (by decide) ?_
  refine lv_istore_n (lv' := [(3, .int 0), (2, .int 0), (0, .ref (ad 30)), (1, .int rr)]) hx hb dX6_insideOf_3 rfl hl (by decide) rfl (fun ls hl => ?_)
  have L4 : ∀ (n9 : Nat) (x1 : Int32) (i : Nat) (h1 : i ≤ n) (h2 : n < i + n9) (hT : itr (cI (mIn τ rr)) i (n - i) x1 = itr (cI (mIn τ rr)) 0 (n - 0) 0) (H : Heap) (locs : List Loc) (ls : Array Slot), va_S A1 s.heap H locs → PM G A ad τ H → lv_has ls 4 [(3, .int (nI i)), (2, .int x1), (0, .ref (ad 30)), (1, .int rr)] → W p l e (rmL 1 0 0) s m args below meth c H locs 0 0 (KE below A1 (fun v _ => v = some (.int (nI (cntF (mIn τ rr) 0 n)))) (fun _ _ => False) args s (rmL 1 0 0)) (F0 m 4 ls []) := by
    intro n9
    induction n9 with
    | zero =>
      intro x1 i h1 h2 hT H locs ls hS hP hl
      exact absurd True.intro (by omega)
    | succ n9 ih4 =>
      intro x1 i h1 h2 hT H locs ls hS hP hl
      refine lv_iload_n hx hb dX6_insideOf_4 rfl (lv_at hl 0 rfl) ?_
      refine lv_aload_n hx hb dX6_insideOf_5 rfl (lv_at hl 2 rfl) ?_
      refine gX6 F hP.main 3 (by decide) wFL_X6_88 (fun _ h9 => h9) (v := .int (nI n)) (by simp [up, thr, hn]) dX6_insideOf_6 ?_
      refine lv_icmp_ge (tgt := 36) hx hb dX6_insideOf_9 (by decide) (fun c_9_1 => ?_) (fun c_9_1 => ?_)
      · have ei := nI_eqle h1 (by omega) c_9_1
        rw [ei] at hT
        refine lv_iload_n hx hb dX6_insideOf_36 rfl (lv_at hl 1 rfl) ?_
        exact kiret hx hb hr hlocks hS (by decide) (by decide) dX6_insideOf_37 (by rw [cnt_of hT])
      · have hi := nI_lt' h1 (by omega) c_9_1
        refine lv_iload_n hx hb dX6_insideOf_12 rfl (lv_at hl 1 rfl) ?_
        refine lv_aload_n hx hb dX6_insideOf_13 rfl (lv_at hl 2 rfl) ?_
        refine gX6 F hP.main 10 (by decide) wFL_X6_35 (fun _ h9 => h9) (v := .ref (ad 10)) rfl dX6_insideOf_14 ?_
        refine lv_iload_n hx hb dX6_insideOf_17 rfl (lv_at hl 0 rfl) ?_
        refine xiald hx hb hE.1.1 (hP.arr 10 (by decide) (by decide)) 0 rfl (k := i) rfl (show _ < 80 by omega) (by decide) dX6_insideOf_18 ?_
        refine lv_iload_n hx hb dX6_insideOf_19 rfl (lv_at hl 3 rfl) ?_
        refine lv_icmp_ne (tgt := 27) hx hb dX6_insideOf_20 (by decide) (fun c_20_2 => ?_) (fun c_20_2 => ?_)
        · refine lv_iconst (v := 0) hx hb dX6_insideOf_27 (by decide) ?_
          refine lv_iadd hx hb dX6_insideOf_28 ?_
          refine lv_istore_n (lv' := [(2, .int (x1 + 0)), (3, .int (nI i)), (0, .ref (ad 30)), (1, .int rr)]) hx hb dX6_insideOf_29 rfl hl (by decide) rfl (fun ls hl => ?_)
          refine lv_iinc (v := (nI (i + 1))) (lv' := [(3, .int (nI (i + 1))), (2, .int (x1 + 0)), (0, .ref (ad 30)), (1, .int rr)]) hx hb dX6_insideOf_30 hl (k := 1) rfl (nI_1 _) (by decide) rfl (fun ls hl => ?_)
          refine lv_goto (tgt := 4) hx hb dX6_insideOf_33 (by decide) ?_
          exact ih4 (x1 + 0) (i + 1) (by omega) (by omega) (by rw [itr_step hi, show cI (mIn τ rr) i x1 = x1 + 0 from if_neg (by simp [mIn, c_20_2])] at hT; exact hT) _ _ _ hS hP (lv_sub hl [0, 1, 2, 3] rfl)
        · refine lv_iconst (v := 1) hx hb dX6_insideOf_23 (by decide) ?_
          refine lv_goto (tgt := 28) hx hb dX6_insideOf_24 (by decide) ?_
          refine lv_iadd hx hb dX6_insideOf_28 ?_
          refine lv_istore_n (lv' := [(2, .int (x1 + 1)), (3, .int (nI i)), (0, .ref (ad 30)), (1, .int rr)]) hx hb dX6_insideOf_29 rfl hl (by decide) rfl (fun ls hl => ?_)
          refine lv_iinc (v := (nI (i + 1))) (lv' := [(3, .int (nI (i + 1))), (2, .int (x1 + 1)), (0, .ref (ad 30)), (1, .int rr)]) hx hb dX6_insideOf_30 hl (k := 1) rfl (nI_1 _) (by decide) rfl (fun ls hl => ?_)
          refine lv_goto (tgt := 4) hx hb dX6_insideOf_33 (by decide) ?_
          exact ih4 (x1 + 1) (i + 1) (by omega) (by omega) (by rw [itr_step hi, show cI (mIn τ rr) i x1 = x1 + 1 from if_pos (by simp [mIn, c_20_2])] at hT; exact hT) _ _ _ hS hP (lv_sub hl [0, 1, 2, 3] rfl)
  exact L4 (n + 1) 0 0 (by omega) (by omega) rfl _ _ _ hS hP (lv_sub hl [0, 1, 2, 3] rfl)

set_option maxHeartbeats 4000000 in
set_option maxRecDepth 100000 in
theorem kM_isAhead (l : Launch) (G : GE) (A1 A : Nat → Prop) (ad : Nat → Nat) (τ : SG) (u t : Nat) (hu : u < 80) (ht : t < 80) : KM l G A1 yX6_isAhead cX6_isAhead 5 (some .boolean) (rmL 1 0 0) [.ref (ad 30), .int (nI u), .int (nI t)] (PM G A ad τ) (fun v _ => v = some (.int (b2i (mAhead τ u t)))) (fun _ _ => False) := by
  refine KM.of (by decide) (Nat.le_of_ble_eq_true rfl) ?_
  intro p e s m args below meth c F hP ls hl
  have hx := F.1.1
  have hb := F.1.2.1
  have hown := F.1.2.2.2.1
  have hts := F.1.2.2.2.2
  have hr := F.2.1
  have hlocks := F.2.2.1
  have hE := F.2.2.2.2.2.1
  have hA := F.2.2.2.2.2.2
  have hS : va_S A1 s.heap s.heap [] := va_S.rf
  have hl : lv_has ls 5 [(0, .ref (ad 30)), (1, .int (nI u)), (2, .int (nI t))] := hl
  have hP := hP
  refine lv_aload_n hx hb dX6_isAhead_0 rfl (lv_at hl 0 rfl) ?_
  refine gX6 F hP.main 4 (by decide) wFL_X6_16 (fun _ h9 => h9) (v := .ref (ad 4)) rfl dX6_isAhead_1 ?_
  refine lv_iload_n hx hb dX6_isAhead_4 rfl (lv_at hl 1 rfl) ?_
  refine xiald hx hb hE.1.1 (hP.arr 4 (by decide) (by decide)) 0 rfl (k := u) rfl (show _ < 80 by omega) (by decide) dX6_isAhead_5 ?_
  refine lv_iconst (v := 2) hx hb dX6_isAhead_6 (by decide) ?_
  refine lv_icmp_ne (tgt := 14) hx hb dX6_isAhead_7 (by decide) (fun c_7_1 => ?_) (fun c_7_1 => ?_)
  · refine lv_iconst (v := 0) hx hb dX6_isAhead_14 (by decide) ?_
    refine lv_istore_n (lv' := [(3, .int 0), (0, .ref (ad 30)), (1, .int (nI u)), (2, .int (nI t))]) hx hb dX6_isAhead_15 rfl hl (by decide) rfl (fun ls hl => ?_)
    refine lv_aload_n hx hb dX6_isAhead_16 rfl (lv_at hl 1 rfl) ?_
    refine gX6 F hP.main 4 (by decide) wFL_X6_16 (fun _ h9 => h9) (v := .ref (ad 4)) rfl dX6_isAhead_17 ?_
    refine lv_iload_n hx hb dX6_isAhead_20 rfl (lv_at hl 3 rfl) ?_
    refine xiald hx hb hE.1.1 (hP.arr 4 (by decide) (by decide)) 0 rfl (k := t) rfl (show _ < 80 by omega) (by decide) dX6_isAhead_21 ?_
    refine lv_iconst (v := 2) hx hb dX6_isAhead_22 (by decide) ?_
    refine lv_icmp_ne (tgt := 30) hx hb dX6_isAhead_23 (by decide) (fun c_23_2 => ?_) (fun c_23_2 => ?_)
    · refine lv_iconst (v := 0) hx hb dX6_isAhead_30 (by decide) ?_
      refine lv_istore (lv' := [(4, .int 0), (3, .int 0), (0, .ref (ad 30)), (1, .int (nI u)), (2, .int (nI t))]) hx hb dX6_isAhead_31 hl (by decide) rfl (fun ls hl => ?_)
      refine lv_iload_n hx hb dX6_isAhead_33 rfl (lv_at hl 1 rfl) ?_
      refine lv_iload hx hb dX6_isAhead_34 (lv_at hl 0 rfl) ?_
      refine lv_icmp_eq (tgt := 43) hx hb dX6_isAhead_36 (by decide) (fun c_36_3 => ?_) (fun c_36_3 => ?_)
      · refine lv_aload_n hx hb dX6_isAhead_43 rfl (lv_at hl 2 rfl) ?_
        refine gX6 F hP.main 11 (by decide) wFL_X6_38 (fun _ h9 => h9) (v := .ref (ad 11)) rfl dX6_isAhead_44 ?_
        refine lv_iload_n hx hb dX6_isAhead_47 rfl (lv_at hl 3 rfl) ?_
        refine xiald hx hb hE.1.1 (hP.arr 11 (by decide) (by decide)) 0 rfl (k := u) rfl (show _ < 80 by omega) (by decide) dX6_isAhead_48 ?_
        refine lv_aload_n hx hb dX6_isAhead_49 rfl (lv_at hl 2 rfl) ?_
        refine gX6 F hP.main 11 (by decide) wFL_X6_38 (fun _ h9 => h9) (v := .ref (ad 11)) rfl dX6_isAhead_50 ?_
        refine lv_iload_n hx hb dX6_isAhead_53 rfl (lv_at hl 4 rfl) ?_
        refine xiald hx hb hE.1.1 (hP.arr 11 (by decide) (by decide)) 0 rfl (k := t) rfl (show _ < 80 by omega) (by decide) dX6_isAhead_54 ?_
        refine lv_icmp_ge (tgt := 62) hx hb dX6_isAhead_55 (by decide) (fun c_55_4 => ?_) (fun c_55_4 => ?_)
        · refine lv_iconst (v := 0) hx hb dX6_isAhead_62 (by decide) ?_
          exact kzret hx hb hr hlocks hS (by decide) (by decide) (Or.inl rfl) dX6_isAhead_63 (by simp [b2i, mAhead, c_7_1, c_23_2, c_55_4])
        · refine lv_iconst (v := 1) hx hb dX6_isAhead_58 (by decide) ?_
          refine lv_goto (tgt := 63) hx hb dX6_isAhead_59 (by decide) ?_
          exact kzret hx hb hr hlocks hS (by decide) (by decide) (Or.inr rfl) dX6_isAhead_63 (by simp [b2i, mAhead, c_7_1, c_23_2, c_55_4])
      · exact absurd c_36_3 (by decide)
    · refine lv_iconst (v := 1) hx hb dX6_isAhead_26 (by decide) ?_
      refine lv_goto (tgt := 31) hx hb dX6_isAhead_27 (by decide) ?_
      refine lv_istore (lv' := [(4, .int 1), (3, .int 0), (0, .ref (ad 30)), (1, .int (nI u)), (2, .int (nI t))]) hx hb dX6_isAhead_31 hl (by decide) rfl (fun ls hl => ?_)
      refine lv_iload_n hx hb dX6_isAhead_33 rfl (lv_at hl 1 rfl) ?_
      refine lv_iload hx hb dX6_isAhead_34 (lv_at hl 0 rfl) ?_
      refine lv_icmp_eq (tgt := 43) hx hb dX6_isAhead_36 (by decide) (fun c_36_5 => ?_) (fun c_36_5 => ?_)
      · exact absurd c_36_5 (by decide)
      · refine lv_iload_n hx hb dX6_isAhead_39 rfl (lv_at hl 1 rfl) ?_
        refine lv_goto (tgt := 63) hx hb dX6_isAhead_40 (by decide) ?_
        exact kzret hx hb hr hlocks hS (by decide) (by decide) (Or.inl rfl) dX6_isAhead_63 (by simp [b2i, mAhead, c_7_1, c_23_2])
  · refine lv_iconst (v := 1) hx hb dX6_isAhead_10 (by decide) ?_
    refine lv_goto (tgt := 15) hx hb dX6_isAhead_11 (by decide) ?_
    refine lv_istore_n (lv' := [(3, .int 1), (0, .ref (ad 30)), (1, .int (nI u)), (2, .int (nI t))]) hx hb dX6_isAhead_15 rfl hl (by decide) rfl (fun ls hl => ?_)
    refine lv_aload_n hx hb dX6_isAhead_16 rfl (lv_at hl 1 rfl) ?_
    refine gX6 F hP.main 4 (by decide) wFL_X6_16 (fun _ h9 => h9) (v := .ref (ad 4)) rfl dX6_isAhead_17 ?_
    refine lv_iload_n hx hb dX6_isAhead_20 rfl (lv_at hl 3 rfl) ?_
    refine xiald hx hb hE.1.1 (hP.arr 4 (by decide) (by decide)) 0 rfl (k := t) rfl (show _ < 80 by omega) (by decide) dX6_isAhead_21 ?_
    refine lv_iconst (v := 2) hx hb dX6_isAhead_22 (by decide) ?_
    refine lv_icmp_ne (tgt := 30) hx hb dX6_isAhead_23 (by decide) (fun c_23_6 => ?_) (fun c_23_6 => ?_)
    · refine lv_iconst (v := 0) hx hb dX6_isAhead_30 (by decide) ?_
      refine lv_istore (lv' := [(4, .int 0), (3, .int 1), (0, .ref (ad 30)), (1, .int (nI u)), (2, .int (nI t))]) hx hb dX6_isAhead_31 hl (by decide) rfl (fun ls hl => ?_)
      refine lv_iload_n hx hb dX6_isAhead_33 rfl (lv_at hl 1 rfl) ?_
      refine lv_iload hx hb dX6_isAhead_34 (lv_at hl 0 rfl) ?_
      refine lv_icmp_eq (tgt := 43) hx hb dX6_isAhead_36 (by decide) (fun c_36_7 => ?_) (fun c_36_7 => ?_)
      · exact absurd c_36_7 (by decide)
      · refine lv_iload_n hx hb dX6_isAhead_39 rfl (lv_at hl 1 rfl) ?_
        refine lv_goto (tgt := 63) hx hb dX6_isAhead_40 (by decide) ?_
        exact kzret hx hb hr hlocks hS (by decide) (by decide) (Or.inr rfl) dX6_isAhead_63 (by simp [b2i, mAhead, c_7_1, c_23_6])
    · refine lv_iconst (v := 1) hx hb dX6_isAhead_26 (by decide) ?_
      refine lv_goto (tgt := 31) hx hb dX6_isAhead_27 (by decide) ?_
      refine lv_istore (lv' := [(4, .int 1), (3, .int 1), (0, .ref (ad 30)), (1, .int (nI u)), (2, .int (nI t))]) hx hb dX6_isAhead_31 hl (by decide) rfl (fun ls hl => ?_)
      refine lv_iload_n hx hb dX6_isAhead_33 rfl (lv_at hl 1 rfl) ?_
      refine lv_iload hx hb dX6_isAhead_34 (lv_at hl 0 rfl) ?_
      refine lv_icmp_eq (tgt := 43) hx hb dX6_isAhead_36 (by decide) (fun c_36_8 => ?_) (fun c_36_8 => ?_)
      · refine lv_aload_n hx hb dX6_isAhead_43 rfl (lv_at hl 2 rfl) ?_
        refine gX6 F hP.main 11 (by decide) wFL_X6_38 (fun _ h9 => h9) (v := .ref (ad 11)) rfl dX6_isAhead_44 ?_
        refine lv_iload_n hx hb dX6_isAhead_47 rfl (lv_at hl 3 rfl) ?_
        refine xiald hx hb hE.1.1 (hP.arr 11 (by decide) (by decide)) 0 rfl (k := u) rfl (show _ < 80 by omega) (by decide) dX6_isAhead_48 ?_
        refine lv_aload_n hx hb dX6_isAhead_49 rfl (lv_at hl 2 rfl) ?_
        refine gX6 F hP.main 11 (by decide) wFL_X6_38 (fun _ h9 => h9) (v := .ref (ad 11)) rfl dX6_isAhead_50 ?_
        refine lv_iload_n hx hb dX6_isAhead_53 rfl (lv_at hl 4 rfl) ?_
        refine xiald hx hb hE.1.1 (hP.arr 11 (by decide) (by decide)) 0 rfl (k := t) rfl (show _ < 80 by omega) (by decide) dX6_isAhead_54 ?_
        refine lv_icmp_ge (tgt := 62) hx hb dX6_isAhead_55 (by decide) (fun c_55_9 => ?_) (fun c_55_9 => ?_)
        · refine lv_iconst (v := 0) hx hb dX6_isAhead_62 (by decide) ?_
          exact kzret hx hb hr hlocks hS (by decide) (by decide) (Or.inl rfl) dX6_isAhead_63 (by simp [b2i, mAhead, c_7_1, c_23_6, c_55_9])
        · refine lv_iconst (v := 1) hx hb dX6_isAhead_58 (by decide) ?_
          refine lv_goto (tgt := 63) hx hb dX6_isAhead_59 (by decide) ?_
          exact kzret hx hb hr hlocks hS (by decide) (by decide) (Or.inr rfl) dX6_isAhead_63 (by simp [b2i, mAhead, c_7_1, c_23_6, c_55_9])
      · exact absurd c_36_8 (by decide)

theorem nIe {a b : Nat} (ha : a < 2 ^ 31) (hb : b < 2 ^ 31) (h : nI a = nI b) : a = b := by
  have h1 := (nI_leI ha hb).mp (h ▸ Int32.le_refl _)
  have h2 := (nI_leI hb ha).mp (h ▸ Int32.le_refl _)
  omega
theorem nIn {a b : Nat} (h : ¬ nI a = nI b) : ¬ a = b := fun z => h (by rw [z])
set_option maxHeartbeats 4000000 in
set_option maxRecDepth 100000 in
theorem kM_inQueue (l : Launch) (G : GE) (A1 A : Nat → Prop) (ad : Nat → Nat) (τ : SG) (r : Nat) (pp : Int32) (n : Nat) (hn : τ 3 0 = nI n) (hn8 : n ≤ 80) : KM l G A1 yX6_inQueue cX6_inQueue 6 (some .int) (rmL 2 0 0) [.ref (ad 30), .int (nI r), .int pp] (PM G A ad τ) (fun v _ => v = some (.int (mQ τ n r pp))) (fun _ _ => False) := by
  refine KM.of (by decide) (Nat.le_of_ble_eq_true rfl) ?_
  intro p e s m args below meth c F hP ls hl
  have hx := F.1.1
  have hb := F.1.2.1
  have hown := F.1.2.2.2.1
  have hts := F.1.2.2.2.2
  have hr := F.2.1
  have hlocks := F.2.2.1
  have hE := F.2.2.2.2.2.1
  have hA := F.2.2.2.2.2.2
  have hS : va_S A1 s.heap s.heap [] := va_S.rf
  have hl : lv_has ls 6 [(0, .ref (ad 30)), (1, .int (nI r)), (2, .int pp)] := hl
  have hP := hP
  refine lv_iconst (v := 0) hx hb dX6_inQueue_0 (by decide) ?_
  refine lv_istore_n (lv' := [(3, .int 0), (0, .ref (ad 30)), (1, .int (nI r)), (2, .int pp)]) hx hb dX6_inQueue_1 rfl hl (by decide) rfl (fun ls hl => ?_)
  have L2 : ∀ (n9 : Nat) (i : Nat) (h1 : i ≤ n) (h2 : n < i + n9) (hT : fndF (mAt τ n r pp) i (n - i) = fndF (mAt τ n r pp) 0 (n - 0)) (H : Heap) (locs : List Loc) (ls : Array Slot), va_S A1 s.heap H locs → PM G A ad τ H → lv_has ls 6 [(3, .int (nI i)), (0, .ref (ad 30)), (1, .int (nI r)), (2, .int pp)] → W p l e (rmL 2 0 0) s m args below meth c H locs 0 0 (KE below A1 (fun v _ => v = some (.int (mQ τ n r pp))) (fun _ _ => False) args s (rmL 2 0 0)) (F0 m 2 ls []) := by
    intro n9
    induction n9 with
    | zero =>
      intro i h1 h2 hT H locs ls hS hP hl
      exact absurd True.intro (by omega)
    | succ n9 ih2 =>
      intro i h1 h2 hT H locs ls hS hP hl
      refine lv_iload_n hx hb dX6_inQueue_2 rfl (lv_at hl 0 rfl) ?_
      refine lv_aload_n hx hb dX6_inQueue_3 rfl (lv_at hl 1 rfl) ?_
      refine gX6 F hP.main 3 (by decide) wFL_X6_88 (fun _ h9 => h9) (v := .int (nI n)) (by simp [up, thr, hn]) dX6_inQueue_4 ?_
      refine lv_icmp_ge (tgt := 98) hx hb dX6_inQueue_7 (by decide) (fun c_7_1 => ?_) (fun c_7_1 => ?_)
      · have ei := nI_eqle h1 (by omega) c_7_1
        rw [ei] at hT
        refine lv_iconst (v := (-1)) hx hb dX6_inQueue_98 (by decide) ?_
        exact kiret hx hb hr hlocks hS (by decide) (by decide) dX6_inQueue_99 (by rw [fnd_end] at hT; rw [hT, mQ, Nat.sub_zero])
      · have hi := nI_lt' h1 (by omega) c_7_1
        refine lv_aload_n hx hb dX6_inQueue_10 rfl (lv_at hl 1 rfl) ?_
        refine gX6 F hP.main 10 (by decide) wFL_X6_35 (fun _ h9 => h9) (v := .ref (ad 10)) rfl dX6_inQueue_11 ?_
        refine lv_iload_n hx hb dX6_inQueue_14 rfl (lv_at hl 0 rfl) ?_
        refine xiald hx hb hE.1.1 (hP.arr 10 (by decide) (by decide)) 0 rfl (k := i) rfl (show _ < 80 by omega) (by decide) dX6_inQueue_15 ?_
        refine lv_bipush (v := 100) hx hb dX6_inQueue_16 (by decide) ?_
        refine lv_iload_n hx hb dX6_inQueue_18 rfl (lv_at hl 2 rfl) ?_
        refine lv_iadd hx hb dX6_inQueue_19 ?_
        refine lv_icmp_ne (tgt := 92) hx hb dX6_inQueue_20 (by decide) (fun c_20_2 => ?_) (fun c_20_2 => ?_)
        · refine lv_iinc (v := (nI (i + 1))) (lv' := [(3, .int (nI (i + 1))), (0, .ref (ad 30)), (1, .int (nI r)), (2, .int pp)]) hx hb dX6_inQueue_92 hl (k := 0) rfl (nI_1 _) (by decide) rfl (fun ls hl => ?_)
          refine lv_goto (tgt := 2) hx hb dX6_inQueue_95 (by decide) ?_
          exact ih2 (i + 1) (by omega) (by omega) (by rw [fnd_step hi, if_neg (by simp [mAt, c_20_2])] at hT; exact hT) _ _ _ hS hP (lv_sub hl [0, 1, 2, 3] rfl)
        · refine lv_iconst (v := 0) hx hb dX6_inQueue_23 (by decide) ?_
          refine lv_istore (lv' := [(4, .int 0), (3, .int (nI i)), (0, .ref (ad 30)), (1, .int (nI r)), (2, .int pp)]) hx hb dX6_inQueue_24 hl (by decide) rfl (fun ls hl => ?_)
          refine lv_iconst (v := 0) hx hb dX6_inQueue_26 (by decide) ?_
          refine lv_istore (lv' := [(5, .int 0), (4, .int 0), (3, .int (nI i)), (0, .ref (ad 30)), (1, .int (nI r)), (2, .int pp)]) hx hb dX6_inQueue_27 hl (by decide) rfl (fun ls hl => ?_)
          have L29 : ∀ (n9 : Nat) (x1 : Int32) (j : Nat) (g1 : j ≤ n) (g2 : n < j + n9) (gT : itr (cI (mAhd τ r i)) j (n - j) x1 = itr (cI (mAhd τ r i)) 0 (n - 0) 0) (H : Heap) (locs : List Loc) (ls : Array Slot), va_S A1 s.heap H locs → PM G A ad τ H → lv_has ls 6 [(5, .int (nI j)), (4, .int x1), (3, .int (nI i)), (0, .ref (ad 30)), (1, .int (nI r)), (2, .int pp)] → W p l e (rmL 2 0 0) s m args below meth c H locs 0 0 (KE below A1 (fun v _ => v = some (.int (mQ τ n r pp))) (fun _ _ => False) args s (rmL 2 0 0)) (F0 m 29 ls []) := by
            intro n9
            induction n9 with
            | zero =>
              intro x1 j g1 g2 gT H locs ls hS hP hl
              exact absurd True.intro (by omega)
            | succ n9 ih29 =>
              intro x1 j g1 g2 gT H locs ls hS hP hl
              refine lv_iload hx hb dX6_inQueue_29 (lv_at hl 0 rfl) ?_
              refine lv_aload_n hx hb dX6_inQueue_31 rfl (lv_at hl 3 rfl) ?_
              refine gX6 F hP.main 3 (by decide) wFL_X6_88 (fun _ h9 => h9) (v := .int (nI n)) (by simp [up, thr, hn]) dX6_inQueue_32 ?_
              refine lv_icmp_ge (tgt := 84) hx hb dX6_inQueue_35 (by decide) (fun c_35_3 => ?_) (fun c_35_3 => ?_)
              · have ej := nI_eqle g1 (by omega) c_35_3
                rw [ej] at gT
                have gc := cnt_of gT
                refine lv_iload hx hb dX6_inQueue_84 (lv_at hl 1 rfl) ?_
                refine lv_iload_n hx hb dX6_inQueue_86 rfl (lv_at hl 5 rfl) ?_
                refine lv_icmp_ne (tgt := 92) hx hb dX6_inQueue_87 (by decide) (fun c_87_4 => ?_) (fun c_87_4 => ?_)
                · refine lv_iinc (v := (nI (i + 1))) (lv' := [(3, .int (nI (i + 1))), (5, .int (nI j)), (4, .int x1), (0, .ref (ad 30)), (1, .int (nI r)), (2, .int pp)]) hx hb dX6_inQueue_92 hl (k := 2) rfl (nI_1 _) (by decide) rfl (fun ls hl => ?_)
                  refine lv_goto (tgt := 2) hx hb dX6_inQueue_95 (by decide) ?_
                  exact ih2 (i + 1) (by omega) (by omega) (by rw [fnd_step hi, if_neg (by rw [gc] at c_87_4; simp [mAt, c_87_4])] at hT; exact hT) _ _ _ hS hP (lv_sub hl [0, 3, 4, 5] rfl)
                · refine lv_iload_n hx hb dX6_inQueue_90 rfl (lv_at hl 2 rfl) ?_
                  exact kiret hx hb hr hlocks hS (by decide) (by decide) dX6_inQueue_91 (by rw [gc] at c_87_4; rw [fnd_step hi, if_pos (by simp [mAt, c_20_2, c_87_4])] at hT; rw [hT, mQ, Nat.sub_zero])
              · have hj := nI_lt' g1 (by omega) c_35_3
                refine lv_iload hx hb dX6_inQueue_38 (lv_at hl 1 rfl) ?_
                refine lv_aload_n hx hb dX6_inQueue_40 rfl (lv_at hl 3 rfl) ?_
                refine gX6 F hP.main 10 (by decide) wFL_X6_35 (fun _ h9 => h9) (v := .ref (ad 10)) rfl dX6_inQueue_41 ?_
                refine lv_iload hx hb dX6_inQueue_44 (lv_at hl 0 rfl) ?_
                refine xiald hx hb hE.1.1 (hP.arr 10 (by decide) (by decide)) 0 rfl (k := j) rfl (show _ < 80 by omega) (by decide) dX6_inQueue_46 ?_
                refine lv_bipush (v := 100) hx hb dX6_inQueue_47 (by decide) ?_
                refine lv_iload_n hx hb dX6_inQueue_49 rfl (lv_at hl 4 rfl) ?_
                refine lv_iadd hx hb dX6_inQueue_50 ?_
                refine lv_icmp_ne (tgt := 74) hx hb dX6_inQueue_51 (by decide) (fun c_51_5 => ?_) (fun c_51_5 => ?_)
                · refine lv_iconst (v := 0) hx hb dX6_inQueue_74 (by decide) ?_
                  refine lv_iadd hx hb dX6_inQueue_75 ?_
                  refine lv_istore (lv' := [(4, .int (x1 + 0)), (5, .int (nI j)), (3, .int (nI i)), (0, .ref (ad 30)), (1, .int (nI r)), (2, .int pp)]) hx hb dX6_inQueue_76 hl (by decide) rfl (fun ls hl => ?_)
                  refine lv_iinc (v := (nI (j + 1))) (lv' := [(5, .int (nI (j + 1))), (4, .int (x1 + 0)), (3, .int (nI i)), (0, .ref (ad 30)), (1, .int (nI r)), (2, .int pp)]) hx hb dX6_inQueue_78 hl (k := 1) rfl (nI_1 _) (by decide) rfl (fun ls hl => ?_)
                  refine lv_goto (tgt := 29) hx hb dX6_inQueue_81 (by decide) ?_
                  exact ih29 (x1 + 0) (j + 1) (by omega) (by omega) (by rw [itr_step hj, show cI (mAhd τ r i) j x1 = x1 + 0 from if_neg (by simp [mAhd, c_51_5])] at gT; exact gT) _ _ _ hS hP (lv_sub hl [0, 1, 2, 3, 4, 5] rfl)
                · refine lv_iload hx hb dX6_inQueue_54 (lv_at hl 0 rfl) ?_
                  refine lv_iload_n hx hb dX6_inQueue_56 rfl (lv_at hl 2 rfl) ?_
                  refine lv_icmp_eq (tgt := 74) hx hb dX6_inQueue_57 (by decide) (fun c_57_6 => ?_) (fun c_57_6 => ?_)
                  · refine lv_iconst (v := 0) hx hb dX6_inQueue_74 (by decide) ?_
                    refine lv_iadd hx hb dX6_inQueue_75 ?_
                    refine lv_istore (lv' := [(4, .int (x1 + 0)), (5, .int (nI j)), (3, .int (nI i)), (0, .ref (ad 30)), (1, .int (nI r)), (2, .int pp)]) hx hb dX6_inQueue_76 hl (by decide) rfl (fun ls hl => ?_)
                    refine lv_iinc (v := (nI (j + 1))) (lv' := [(5, .int (nI (j + 1))), (4, .int (x1 + 0)), (3, .int (nI i)), (0, .ref (ad 30)), (1, .int (nI r)), (2, .int pp)]) hx hb dX6_inQueue_78 hl (k := 1) rfl (nI_1 _) (by decide) rfl (fun ls hl => ?_)
                    refine lv_goto (tgt := 29) hx hb dX6_inQueue_81 (by decide) ?_
                    exact ih29 (x1 + 0) (j + 1) (by omega) (by omega) (by rw [itr_step hj, show cI (mAhd τ r i) j x1 = x1 + 0 from if_neg (by simp [mAhd, c_51_5, nIe (by omega) (by omega) c_57_6])] at gT; exact gT) _ _ _ hS hP (lv_sub hl [0, 1, 2, 3, 4, 5] rfl)
                  · refine lv_aload_n hx hb dX6_inQueue_60 rfl (lv_at hl 3 rfl) ?_
                    refine lv_iload hx hb dX6_inQueue_61 (lv_at hl 0 rfl) ?_
                    refine lv_iload_n hx hb dX6_inQueue_63 rfl (lv_at hl 2 rfl) ?_
                    refine kcallV (n := 2) F (kM_isAhead l G (fun q => H.size ≤ q) A ad τ j i (by omega) (by omega)) wML_X6_128 wIM_X6_isAhead wSE_X6_X6_isAhead wIN_X6 wCO_X6_isAhead (by decide) rfl ⟨by decide, by decide⟩ (frec F hP.main _ rfl) hS (fun q h => hA q (Nat.le_trans hS.1 h)) (fun q h => h) hP rfl hl.1 (Nat.le_of_ble_eq_true rfl) dX6_inQueue_64 ⟨by decide, by decide⟩ (fun E ce q9 H1 locs1 hx9 _ _ _ _ _ => hx9.elim) (fun v H1 locs1 hv hk hS => ?_)
                    have hP := hP.old hk
                    subst hv
                    refine lv_if_eq (tgt := 74) hx hb dX6_inQueue_67 (by decide) (fun c_67_7 => ?_) (fun c_67_7 => ?_)
                    · refine lv_iconst (v := 0) hx hb dX6_inQueue_74 (by decide) ?_
                      refine lv_iadd hx hb dX6_inQueue_75 ?_
                      refine lv_istore (lv' := [(4, .int (x1 + 0)), (5, .int (nI j)), (3, .int (nI i)), (0, .ref (ad 30)), (1, .int (nI r)), (2, .int pp)]) hx hb dX6_inQueue_76 hl (by decide) rfl (fun ls hl => ?_)
                      refine lv_iinc (v := (nI (j + 1))) (lv' := [(5, .int (nI (j + 1))), (4, .int (x1 + 0)), (3, .int (nI i)), (0, .ref (ad 30)), (1, .int (nI r)), (2, .int pp)]) hx hb dX6_inQueue_78 hl (k := 1) rfl (nI_1 _) (by decide) rfl (fun ls hl => ?_)
                      refine lv_goto (tgt := 29) hx hb dX6_inQueue_81 (by decide) ?_
                      exact ih29 (x1 + 0) (j + 1) (by omega) (by omega) (by rw [itr_step hj, show cI (mAhd τ r i) j x1 = x1 + 0 from if_neg (by simp [mAhd, c_51_5, nIn c_57_6, (b2i_0.mp c_67_7)])] at gT; exact gT) _ _ _ hS hP (lv_sub hl [0, 1, 2, 3, 4, 5] rfl)
                    · refine lv_iconst (v := 1) hx hb dX6_inQueue_70 (by decide) ?_
                      refine lv_goto (tgt := 75) hx hb dX6_inQueue_71 (by decide) ?_
                      refine lv_iadd hx hb dX6_inQueue_75 ?_
                      refine lv_istore (lv' := [(4, .int (x1 + 1)), (5, .int (nI j)), (3, .int (nI i)), (0, .ref (ad 30)), (1, .int (nI r)), (2, .int pp)]) hx hb dX6_inQueue_76 hl (by decide) rfl (fun ls hl => ?_)
                      refine lv_iinc (v := (nI (j + 1))) (lv' := [(5, .int (nI (j + 1))), (4, .int (x1 + 1)), (3, .int (nI i)), (0, .ref (ad 30)), (1, .int (nI r)), (2, .int pp)]) hx hb dX6_inQueue_78 hl (k := 1) rfl (nI_1 _) (by decide) rfl (fun ls hl => ?_)
                      refine lv_goto (tgt := 29) hx hb dX6_inQueue_81 (by decide) ?_
                      exact ih29 (x1 + 1) (j + 1) (by omega) (by omega) (by rw [itr_step hj, show cI (mAhd τ r i) j x1 = x1 + 1 from if_pos (by simp [mAhd, c_51_5, nIn c_57_6, (b2i_1.mp c_67_7)])] at gT; exact gT) _ _ _ hS hP (lv_sub hl [0, 1, 2, 3, 4, 5] rfl)
          exact L29 (n + 1) 0 0 (by omega) (by omega) rfl _ _ _ hS hP (lv_sub hl [0, 1, 2, 3, 4, 5] rfl)
  exact L2 (n + 1) 0 (by omega) (by omega) rfl _ _ _ hS hP (lv_sub hl [0, 1, 2, 3] rfl)

