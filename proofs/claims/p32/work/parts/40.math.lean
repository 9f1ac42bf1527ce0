/-! the law's museums in words of numbers: what tickets, rooms, works and money come to -/
def inB (x a b : Int32) : Bool := decide (a ≤ x) && decide (x ≤ b)
def mNow (τ : SG) (t : Nat) : Bool := decide (τ 7 t = τ 26 0) && decide (τ 9 t = 0)
def thr (τ : SG) (k : Int32) : SG := up τ 27 0 k
theorem thr_o {τ : SG} {k : Int32} {f i : Nat} (h : f ≠ 27) : thr τ k f i = τ f i := up_f h
theorem thr_27 {τ : SG} {k : Int32} : thr τ k 27 0 = k := up_s
def mFor (τ : SG) (t : Nat) (hh : Int32) : Bool := !(decide (τ 4 t = 0) && !decide (τ 5 t = hh))
def cI (p : Nat → Bool) (i : Nat) (x : Int32) : Int32 := if p i = true then x + 1 else x + 0
theorem itr_cI {p : Nat → Bool} : ∀ (n a : Nat) (x : Int32), itr (cI p) a n x = x + nI (cntF p a n)
  | 0, a, x => (Int32.add_zero x).symm
  | n + 1, a, x => by
    show itr (cI p) (a + 1) n (cI p a x) = _
    rw [itr_cI n (a + 1)]
    simp only [cntF, cI]
    split
    · rw [show nI (1 + cntF p (a + 1) n) = 1 + nI (cntF p (a + 1) n) from by rw [Nat.add_comm, ← nI_1]; exact Int32.add_comm _ _]
      exact Int32.add_assoc _ _ _
    · rw [Int32.add_zero, Nat.zero_add]
theorem cnt_of {p : Nat → Bool} {n : Nat} {x : Int32} (h : itr (cI p) n (n - n) x = itr (cI p) 0 (n - 0) 0) : x = nI (cntF p 0 n) := by
  rw [itr_end, itr_cI, Nat.sub_zero] at h
  rw [h]
  exact Int32.zero_add _
def mHas (τ : SG) (mm so : Int32) (t : Nat) : Bool := mNow τ t && decide (τ 4 t = so) && decide (τ 6 t = mm)
def mIn (τ : SG) (rr : Int32) (t : Nat) : Bool := decide (τ 10 t = rr)
def mAhead (τ : SG) (u t : Nat) : Bool := if decide (τ 4 u = 2) = decide (τ 4 t = 2) then decide (τ 11 u < τ 11 t) else decide (τ 4 u = 2)
def mAhd (τ : SG) (r t u : Nat) : Bool := decide (τ 10 u = 100 + nI r) && !decide (u = t) && mAhead τ u t
def fndF (p : Nat → Bool) : Nat → Nat → Int32
  | _, 0 => -1
  | a, n + 1 => if p a = true then nI a else fndF p (a + 1) n
theorem fnd_step {p : Nat → Bool} {i n : Nat} (h : i < n) : fndF p i (n - i) = if p i = true then nI i else fndF p (i + 1) (n - (i + 1)) := by
  obtain ⟨k, hk⟩ : ∃ k, n - i = k + 1 := ⟨n - i - 1, by omega⟩
  rw [hk, show n - (i + 1) = k by omega]
  rfl
theorem fnd_end {p : Nat → Bool} {i : Nat} : fndF p i (i - i) = -1 := by rw [Nat.sub_self]; rfl
def mAt (τ : SG) (n r : Nat) (pp : Int32) (t : Nat) : Bool := decide (τ 10 t = 100 + nI r) && decide (nI (cntF (mAhd τ r t) 0 n) = pp)
def mQ (τ : SG) (n r : Nat) (pp : Int32) : Int32 := fndF (mAt τ n r pp) 0 n
theorem in_ex {x b : Int32} {n : Nat} (hb : b + 1 = nI n) (hn : n ≤ 1000) (h : inB x 0 b = true) : ∃ j, j < n ∧ x = nI j := by
  simp only [inB, Bool.and_eq_true, decide_eq_true_eq] at h
  refine ix_of (by omega) (Int32.not_lt.mpr h.1) ?_
  have hb' : b = nI n - 1 := by rw [← hb]; exact (Int32.add_sub_cancel _ _).symm
  have h2 := h.2
  cases n with
  | zero =>
    have h1 := h.1
    rw [hb'] at h2
    exact absurd (Int32.le_trans h1 h2) (by decide)
  | succ k =>
    rw [hb', nI_m1] at h2
    exact Int32.lt_of_le_of_lt h2 ((nI_ltI (by omega) (by omega)).mpr (Nat.lt_succ_self k))
theorem in_no {x b : Int32} {n : Nat} (hb : b + 1 = nI n) (hn : n ≤ 1000) (h : inB x 0 b = false) : ¬ ∃ j, j < n ∧ x = nI j := by
  rintro ⟨j, hj, rfl⟩
  have hb' : b = nI n - 1 := by rw [← hb]; exact (Int32.add_sub_cancel _ _).symm
  obtain ⟨k, rfl⟩ : ∃ k, n = k + 1 := ⟨n - 1, by omega⟩
  rw [hb', nI_m1] at h
  have h1 : inB (nI j) 0 (nI k) = true := by
    simp only [inB, Bool.and_eq_true, decide_eq_true_eq]
    exact ⟨(nI_leI (a := 0) (by decide) (by omega)).mpr (Nat.zero_le _), (nI_leI (by omega) (by omega)).mpr (by omega)⟩
  rw [h1] at h
  cases h
theorem m1p {x : Int32} : x - 1 + 1 = x := Int32.sub_add_cancel _ _
def mMake (τ : SG) (n : Nat) (so ho me co : Int32) : SG := up (up (up (up (up (up (up (up τ 4 n so) 5 n ho) 6 n me) 7 n (τ 26 0)) 8 n co) 10 n (-1)) 25 0 (τ 25 0 + co)) 3 0 (nI (n + 1))
theorem nIe {a b : Nat} (ha : a < 2 ^ 31) (hb : b < 2 ^ 31) (h : nI a = nI b) : a = b := by
  have h1 := (nI_leI ha hb).mp (h ▸ Int32.le_refl _)
  have h2 := (nI_leI hb ha).mp (h ▸ Int32.le_refl _)
  omega
theorem nIn {a b : Nat} (h : ¬ nI a = nI b) : ¬ a = b := fun z => h (by rw [z])
def mBit (x : Int32) (r : Nat) : Int32 := (x >>> (nI r &&& 31)) &&& 1
def mFee (τ : SG) (w : Nat) : Int32 := if τ 19 w = 0 then 0 else τ 20 w
def mV4 (τ : SG) (w r h : Nat) (x : Int32) : SG := up (up (up (up τ 23 w (τ 23 w + 1)) 24 (r / 3) (τ 24 (r / 3) - x)) 24 h ((up (up τ 23 w (τ 23 w + 1)) 24 (r / 3) (τ 24 (r / 3) - x)) 24 h + x)) 21 w (τ 21 w + x)
def mView (r w : Nat) (τ : SG) : SG := if τ 18 w = nI r then mV4 τ w r (τ 17 w).toNatClampNeg (mFee τ w) else τ
def WFm (τ : SG) (nW : Nat) : Prop := ∀ w, w < nW → ∃ h, h < 4 ∧ τ 17 w = nI h
def mSeeL (nW r : Nat) (τ : SG) : SG := itr (mView r) 0 nW τ
def mSee (nW t r : Nat) (τ : SG) : SG := if mBit (τ 13 t) r = 1 then up τ 10 t (nI r) else mSeeL nW r (up (up τ 10 t (nI r)) 13 t (τ 13 t ||| ((1 : Int32) <<< (nI r &&& 31))))
theorem mV4_ne {τ : SG} {w r h g j : Nat} {x : Int32} (hg : g ≠ 21 ∧ g ≠ 23 ∧ g ≠ 24) : mV4 τ w r h x g j = τ g j := by simp [mV4, up, hg]
theorem mView_ne {τ : SG} {w r g j : Nat} (hg : g ≠ 21 ∧ g ≠ 23 ∧ g ≠ 24) : mView r w τ g j = τ g j := by
  unfold mView
  split
  · exact mV4_ne hg
  · rfl
theorem itr_neM {f : Nat → SG → SG} {g j : Nat} (hf : ∀ i σ, f i σ g j = σ g j) : ∀ (n a : Nat) (σ : SG), itr f a n σ g j = σ g j
  | 0, _, _ => rfl
  | n + 1, a, σ => (itr_neM hf n (a + 1) (f a σ)).trans (hf a σ)
theorem mSee_ne {τ : SG} {nW t r g j : Nat} (hg : g ≠ 10 ∧ g ≠ 13 ∧ g ≠ 21 ∧ g ≠ 23 ∧ g ≠ 24) : mSee nW t r τ g j = τ g j := by
  unfold mSee
  split
  · simp [up, hg]
  · unfold mSeeL
    rw [itr_neM (fun i σ => mView_ne ⟨hg.2.2.1, hg.2.2.2.1, hg.2.2.2.2⟩)]
    simp [up, hg]
theorem mSee_10 {τ : SG} {nW t r j : Nat} : mSee nW t r τ 10 j = up τ 10 t (nI r) 10 j := by
  unfold mSee
  split
  · rfl
  · unfold mSeeL
    rw [itr_neM (fun i σ => mView_ne (by decide))]
    simp [up]
theorem WFm.view {τ : SG} {nW r w : Nat} (h : WFm τ nW) : WFm (mView r w τ) nW := fun x hx => by
  rw [mView_ne (by decide)]
  exact h x hx
theorem mView_eq {τ : SG} {w r h : Nat} {x : Int32} (c : τ 18 w = nI r) (hh : h < 4) (eh : τ 17 w = nI h) (hx : mFee τ w = x) : mView r w τ = mV4 τ w r h x := by
  unfold mView
  rw [if_pos c, eh, nI_clamp (by omega), hx]
theorem r3' (r : Nat) (hr : r < 12) : nI r / 3 = nI (r / 3) := r3 r hr
def mQn (τ : SG) (n r : Nat) : Nat := cntF (fun t => decide (τ 10 t = 100 + nI r)) 0 n
def mLet (nW n r : Nat) : Nat → SG → SG
  | 0, τ => τ
  | k + 1, τ => if mQ τ n r 0 ≠ -1 ∧ nI (cntF (mIn τ (nI r)) 0 n) < τ 14 r then mLet nW n r k (mSee nW (mQ τ n r 0).toNatClampNeg r τ) else τ
theorem fnd_some {p : Nat → Bool} : ∀ (n a : Nat), fndF p a n ≠ -1 → ∃ i, a ≤ i ∧ i < a + n ∧ fndF p a n = nI i ∧ p i = true
  | 0, a, h => absurd rfl h
  | n + 1, a, h => by
    simp only [fndF] at h ⊢
    by_cases c : p a = true
    · rw [if_pos c]
      exact ⟨a, Nat.le_refl _, by omega, rfl, c⟩
    · rw [if_neg c] at h ⊢
      obtain ⟨i, h1, h2, h3, h4⟩ := fnd_some n (a + 1) h
      exact ⟨i, by omega, by omega, h3, h4⟩
theorem mQ_some {τ : SG} {n r : Nat} {pp : Int32} (h : ¬ mQ τ n r pp = -1) : ∃ i, i < n ∧ mQ τ n r pp = nI i ∧ τ 10 i = 100 + nI r := by
  obtain ⟨i, -, h2, h3, h4⟩ := fnd_some _ _ h
  refine ⟨i, by omega, h3, ?_⟩
  simp only [mAt, Bool.and_eq_true, decide_eq_true_eq] at h4
  exact h4.1
theorem cntF_mono {p q : Nat → Bool} : ∀ (n a : Nat), (∀ i, a ≤ i → i < a + n → q i = true → p i = true) → cntF q a n ≤ cntF p a n
  | 0, _, _ => Nat.le_refl _
  | n + 1, a, h => by
    have h1 := cntF_mono n (a + 1) (fun i h1 h2 => h i (by omega) (by omega))
    have h2 := h a (Nat.le_refl _) (by omega)
    simp only [cntF]
    cases cq : q a with
    | false => simp; omega
    | true => simp [h2 cq]; omega
theorem cntF_lt {p q : Nat → Bool} : ∀ (n a i : Nat), a ≤ i → i < a + n → p i = true → q i = false → (∀ i, a ≤ i → i < a + n → q i = true → p i = true) → cntF q a n < cntF p a n
  | 0, a, i, h1, h2, _, _, _ => by omega
  | n + 1, a, i, h1, h2, hp, hq, h => by
    simp only [cntF]
    by_cases c : a = i
    · subst c
      have := cntF_mono n (a + 1) (fun i h1 h2 => h i (by omega) (by omega))
      simp [hp, hq]
      omega
    · have h3 := cntF_lt n (a + 1) i (by omega) (by omega) hp hq (fun i h1 h2 => h i (by omega) (by omega))
      have h2 := h a (Nat.le_refl _) (by omega)
      cases cq : q a with
      | false => simp; omega
      | true => simp [h2 cq]; omega
theorem q_ne (r : Nat) (hr : r < 12) : ¬ nI r = 100 + nI r := (by decide +kernel : ∀ r, r < 12 → ¬ nI r = 100 + nI r) r hr
theorem mQn_see {τ : SG} {n nW r i : Nat} (hr9 : r < 12) (hi : i < n) (e : τ 10 i = 100 + nI r) : mQn (mSee nW i r τ) n r < mQn τ n r := by
  unfold mQn
  refine cntF_lt n 0 i (by omega) (by omega) (by simp [e]) ?_ (fun j _ _ hj => ?_)
  · simp only [mSee_10, up_s, decide_eq_false_iff_not]
    exact q_ne r hr9
  · simp only [mSee_10, decide_eq_true_eq] at hj ⊢
    by_cases c : j = i
    · subst c
      exact e
    · rw [← hj]
      simp [up, c]
theorem mLet_end {nW n r k : Nat} {τ : SG} (h : ¬ (mQ τ n r 0 ≠ -1 ∧ nI (cntF (mIn τ (nI r)) 0 n) < τ 14 r)) : mLet nW n r k τ = τ := by
  cases k with
  | zero => rfl
  | succ k => exact if_neg h
theorem mLet_go {nW n r k i : Nat} {τ : SG} (h : mQ τ n r 0 ≠ -1 ∧ nI (cntF (mIn τ (nI r)) 0 n) < τ 14 r) (e : mQ τ n r 0 = nI i) (hi : i < 80) : mLet nW n r (k + 1) τ = mLet nW n r k (mSee nW i r τ) := by
  show (if _ then _ else _) = _
  rw [if_pos h, e, nI_clamp (by omega)]
def mOut (τ : SG) (r t : Nat) : Bool := decide (τ 10 t = nI r) || decide (τ 10 t = 100 + nI r)
def mClrP (r t : Nat) (x : SG × Int32) : SG × Int32 := if mOut x.1 r t = true then (up x.1 10 t (-1), x.2 + 1) else x
def mClear (τ : SG) (n r : Nat) : SG × Int32 := itr (mClrP r) 0 n (τ, 0)
theorem itrp_ne {f : Nat → SG × Int32 → SG × Int32} {g j : Nat} (hf : ∀ i x, (f i x).1 g j = x.1 g j) : ∀ (n a : Nat) (x : SG × Int32), (itr f a n x).1 g j = x.1 g j
  | 0, _, _ => rfl
  | n + 1, a, x => (itrp_ne hf n (a + 1) (f a x)).trans (hf a x)
theorem mClear_ne {τ : SG} {n r g j : Nat} (hg : g ≠ 10) : (mClear τ n r).1 g j = τ g j := by
  unfold mClear
  rw [itrp_ne (fun i x => by unfold mClrP; split <;> simp [up, hg])]
def mBits (se : Int32) : Int32 := itr (fun r x => x + mBit se r) 0 12 0
def mPart (am se : Int32) : Int32 := if mBits se = 0 then 0 else am / mBits se
def mShr1 (se pt : Int32) (r : Nat) (τ : SG) : SG := up τ 24 (r / 3) (τ 24 (r / 3) + if mBit se r = 1 then pt else 0)
def mShrL (se pt : Int32) (τ : SG) : SG := itr (mShr1 se pt) 0 12 τ
def mShare (am se : Int32) (τ : SG) : SG := up (mShrL se (mPart am se) τ) 24 4 (mShrL se (mPart am se) τ 24 4 + (am - mPart am se * mBits se))
theorem mShrL_ne {τ : SG} {se pt : Int32} {g j : Nat} (hg : g ≠ 24) : mShrL se pt τ g j = τ g j := itr_neM (fun i σ => by simp [mShr1, up, hg]) _ _ _
theorem mShare_ne {τ : SG} {am se : Int32} {g j : Nat} (hg : g ≠ 24) : mShare am se τ g j = τ g j := by
  unfold mShare
  rw [show ∀ (σ : SG) (v : Int32), up σ 24 4 v g j = σ g j from fun σ v => by simp [up, hg]]
  exact mShrL_ne hg
def mClrR (n r : Nat) (τ : SG) : SG := (mClear τ n r).1
def mShT (t : Nat) (τ : SG) : SG := if mNow τ t = true then mShare (τ 8 t) (τ 13 t) τ else τ
def mOr1 (τ : SG) (k t : Nat) (x : Int32) : Int32 := if mHas τ (nI k) 2 t = true then x ||| τ 13 t else x ||| 0
def mOr (τ : SG) (n k : Nat) : Int32 := itr (mOr1 τ k) 0 n 0
def mShM (n k : Nat) (τ : SG) : SG := if fBel (τ 2 k) (τ 26 0) = true then mShare 200 (mOr τ n k) τ else τ
def mEnd1 (n : Nat) (τ : SG) : SG := itr (mClrR n) 0 12 τ
def mEnd2 (n : Nat) (τ : SG) : SG := itr mShT 0 n (mEnd1 n τ)
def mEnd3 (n : Nat) (τ : SG) : SG := itr (mShM n) 0 6 (mEnd2 n τ)
def mEnd (n : Nat) (τ : SG) : SG := up (mEnd3 n τ) 26 0 (mEnd3 n τ 26 0 + 1)
theorem mEnd2_def {n : Nat} {τ : SG} : itr mShT 0 (n - 0) (mEnd1 n τ) = mEnd2 n τ := rfl
theorem mEnd3_def {n : Nat} {τ : SG} : itr (mShM n) 0 (6 - 0) (mEnd2 n τ) = mEnd3 n τ := rfl
theorem mClrR_ne {τ : SG} {n r g j : Nat} (hg : g ≠ 10) : mClrR n r τ g j = τ g j := mClear_ne hg
theorem mShT_ne {τ : SG} {t g j : Nat} (hg : g ≠ 24) : mShT t τ g j = τ g j := by
  unfold mShT
  split
  · exact mShare_ne hg
  · rfl
theorem mShM_ne {τ : SG} {n k g j : Nat} (hg : g ≠ 24) : mShM n k τ g j = τ g j := by
  unfold mShM
  split
  · exact mShare_ne hg
  · rfl
theorem mEnd1_ne {τ : SG} {n g j : Nat} (hg : g ≠ 10) : mEnd1 n τ g j = τ g j := itr_neM (fun _ _ => mClrR_ne hg) _ _ _
theorem mEnd2_ne {τ : SG} {n g j : Nat} (hg : g ≠ 10 ∧ g ≠ 24) : mEnd2 n τ g j = τ g j := by
  unfold mEnd2
  rw [itr_neM (fun _ _ => mShT_ne hg.2)]
  exact mEnd1_ne hg.1
theorem mEnd3_ne {τ : SG} {n g j : Nat} (hg : g ≠ 10 ∧ g ≠ 24) : mEnd3 n τ g j = τ g j := by
  unfold mEnd3
  rw [itr_neM (fun _ _ => mShM_ne hg.2)]
  exact mEnd2_ne hg
theorem thr_thr {τ : SG} {a b : Int32} : thr (thr τ a) b = thr τ b := by
  funext f i
  simp only [thr, up]
  split <;> rfl
theorem b3 {x y : Int32} (h : x - y = 0) : x = y := by rw [← Int32.sub_add_cancel x y, h, Int32.zero_add]
theorem rem100 {x : Int32} {r : Nat} (hr : r < 12) (h : x = nI r ∨ x = 100 + nI r) : x - x / 100 * 100 = nI r := by
  rcases h with rfl | rfl
  · exact (by decide +kernel : ∀ r, r < 12 → nI r - nI r / 100 * 100 = nI r) r hr
  · exact (by decide +kernel : ∀ r, r < 12 → (100 + nI r) - (100 + nI r) / 100 * 100 = nI r) r hr
theorem nI_ne1 {j : Nat} (h : j < 4) : ¬ nI j = -1 := (by decide : ∀ j, j < 4 → ¬ nI j = -1) j h
theorem nI_ne1' {j : Nat} (h : j < 6) : ¬ nI j = -1 := (by decide : ∀ j, j < 6 → ¬ nI j = -1) j h
def cm_setPrice (τ : SG) (hh vv : Int32) (v : Int32) (τ' : SG) : Prop := (¬ (hh = -1 ∨ (∃ j, j < 4 ∧ hh = nI j)) ∧ τ' = thr τ 1) ∨ ((hh = -1 ∨ (∃ j, j < 4 ∧ hh = nI j)) ∧ inB vv 0 10000 = false ∧ τ' = thr τ 2) ∨ (hh = -1 ∧ inB vv 0 10000 = true ∧ v = thr τ 0 1 0 ∧ τ' = up (thr τ 0) 1 0 vv) ∨ (∃ h, h < 4 ∧ hh = nI h ∧ inB vv 0 10000 = true ∧ v = thr τ 0 0 h ∧ τ' = up (thr τ 0) 0 h vv)
def cm_buy (τ : SG) (n : Nat) (hh : Int32) (v : Int32) (τ' : SG) : Prop := (¬ (hh = -1 ∨ (∃ j, j < 4 ∧ hh = nI j)) ∧ τ' = thr τ 1) ∨ ((hh = -1 ∨ (∃ j, j < 4 ∧ hh = nI j)) ∧ n = 80 ∧ τ' = thr τ 2) ∨ (hh = -1 ∧ n < 80 ∧ v = nI n ∧ τ' = mMake (thr τ 0) n 1 (-1) (-1) (thr τ 0 1 0)) ∨ (∃ h, h < 4 ∧ hh = nI h ∧ n < 80 ∧ v = nI n ∧ τ' = mMake (thr τ 0) n 0 (nI h) (-1) (thr τ 0 0 h))
def cm_admitM (τ : SG) (n : Nat) (vm : Int32) (v : Int32) (τ' : SG) : Prop := (¬ (∃ j, j < 6 ∧ vm = nI j) ∧ τ' = thr τ 1) ∨ (∃ k, k < 6 ∧ vm = nI k ∧ (fBel (thr τ 0 2 k) (thr τ 0 26 0) = false ∨ ¬ (cntF (mHas (thr τ 0) (nI k) 2) 0 n = 0) ∨ n = 80) ∧ τ' = thr τ 2) ∨ (∃ k, k < 6 ∧ vm = nI k ∧ fBel (thr τ 0 2 k) (thr τ 0 26 0) = true ∧ cntF (mHas (thr τ 0) (nI k) 2) 0 n = 0 ∧ n < 80 ∧ v = nI n ∧ τ' = mMake (thr τ 0) n 2 (-1) (nI k) 0)
def cm_admitG (τ : SG) (n : Nat) (vm : Int32) (v : Int32) (τ' : SG) : Prop := (¬ (∃ j, j < 6 ∧ vm = nI j) ∧ τ' = thr τ 1) ∨ (∃ k, k < 6 ∧ vm = nI k ∧ (fBel (thr τ 0 2 k) (thr τ 0 26 0) = false ∨ ¬ (cntF (mHas (thr τ 0) (nI k) 2) 0 n ≠ 0 ∧ cntF (mHas (thr τ 0) (nI k) 3) 0 n < 2) ∨ n = 80) ∧ τ' = thr τ 2) ∨ (∃ k, k < 6 ∧ vm = nI k ∧ fBel (thr τ 0 2 k) (thr τ 0 26 0) = true ∧ (cntF (mHas (thr τ 0) (nI k) 2) 0 n ≠ 0 ∧ cntF (mHas (thr τ 0) (nI k) 3) 0 n < 2) ∧ n < 80 ∧ v = nI n ∧ τ' = mMake (thr τ 0) n 3 (-1) (nI k) (thr τ 0 1 0 / 2))
def cm_giveBack (τ : SG) (n : Nat) (vt : Int32) (v : Int32) (τ' : SG) : Prop := (¬ (∃ j, j < n ∧ vt = nI j) ∧ τ' = thr τ 1) ∨ (∃ t, t < n ∧ vt = nI t ∧ ¬ (mNow τ t = true ∧ τ 13 t = 0 ∧ τ 10 t = -1) ∧ τ' = thr τ 2) ∨ (∃ t, t < n ∧ vt = nI t ∧ (mNow τ t = true ∧ τ 13 t = 0 ∧ τ 10 t = -1) ∧ (∃ r, r < 12 ∧ (mFor τ t (nI (r / 3)) = true ∧ τ 15 r = 0)) ∧ τ' = thr τ 2) ∨ (∃ t, t < n ∧ vt = nI t ∧ (mNow τ t = true ∧ τ 13 t = 0 ∧ τ 10 t = -1) ∧ (∀ r, r < 12 → ¬ (mFor τ t (nI (r / 3)) = true ∧ τ 15 r = 0)) ∧ v = thr τ 0 8 t ∧ τ' = up (up (thr τ 0) 9 t 1) 25 0 (thr τ 0 25 0 - thr τ 0 8 t))
def cm_join (τ : SG) (vm : Int32) (v : Int32) (τ' : SG) : Prop := (¬ (∃ j, j < 6 ∧ vm = nI j) ∧ τ' = thr τ 1) ∨ (∃ k, k < 6 ∧ vm = nI k ∧ fBel (τ 2 k) (τ 26 0) = true ∧ τ' = thr τ 2) ∨ (∃ k, k < 6 ∧ vm = nI k ∧ fBel (τ 2 k) (τ 26 0) = false ∧ v = (thr τ 0 26 0 + 30) - 1 ∧ τ' = up (up (thr τ 0) 2 k ((thr τ 0 26 0 + 30) - 1)) 25 0 (thr τ 0 25 0 + 6000))
theorem mLet_ne {nW n r g j : Nat} (hg : g ≠ 10 ∧ g ≠ 13 ∧ g ≠ 21 ∧ g ≠ 23 ∧ g ≠ 24) : ∀ (k : Nat) (τ : SG), mLet nW n r k τ g j = τ g j
  | 0, τ => rfl
  | k + 1, τ => by
    unfold mLet
    split
    · rw [mLet_ne hg k]
      exact mSee_ne hg
    · rfl
def cm_setCap (τ : SG) (n nW : Nat) (vr vv : Int32) (v : Int32) (τ' : SG) : Prop := (¬ (∃ j, j < 12 ∧ vr = nI j) ∧ τ' = thr τ 1) ∨ ((∃ j, j < 12 ∧ vr = nI j) ∧ inB vv 0 20 = false ∧ τ' = thr τ 2) ∨ (∃ r, r < 12 ∧ vr = nI r ∧ inB vv 0 20 = true ∧ v = nI (cntF (mIn (mLet nW n r n (up (thr τ 0) 14 r vv)) (nI r)) 0 n) ∧ τ' = mLet nW n r n (up (thr τ 0) 14 r vv))
def cm_close (τ : SG) (n : Nat) (vr : Int32) (gb : Bool) (v : Int32) (τ' : SG) : Prop := (¬ (∃ j, j < 12 ∧ vr = nI j) ∧ τ' = thr τ 1) ∨ (∃ r, r < 12 ∧ vr = nI r ∧ gb = true ∧ v = (mClear (up (thr τ 0) 15 r (b2i gb)) n r).2 ∧ τ' = (mClear (up (thr τ 0) 15 r (b2i gb)) n r).1) ∨ (∃ r, r < 12 ∧ vr = nI r ∧ gb = false ∧ v = 0 ∧ τ' = (up (thr τ 0) 15 r (b2i gb)))
def cm_enter (τ : SG) (n nW : Nat) (vt vr : Int32) (v : Int32) (τ' : SG) : Prop := (¬ ((∃ j, j < n ∧ vt = nI j) ∧ (∃ j, j < 12 ∧ vr = nI j)) ∧ τ' = thr τ 1) ∨ (∃ t r, t < n ∧ vt = nI t ∧ r < 12 ∧ vr = nI r ∧ ¬ (mNow τ t = true ∧ mFor τ t (nI (r / 3)) = true ∧ τ 10 t = -1 ∧ τ 15 r = 0) ∧ τ' = thr τ 2) ∨ (∃ t r, t < n ∧ vt = nI t ∧ r < 12 ∧ vr = nI r ∧ (mNow τ t = true ∧ mFor τ t (nI (r / 3)) = true ∧ τ 10 t = -1 ∧ τ 15 r = 0) ∧ (nI (cntF (mIn (thr τ 0) (nI r)) 0 n) < thr τ 0 14 r ∧ mQ (thr τ 0) n r 0 = -1) ∧ v = 1 ∧ τ' = mSee nW t r (thr τ 0)) ∨ (∃ t r, t < n ∧ vt = nI t ∧ r < 12 ∧ vr = nI r ∧ (mNow τ t = true ∧ mFor τ t (nI (r / 3)) = true ∧ τ 10 t = -1 ∧ τ 15 r = 0) ∧ ¬ (nI (cntF (mIn (thr τ 0) (nI r)) 0 n) < thr τ 0 14 r ∧ mQ (thr τ 0) n r 0 = -1) ∧ v = 0 ∧ τ' = up (up (up (thr τ 0) 10 t (100 + nI r)) 11 t (thr τ 0 12 0)) 12 0 (thr τ 0 12 0 + 1))
def cm_goOut (τ : SG) (n nW : Nat) (vt : Int32) (v : Int32) (τ' : SG) : Prop := (¬ (∃ j, j < n ∧ vt = nI j) ∧ τ' = thr τ 1) ∨ (∃ t, t < n ∧ vt = nI t ∧ τ 10 t = -1 ∧ τ' = thr τ 2) ∨ (∃ t r, t < n ∧ vt = nI t ∧ r < 12 ∧ (τ 10 t = nI r ∨ τ 10 t = 100 + nI r) ∧ v = nI r ∧ τ' = mLet nW n r n (up (thr τ 0) 10 t (-1)))
def cm_addWork (τ : SG) (nW : Nat) (vr : Int32) (v : Int32) (τ' : SG) : Prop := (¬ (∃ j, j < 12 ∧ vr = nI j) ∧ τ' = thr τ 1) ∨ ((∃ j, j < 12 ∧ vr = nI j) ∧ nW = 12 ∧ τ' = thr τ 2) ∨ (∃ r, r < 12 ∧ vr = nI r ∧ nW < 12 ∧ v = nI nW ∧ τ' = up (up (up (up (thr τ 0) 17 nW (nI (r / 3))) 18 nW (nI r)) 22 nW 20) 16 0 (nI (nW + 1)))
theorem in_yes {x b : Int32} {n : Nat} (hb : b + 1 = nI n) (hn : n ≤ 1000) (h : ∃ j, j < n ∧ x = nI j) : inB x 0 b = true := by
  cases c : inB x 0 b with
  | true => rfl
  | false => exact absurd h (in_no hb hn c)
def cm_hang (τ : SG) (nW : Nat) (vw vr : Int32) (v : Int32) (τ' : SG) : Prop := (¬ ((∃ j, j < nW ∧ vw = nI j) ∧ (∃ j, j < 12 ∧ vr = nI j)) ∧ τ' = thr τ 1) ∨ (∃ u r, u < nW ∧ vw = nI u ∧ r < 12 ∧ vr = nI r ∧ ¬ τ 18 u / 3 = nI r / 3 ∧ τ' = thr τ 2) ∨ (∃ u r, u < nW ∧ vw = nI u ∧ r < 12 ∧ vr = nI r ∧ τ 18 u / 3 = nI r / 3 ∧ v = thr τ 0 18 u ∧ τ' = up (thr τ 0) 18 u (nI r))
def cm_lend (τ : SG) (nW : Nat) (vw vr vv : Int32) (v : Int32) (τ' : SG) : Prop := (¬ ((∃ j, j < nW ∧ vw = nI j) ∧ (∃ j, j < 12 ∧ vr = nI j)) ∧ τ' = thr τ 1) ∨ (∃ u r, u < nW ∧ vw = nI u ∧ r < 12 ∧ vr = nI r ∧ inB vv 0 1000 = false ∧ τ' = thr τ 2) ∨ (∃ u r, u < nW ∧ vw = nI u ∧ r < 12 ∧ vr = nI r ∧ inB vv 0 1000 = true ∧ ¬ (τ 19 u = 0 ∧ ¬ nI r / 3 = τ 17 u) ∧ τ' = thr τ 3) ∨ (∃ u r, u < nW ∧ vw = nI u ∧ r < 12 ∧ vr = nI r ∧ inB vv 0 1000 = true ∧ (τ 19 u = 0 ∧ ¬ nI r / 3 = τ 17 u) ∧ v = nI r / 3 ∧ τ' = up (up (up (up (thr τ 0) 19 u 1) 18 u (nI r)) 20 u vv) 21 u 0)
def cm_bringHome (τ : SG) (nW : Nat) (vw vr : Int32) (v : Int32) (τ' : SG) : Prop := (¬ ((∃ j, j < nW ∧ vw = nI j) ∧ (∃ j, j < 12 ∧ vr = nI j)) ∧ τ' = thr τ 1) ∨ (∃ u r, u < nW ∧ vw = nI u ∧ r < 12 ∧ vr = nI r ∧ ¬ (¬ τ 19 u = 0 ∧ nI r / 3 = τ 17 u) ∧ τ' = thr τ 2) ∨ (∃ u r, u < nW ∧ vw = nI u ∧ r < 12 ∧ vr = nI r ∧ (¬ τ 19 u = 0 ∧ nI r / 3 = τ 17 u) ∧ v = thr τ 0 21 u ∧ τ' = up (up (thr τ 0) 19 u 0) 18 u (nI r))
def cm_setShare (τ : SG) (nW : Nat) (vw vv : Int32) (v : Int32) (τ' : SG) : Prop := (¬ (∃ j, j < nW ∧ vw = nI j) ∧ τ' = thr τ 1) ∨ ((∃ j, j < nW ∧ vw = nI j) ∧ inB vv 0 100 = false ∧ τ' = thr τ 2) ∨ (∃ u, u < nW ∧ vw = nI u ∧ inB vv 0 100 = true ∧ v = thr τ 0 22 u ∧ τ' = up (thr τ 0) 22 u vv)
def mOwn (τ : SG) (u : Nat) (hh vv : Int32) : Int32 := if τ 17 u = hh then 0 else vv * τ 22 u / 100
def mSell (τ : SG) (h b : Nat) (vv x : Int32) : SG := up (up (up τ 24 b (τ 24 b + x)) 24 h ((up τ 24 b (τ 24 b + x)) 24 h + (vv - x))) 25 0 (τ 25 0 + vv)
def mGive (τ : SG) (h : Nat) (vv x : Int32) : SG := up (up (up τ 24 h (τ 24 h + (vv + x))) 24 4 ((up τ 24 h (τ 24 h + (vv + x))) 24 4 - x)) 25 0 (τ 25 0 + vv)
def cm_sell (τ : SG) (nW : Nat) (vh vw vv : Int32) (v : Int32) (τ' : SG) : Prop := (¬ ((∃ j, j < 4 ∧ vh = nI j) ∧ (∃ j, j < nW ∧ vw = nI j)) ∧ τ' = thr τ 1) ∨ ((∃ j, j < 4 ∧ vh = nI j) ∧ (∃ j, j < nW ∧ vw = nI j) ∧ inB vv 1 100000 = false ∧ τ' = thr τ 2) ∨ (∃ h u b, h < 4 ∧ vh = nI h ∧ u < nW ∧ vw = nI u ∧ inB vv 1 100000 = true ∧ b < 4 ∧ τ 17 u = nI b ∧ v = vv - mOwn (thr τ 0) u (nI h) vv ∧ τ' = mSell (thr τ 0) h b vv (mOwn (thr τ 0) u (nI h) vv))
def cm_give (τ : SG) (vh vv vm : Int32) (v : Int32) (τ' : SG) : Prop := (¬ ((∃ j, j < 4 ∧ vh = nI j) ∧ (vm = -1 ∨ (∃ j, j < 6 ∧ vm = nI j))) ∧ τ' = thr τ 1) ∨ ((∃ j, j < 4 ∧ vh = nI j) ∧ (vm = -1 ∨ (∃ j, j < 6 ∧ vm = nI j)) ∧ inB vv 1 100000 = false ∧ τ' = thr τ 2) ∨ (∃ h gb, h < 4 ∧ vh = nI h ∧ ((vm = -1 ∧ gb = false) ∨ (vm ≠ -1 ∧ ∃ k, k < 6 ∧ vm = nI k ∧ gb = fBel (thr τ 0 2 k) (thr τ 0 26 0))) ∧ inB vv 1 100000 = true ∧ v = vv + fTax gb vv ∧ τ' = mGive (thr τ 0) h vv (fTax gb vv))
def mDays (n : Nat) : Nat → SG → SG
  | 0, τ => τ
  | k + 1, τ => mDays n k (mEnd n τ)
theorem mEnd_ne {τ : SG} {n g j : Nat} (hg : g ≠ 10 ∧ g ≠ 24 ∧ g ≠ 26) : mEnd n τ g j = τ g j := by
  unfold mEnd
  rw [up_f hg.2.2]
  exact mEnd3_ne ⟨hg.1, hg.2.1⟩
theorem in_ex1 {x b : Int32} {n : Nat} (hb : b = nI n) (hn : n ≤ 900) (h : inB x 1 b = true) : ∃ d, d ≠ 0 ∧ d ≤ n ∧ x = nI d := by
  have h1 := h
  simp only [inB, Bool.and_eq_true, decide_eq_true_eq] at h1
  obtain ⟨j, hj, rfl⟩ := in_ex (x := x) (b := b) (n := n + 1) (by rw [hb]; exact nI_1 n) (by omega) (by
    simp only [inB, Bool.and_eq_true, decide_eq_true_eq]
    exact ⟨Int32.le_trans (by decide) h1.1, h1.2⟩)
  exact ⟨j, fun z => absurd h1.1 (by rw [z]; decide), by omega, rfl⟩
def cm_advance (τ : SG) (n : Nat) (vd : Int32) (v : Int32) (τ' : SG) : Prop := (inB vd 1 60 = false ∧ τ' = thr τ 1) ∨ (∃ d9, d9 ≠ 0 ∧ d9 ≤ 60 ∧ vd = nI d9 ∧ ¬ τ 26 0 + nI d9 ≤ 2000 ∧ τ' = thr τ 2) ∨ (∃ d9, d9 ≠ 0 ∧ d9 ≤ 60 ∧ vd = nI d9 ∧ τ 26 0 + nI d9 ≤ 2000 ∧ v = mDays n d9 (thr τ 0) 26 0 ∧ τ' = mDays n d9 (thr τ 0))
def cm_day (τ : SG)  (v : Int32) (τ' : SG) : Prop := (v = thr τ 0 26 0 ∧ τ' = thr τ 0)
def cm_takings (τ : SG)  (v : Int32) (τ' : SG) : Prop := (v = thr τ 0 25 0 ∧ τ' = thr τ 0)
def cm_tickets (τ : SG)  (v : Int32) (τ' : SG) : Prop := (v = thr τ 0 3 0 ∧ τ' = thr τ 0)
def cm_whereIs (τ : SG) (n : Nat) (vt : Int32) (v : Int32) (τ' : SG) : Prop := (¬ (∃ j, j < n ∧ vt = nI j) ∧ τ' = thr τ 1) ∨ (∃ t, t < n ∧ vt = nI t ∧ v = thr τ 0 10 t ∧ τ' = thr τ 0)
def cm_seen (τ : SG) (n : Nat) (vt : Int32) (v : Int32) (τ' : SG) : Prop := (¬ (∃ j, j < n ∧ vt = nI j) ∧ τ' = thr τ 1) ∨ (∃ t, t < n ∧ vt = nI t ∧ v = thr τ 0 13 t ∧ τ' = thr τ 0)
def cm_views (τ : SG) (nW : Nat) (vw : Int32) (v : Int32) (τ' : SG) : Prop := (¬ (∃ j, j < nW ∧ vw = nI j) ∧ τ' = thr τ 1) ∨ (∃ u, u < nW ∧ vw = nI u ∧ v = thr τ 0 23 u ∧ τ' = thr τ 0)
def cm_inside (τ : SG) (n : Nat) (vr : Int32) (v : Int32) (τ' : SG) : Prop := (¬ (∃ j, j < 12 ∧ vr = nI j) ∧ τ' = thr τ 1) ∨ (∃ r, r < 12 ∧ vr = nI r ∧ v = nI (cntF (mIn (thr τ 0) (nI r)) 0 n) ∧ τ' = thr τ 0)
def cm_queued (τ : SG) (n : Nat) (vr vp : Int32) (v : Int32) (τ' : SG) : Prop := (¬ ((∃ j, j < 12 ∧ vr = nI j) ∧ 0 ≤ vp) ∧ τ' = thr τ 1) ∨ (∃ r, r < 12 ∧ vr = nI r ∧ 0 ≤ vp ∧ v = mQ (thr τ 0) n r vp ∧ τ' = thr τ 0)
def cm_money (τ : SG) (hh : Int32) (v : Int32) (τ' : SG) : Prop := (¬ (hh = -1 ∨ (∃ j, j < 4 ∧ hh = nI j)) ∧ τ' = thr τ 1) ∨ (hh = -1 ∧ v = thr τ 0 24 4 ∧ τ' = thr τ 0) ∨ (∃ h, h < 4 ∧ hh = nI h ∧ v = thr τ 0 24 h ∧ τ' = thr τ 0)
def cm_moneyBySeen (τ : SG) (hh : Int32) (v : Int32) (τ' : SG) : Prop := (cm_money τ hh v τ')
def mHT1 (τ : SG) (t : Nat) (x : Int32) : Int32 := if mNow τ t = true then x + τ 8 t else x + 0
def mHM1 (τ : SG) (k : Nat) (x : Int32) : Int32 := if fBel (τ 2 k) (τ 26 0) = true then x + 200 * (τ 2 k - τ 26 0 + 1) else x + 0
def mHT (τ : SG) (n : Nat) : Int32 := itr (mHT1 τ) 0 n 0
def mHeld (τ : SG) (n : Nat) : Int32 := itr (mHM1 τ) 0 6 (mHT τ n)
theorem mHeld_def {τ : SG} {n : Nat} : itr (mHM1 τ) 0 (6 - 0) (mHT τ n) = mHeld τ n := rfl
def cm_held (τ : SG) (n : Nat) (v : Int32) (τ' : SG) : Prop := (v = mHeld (thr τ 0) n ∧ τ' = thr τ 0)
def dg (q u : Nat) : Int32 := nI (48 + q / u % 10)
def mApp (τ : SG) (k : Nat) (ch : Int32) : SG := up (up τ 28 k ch) 29 0 (nI (k + 1))
def mPut (τ : SG) (k q : Nat) : SG := if q < 10 then mApp τ k (dg q 1) else if q < 100 then mApp (mApp τ k (dg q 10)) (k + 1) (dg q 1) else if q < 1000 then mApp (mApp (mApp τ k (dg q 100)) (k + 1) (dg q 10)) (k + 1 + 1) (dg q 1) else mApp (mApp (mApp (mApp τ k (dg q 1000)) (k + 1) (dg q 100)) (k + 1 + 1) (dg q 10)) (k + 1 + 1 + 1) (dg q 1)
theorem mApp_29 {τ : SG} {k : Nat} {ch : Int32} : mApp τ k ch 29 0 = nI (k + 1) := up_s
theorem mApp_ne {τ : SG} {k : Nat} {ch : Int32} {g j : Nat} (hg : g ≠ 28 ∧ g ≠ 29) : mApp τ k ch g j = τ g j := by simp [mApp, up, hg]
theorem mPut_29 {τ : SG} {k q : Nat} : mPut τ k q 29 0 = nI (k + dgn q) := by
  unfold mPut dgn
  split
  · exact mApp_29
  · split
    · exact mApp_29
    · split <;> exact mApp_29
theorem mPut_ne {τ : SG} {k q : Nat} {g j : Nat} (hg : g ≠ 28 ∧ g ≠ 29) : mPut τ k q g j = τ g j := by
  unfold mPut
  split
  · exact mApp_ne hg
  · split
    · rw [mApp_ne hg, mApp_ne hg]
    · split
      · rw [mApp_ne hg, mApp_ne hg, mApp_ne hg]
      · rw [mApp_ne hg, mApp_ne hg, mApp_ne hg, mApp_ne hg]
theorem dg_1000 (q : Nat) (hq : q ≤ 1000) : 48 + (nI q / 1000 - nI q / 1000 / 10 * 10) = dg q 1000 := (by decide +kernel : ∀ q, q < 1001 → 48 + (nI q / 1000 - nI q / 1000 / 10 * 10) = dg q 1000) q (by omega)
theorem dg_100 (q : Nat) (hq : q ≤ 1000) : 48 + (nI q / 100 - nI q / 100 / 10 * 10) = dg q 100 := (by decide +kernel : ∀ q, q < 1001 → 48 + (nI q / 100 - nI q / 100 / 10 * 10) = dg q 100) q (by omega)
theorem dg_10 (q : Nat) (hq : q ≤ 1000) : 48 + (nI q / 10 - nI q / 10 / 10 * 10) = dg q 10 := (by decide +kernel : ∀ q, q < 1001 → 48 + (nI q / 10 - nI q / 10 / 10 * 10) = dg q 10) q (by omega)
theorem dg_1 (q : Nat) (hq : q ≤ 1000) : 48 + (nI q / 1 - nI q / 1 / 10 * 10) = dg q 1 := (by decide +kernel : ∀ q, q < 1001 → 48 + (nI q / 1 - nI q / 1 / 10 * 10) = dg q 1) q (by omega)
def mTi0 (τ : SG) (u h b : Nat) : SG := mPut (mApp (mPut (mApp (up τ 29 0 0) 0 (nI (65 + h))) 1 u) (1 + dgn u) 64) (1 + dgn u + 1) b
def mTi1 (τ : SG) (u h b fe : Nat) : SG := mPut (mApp (mTi0 τ u h b) (1 + dgn u + 1 + dgn b) 36) (1 + dgn u + 1 + dgn b + 1) fe
theorem mTi0_29 {τ : SG} {u h b : Nat} : mTi0 τ u h b 29 0 = nI (1 + dgn u + 1 + dgn b) := mPut_29
theorem mTi1_29 {τ : SG} {u h b fe : Nat} : mTi1 τ u h b fe 29 0 = nI (1 + dgn u + 1 + dgn b + 1 + dgn fe) := mPut_29
theorem mTi0_ne {τ : SG} {u h b g j : Nat} (hg : g ≠ 28 ∧ g ≠ 29) : mTi0 τ u h b g j = τ g j := by
  unfold mTi0
  rw [mPut_ne hg, mApp_ne hg, mPut_ne hg, mApp_ne hg, up_f hg.2]
theorem mTi1_ne {τ : SG} {u h b fe g j : Nat} (hg : g ≠ 28 ∧ g ≠ 29) : mTi1 τ u h b fe g j = τ g j := by
  unfold mTi1
  rw [mPut_ne hg, mApp_ne hg, mTi0_ne hg]
theorem dgn_leM (q : Nat) : 1 ≤ dgn q ∧ dgn q ≤ 4 := by unfold dgn; split <;> (try split) <;> (try split) <;> omega
theorem dgn_12 {q : Nat} (h : q < 12) : dgn q ≤ 2 := by unfold dgn; split <;> (try split) <;> omega
theorem aH (h : Nat) (hh : h < 4) : 65 + nI h = nI (65 + h) := (by decide : ∀ h, h < 4 → 65 + nI h = nI (65 + h)) h hh
def cm_titleAt (τ : SG) (nW : Nat) (vw vp : Int32) (v : Int32) (τ' : SG) : Prop := (¬ ((∃ j, j < nW ∧ vw = nI j) ∧ 0 ≤ vp) ∧ τ' = thr τ 1) ∨ (∃ u h b fe, u < nW ∧ vw = nI u ∧ 0 ≤ vp ∧ h < 4 ∧ τ 17 u = nI h ∧ b < 12 ∧ τ 18 u = nI b ∧ fe ≤ 1000 ∧ τ 20 u = nI fe ∧ ∃ N S, ((τ 19 u = 0 ∧ N = 1 + dgn u + 1 + dgn b ∧ S = mTi0 (thr τ 0) u h b) ∨ (¬ τ 19 u = 0 ∧ N = 1 + dgn u + 1 + dgn b + 1 + dgn fe ∧ S = mTi1 (thr τ 0) u h b fe)) ∧ τ' = S ∧ ((∃ i, i < N ∧ vp = nI i ∧ v = S 28 i) ∨ (nI N ≤ vp ∧ v = -1)))
def mI (c0 c1 c2 c3 : Nat) : SG := fun f i => if f = 0 ∧ i < c0 then 600 else if f = 1 ∧ i < c1 then 1500 else if f = 14 ∧ i < c2 then 3 else if f = 2 ∧ i < c3 then -1 else 0
theorem mI_0 {j : Nat} : up (mI j 0 0 0) 0 j 600 = mI (j + 1) 0 0 0 := by
  funext f i
  simp only [up, mI]
  by_cases h : f = 0
  · subst h
    by_cases h2 : i = j
    · subst h2; simp
    · by_cases h3 : i < j
      · have : i < j + 1 := by omega
        simp [h2, h3, this]
      · have : ¬ i < j + 1 := by omega
        simp [h2, h3, this]
  · simp [h]
theorem mI_1 : up (mI 4 0 0 0) 1 0 1500 = mI 4 1 0 0 := by
  funext f i
  simp only [up, mI]
  by_cases h : f = 1
  · subst h
    by_cases h2 : i = 0
    · subst h2; simp
    · simp [h2]
  · simp [h]
theorem mI_2 {j : Nat} : up (mI 4 1 j 0) 14 j 3 = mI 4 1 (j + 1) 0 := by
  funext f i
  simp only [up, mI]
  by_cases h : f = 14
  · subst h
    by_cases h2 : i = j
    · subst h2; simp
    · by_cases h3 : i < j
      · have : i < j + 1 := by omega
        simp [h2, h3, this]
      · have : ¬ i < j + 1 := by omega
        simp [h2, h3, this]
  · simp [h]
theorem mI_3 {j : Nat} : up (mI 4 1 12 j) 2 j (-1) = mI 4 1 12 (j + 1) := by
  funext f i
  simp only [up, mI]
  by_cases h : f = 2
  · subst h
    by_cases h2 : i = j
    · subst h2; simp
    · by_cases h3 : i < j
      · have : i < j + 1 := by omega
        simp [h2, h3, this]
      · have : ¬ i < j + 1 := by omega
        simp [h2, h3, this]
  · simp [h]
theorem mI_z : mI 0 0 0 0 = fun _ _ => 0 := by funext f i; simp [mI]
theorem nIj {j : Nat} : nI j = nI j := rfl
