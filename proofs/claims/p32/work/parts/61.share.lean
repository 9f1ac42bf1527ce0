/-! amounts are shared: both sides -/
theorem shr_1 {am se : Int32} {j : Nat} : ∀ (n a : Nat) (σ : SG), itr (fShr1 am se) a n σ 1 j = if a ≤ j ∧ j < a + n then σ 1 j + fPart am se (nI j - 1) else σ 1 j
  | 0, a, σ => by
    rw [if_neg (fun z => by omega)]
    rfl
  | n + 1, a, σ => by
    show itr (fShr1 am se) (a + 1) n (fShr1 am se a σ) 1 j = _
    rw [shr_1 n (a + 1)]
    by_cases c : j = a
    · subst c
      rw [if_neg (fun z => by omega), if_pos (by omega)]
      simp [fShr1, up]
    · rw [show fShr1 am se a σ 1 j = σ 1 j from by simp [fShr1, up, c]]
      by_cases d : a + 1 ≤ j ∧ j < a + 1 + n
      · rw [if_pos d, if_pos (by omega)]
      · rw [if_neg d, if_neg (by omega)]
theorem shr_ne {am se : Int32} {g j : Nat} (hg : g ≠ 1) (σ : SG) : fShare am se σ g j = σ g j := itr_neM (fun i σ => by simp [fShr1, up, hg]) _ _ _
theorem shr_24 {se pt : Int32} {y : Nat} : ∀ (n a : Nat) (τ : SG), itr (mShr1 se pt) a n τ 24 y = itr (fun r x => if r / 3 = y then x + (if mBit se r = 1 then pt else 0) else x) a n (τ 24 y)
  | 0, _, _ => rfl
  | n + 1, a, τ => by
    show itr (mShr1 se pt) (a + 1) n (mShr1 se pt a τ) 24 y = itr _ (a + 1) n (if a / 3 = y then τ 24 y + (if mBit se a = 1 then pt else 0) else τ 24 y)
    rw [shr_24 n (a + 1)]
    congr 1
    by_cases c : a / 3 = y
    · rw [if_pos c]
      simp [mShr1, up, c]
    · rw [if_neg c]
      have : ¬ y = a / 3 := fun z => c z.symm
      simp [mShr1, up, this]
theorem b_mul {m pt : Int32} (h : m = 0 ∨ m = 1) : (if m = 1 then pt else 0) = pt * m := by
  rcases h with rfl | rfl
  · rw [if_neg (by decide), Int32.mul_zero]
  · rw [if_pos rfl, Int32.mul_one]
theorem share_h {am : Int32} {s y : Nat} {τ : SG} (hs : s < 4096) (hy : y < 4) : mShare am (nI s) τ 24 y = τ 24 y + fPart am (nI s) (nI y) := by
  have e1 : mShare am (nI s) τ 24 y = mShrL (nI s) (mPart am (nI s)) τ 24 y := by
    unfold mShare
    have : ¬ y = 4 := by omega
    simp [up, this]
  have eP : fEach am (nI s) = mPart am (nI s) := by
    unfold fEach mPart
    rw [bit_all hs]
  have e2 : fPart am (nI s) (nI y) = mPart am (nI s) * (mBit (nI s) (3 * y) + mBit (nI s) (3 * y + 1) + mBit (nI s) (3 * y + 2)) := by
    unfold fPart
    rw [if_neg (nI_ne1 hy), bit_h hs hy, eP]
  rw [e1, e2]
  unfold mShrL
  rw [shr_24, Int32.mul_add, Int32.mul_add, ← b_mul (bit_01 hs (by omega)), ← b_mul (bit_01 hs (by omega)), ← b_mul (bit_01 hs (by omega)), ← Int32.add_assoc, ← Int32.add_assoc]
  rcases (show y = 0 ∨ y = 1 ∨ y = 2 ∨ y = 3 by omega) with rfl | rfl | rfl | rfl <;> rfl
theorem share_4 {am : Int32} {s : Nat} {τ : SG} (hs : s < 4096) : mShare am (nI s) τ 24 4 = τ 24 4 + fPart am (nI s) (-1) := by
  have eP : fEach am (nI s) = mPart am (nI s) := by
    unfold fEach mPart
    rw [bit_all hs]
  unfold mShare
  rw [up_s]
  unfold mShrL
  rw [shr_24]
  unfold fPart
  rw [if_pos rfl, eP, ← bit_all hs]
  rfl
/-- only the tills' money has changed -/
def SH (σ0 τ0 σ τ : SG) : Prop := (∀ g, g ≠ 1 → ∀ i, σ g i = σ0 g i) ∧ (∀ g, g ≠ 24 → ∀ i, τ g i = τ0 g i) ∧ RA σ τ
theorem SH.share {σ0 τ0 σ τ : SG} (H : SH σ0 τ0 σ τ) {s : Nat} (hs : s < 4096) (am : Int32) : SH σ0 τ0 (fShare am (nI s) σ) (mShare am (nI s) τ) := by
  obtain ⟨h1, h2, h3, h4⟩ := H
  refine ⟨fun g hg i => (shr_ne hg σ).trans (h1 g hg i), fun g hg i => (mShare_ne hg).trans (h2 g hg i), ?_, fun y hy => ?_⟩
  · rw [share_4 hs, h3]
    unfold fShare
    rw [shr_1, if_pos (by omega)]
    rfl
  · rw [share_h hs hy, h4 y hy]
    unfold fShare
    rw [shr_1, if_pos (by omega), nI_m1]
section DAYS
variable {σ0 τ0 σ τ : SG} {qs : Nat → List Nat} {nT nW f D N : Nat}
theorem now_iff (hN : RN σ0 τ0 nT nW f D) (hD : RD τ0 nT f D) (hT : RT σ0 τ0 nT) {t : Nat} (h1 : f ≤ t) (h2 : t < nT) : mNow τ0 t = decide (σ0 14 t = 0) := by
  unfold mNow
  rw [hD.2 t h1 h2, hN.2.2.2.2.2.2.2.1, (hT t h2).2.2.2.2.1]
  simp
theorem now_no (hN : RN σ0 τ0 nT nW f D) (hD : RD τ0 nT f D) {t : Nat} (h1 : t < f) : mNow τ0 t = false := by
  unfold mNow
  obtain ⟨d, a1, a2⟩ := hD.1 t h1
  have hD2 := hN.2.2.2.2.2.2.2.2.1
  rw [a2, hN.2.2.2.2.2.2.2.1]
  have : ¬ nI d = nI D := fun z => by
    have := nIe (by omega) (by omega) z
    omega
  simp [this]
theorem now_co (H : SH σ0 τ0 σ τ) (t : Nat) : mNow τ t = mNow τ0 t := by
  unfold mNow
  rw [H.2.1 7 (by decide), H.2.1 9 (by decide), H.2.1 26 (by decide)]
/-- tickets of earlier days share nothing -/
theorem tick_old (hN : RN σ0 τ0 nT nW f D) (hD : RD τ0 nT f D) : ∀ (n a : Nat), a + n ≤ f → itr mShT a n τ0 = τ0
  | 0, _, _ => rfl
  | n + 1, a, h => by
    show itr mShT (a + 1) n (mShT a τ0) = τ0
    have e : mShT a τ0 = τ0 := by
      unfold mShT
      rw [if_neg]
      rw [now_no hN hD (by omega)]
      exact fun z => by cases z
    rw [e]
    exact tick_old hN hD n (a + 1) (by omega)
theorem tick_new (hN : RN σ0 τ0 nT nW f D) (hD : RD τ0 nT f D) (hT : RT σ0 τ0 nT) (hS : RS σ0 nT) : ∀ (n a : Nat) (σ τ : SG), f ≤ a → a + n ≤ nT → SH σ0 τ0 σ τ → SH σ0 τ0 (itr fShT a n σ) (itr mShT a n τ)
  | 0, _, _, _, _, _, H => H
  | n + 1, a, σ, τ, h1, h2, H => by
    refine tick_new hN hD hT hS n (a + 1) _ _ (by omega) (by omega) ?_
    obtain ⟨-, s, hs, es⟩ := hS a (by omega)
    obtain ⟨-, -, -, e8, -, e13⟩ := hT a (by omega)
    unfold fShT mShT
    rw [now_co H, now_iff hN hD hT h1 (by omega), H.1 14 (by decide), H.1 13 (by decide), H.1 15 (by decide), H.2.1 8 (by decide), H.2.1 13 (by decide), e8, e13, es]
    by_cases c : σ0 14 a = 0
    · rw [if_pos c, if_pos (by simp [c])]
      exact H.share hs _
    · rw [if_neg c, if_neg (by simp [c])]
      exact H
theorem itr_add {S : Type} {F : Nat → S → S} : ∀ (m n a : Nat) (x : S), itr F a (m + n) x = itr F (a + m) n (itr F a m x)
  | 0, n, a, x => by rw [Nat.zero_add]; rfl
  | m + 1, n, a, x => by
    rw [show m + 1 + n = (m + n) + 1 by omega]
    show itr F (a + 1) (m + n) (F a x) = itr F (a + (m + 1)) n (itr F (a + 1) m (F a x))
    rw [itr_add m n (a + 1), show a + 1 + m = a + (m + 1) by omega]
theorem tick_sim (hN : RN σ0 τ0 nT nW f D) (hD : RD τ0 nT f D) (hT : RT σ0 τ0 nT) (hS : RS σ0 nT) (hA : RA σ0 τ0) : SH σ0 τ0 (itr fShT f (nT - f) σ0) (itr mShT 0 nT τ0) := by
  have hfn := hN.2.1
  have e : itr mShT 0 nT τ0 = itr mShT f (nT - f) τ0 := by
    have h := itr_add (F := mShT) f (nT - f) 0 τ0
    rw [show f + (nT - f) = nT by omega, Nat.zero_add, tick_old hN hD f 0 (by omega)] at h
    exact h
  rw [e]
  exact tick_new hN hD hT hS _ _ _ _ (Nat.le_refl _) (by omega) ⟨fun _ _ _ => rfl, fun _ _ _ => rfl, hA⟩
/-- the member's ticket -/
theorem has_iff (hN : RN σ0 τ0 nT nW f D) (hD : RD τ0 nT f D) (hT : RT σ0 τ0 nT) {t : Nat} (h1 : f ≤ t) (h2 : t < nT) (mm so : Int32) : mHas τ0 mm so t = pOf σ0 mm so t := by
  unfold mHas pOf fOf
  rw [now_iff hN hD hT h1 h2, (hT t h2).1, (hT t h2).2.2.1]
theorem has_no (hN : RN σ0 τ0 nT nW f D) (hD : RD τ0 nT f D) {t : Nat} (h1 : t < f) (mm so : Int32) : mHas τ0 mm so t = false := by
  unfold mHas
  rw [now_no hN hD h1]
  rfl
theorem pOf_iff {mm : Int32} {t : Nat} : pOf σ0 mm 2 t = true ↔ σ0 14 t = 0 ∧ σ0 10 t = 2 ∧ σ0 12 t = mm := by
  unfold pOf fOf
  simp [and_assoc]
theorem or_none {k : Nat} : ∀ (n a : Nat) (x : Int32), (∀ i, a ≤ i → i < a + n → ¬ mHas τ0 (nI k) 2 i = true) → itr (mOr1 τ0 k) a n x = x
  | 0, _, _, _ => rfl
  | n + 1, a, x, h => by
    show itr (mOr1 τ0 k) (a + 1) n (mOr1 τ0 k a x) = x
    rw [show mOr1 τ0 k a x = x from by
      unfold mOr1
      rw [if_neg (h a (Nat.le_refl _) (by omega))]
      exact Int32.or_zero]
    exact or_none n (a + 1) x (fun i h1 h2 => h i (by omega) (by omega))
theorem or_seen (hN : RN σ0 τ0 nT nW f D) (hD : RD τ0 nT f D) (hT : RT σ0 τ0 nT) (hX : RX σ0 nT f) {k : Nat} : ∀ (n a : Nat), f ≤ a → a + n ≤ nT → itr (mOr1 τ0 k) a n 0 = fSeen σ0 (nI k) a n
  | 0, _, _, _ => rfl
  | n + 1, a, h1, h2 => by
    show itr (mOr1 τ0 k) (a + 1) n (mOr1 τ0 k a 0) = if pOf σ0 (nI k) 2 a = true then σ0 15 a else fSeen σ0 (nI k) (a + 1) n
    by_cases c : pOf σ0 (nI k) 2 a = true
    · rw [if_pos c, show mOr1 τ0 k a 0 = σ0 15 a from by
        unfold mOr1
        rw [if_pos (by rw [has_iff hN hD hT h1 (by omega)]; exact c), (hT a (by omega)).2.2.2.2.2]
        exact Int32.zero_or]
      refine or_none _ _ _ (fun i b1 b2 hh => ?_)
      rw [has_iff hN hD hT (by omega) (by omega)] at hh
      obtain ⟨u1, u2, u3⟩ := pOf_iff.mp c
      obtain ⟨w1, w2, w3⟩ := pOf_iff.mp hh
      have := hX.2 a i h1 (by omega) (by omega) (by omega) u2 w2 u1 w1 (u3.trans w3.symm)
      omega
    · rw [if_neg c, show mOr1 τ0 k a 0 = 0 from by
        unfold mOr1
        rw [if_neg (by rw [has_iff hN hD hT h1 (by omega)]; exact c)]
        rfl]
      exact or_seen hN hD hT hX n (a + 1) (by omega) (by omega)
theorem mOr_eq (hN : RN σ0 τ0 nT nW f D) (hD : RD τ0 nT f D) (hT : RT σ0 τ0 nT) (hX : RX σ0 nT f) (k : Nat) : mOr τ0 nT k = fSeen σ0 (nI k) f (nT - f) := by
  have hfn := hN.2.1
  have h := itr_add (F := mOr1 τ0 k) f (nT - f) 0 0
  rw [show f + (nT - f) = nT by omega, Nat.zero_add, or_none f 0 0 (fun i _ h2 => by rw [has_no hN hD (by omega)]; exact fun z => by cases z)] at h
  exact h.trans (or_seen hN hD hT hX _ _ (Nat.le_refl _) (by omega))
theorem seen_s (hS : RS σ0 nT) {k : Nat} : ∀ (n a : Nat), a + n ≤ nT → ∃ s, s < 4096 ∧ fSeen σ0 (nI k) a n = nI s
  | 0, _, _ => ⟨0, by decide, rfl⟩
  | n + 1, a, h => by
    simp only [fSeen]
    split
    · exact (hS a (by omega)).2
    · exact seen_s hS n (a + 1) (by omega)
theorem seen_co (H : SH σ0 τ0 σ τ) {mm : Int32} : ∀ (n a : Nat), fSeen σ mm a n = fSeen σ0 mm a n
  | 0, _ => rfl
  | n + 1, a => by
    simp only [fSeen]
    rw [seen_co H n (a + 1), H.1 15 (by decide), show pOf σ mm 2 a = pOf σ0 mm 2 a from by
      unfold pOf
      rw [H.1 14 (by decide), H.1 10 (by decide), H.1 12 (by decide)]]
theorem or_co (H : SH σ0 τ0 σ τ) (k : Nat) : mOr τ nT k = mOr τ0 nT k := by
  unfold mOr
  refine itr_co _ _ _ (fun i _ _ y => ?_)
  unfold mOr1 mHas
  rw [now_co H, H.2.1 4 (by decide), H.2.1 6 (by decide), H.2.1 13 (by decide)]
theorem memb_new (hN : RN σ0 τ0 nT nW f D) (hM : RM σ0 τ0) (hD : RD τ0 nT f D) (hT : RT σ0 τ0 nT) (hS : RS σ0 nT) (hX : RX σ0 nT f) : ∀ (n a : Nat) (σ τ : SG), a + n ≤ 6 → SH σ0 τ0 σ τ → SH σ0 τ0 (itr (fShM f nT) a n σ) (itr (mShM nT) a n τ)
  | 0, _, _, _, _, H => H
  | n + 1, a, σ, τ, h2, H => by
    refine memb_new hN hM hD hT hS hX n (a + 1) _ _ (by omega) ?_
    have hfn := hN.2.1
    obtain ⟨s, hs, es⟩ := seen_s hS (k := a) (nT - f) f (by omega)
    unfold fShM mShM
    rw [seen_co H, or_co H, mOr_eq hN hD hT hX, es, H.1 9 (by decide), H.1 25 (by decide), H.2.1 2 (by decide), H.2.1 26 (by decide), hM a (by omega), hN.2.2.2.2.2.2.1, hN.2.2.2.2.2.2.2.1]
    by_cases c : fBel (σ0 9 a) (nI D) = true
    · rw [if_pos c, if_pos c]
      exact H.share hs _
    · rw [if_neg c, if_neg c]
      exact H
end DAYS
