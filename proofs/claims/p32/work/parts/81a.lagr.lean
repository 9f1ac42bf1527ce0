section LENDS
variable {μ τ σ1 σ2 : SG} {nT nW i k : Nat}
/-- the same but for the places -/
def ag10 (a b : SG) : Prop := ∀ g, g ≠ 10 → ∀ j, a g j = b g j
theorem ag10.shr {a b : SG} {se pt : Int32} (h : ag10 a b) (r : Nat) : ag10 (mShr1 se pt r a) (mShr1 se pt r b) := fun g hg j => by
  unfold mShr1 up
  rw [h 24 (by decide), h g hg]
theorem ag10.itr {F : Nat → SG → SG} (hF : ∀ r a b, ag10 a b → ag10 (F r a) (F r b)) : ∀ (n s : Nat) (a b : SG), ag10 a b → ag10 (itr F s n a) (itr F s n b)
  | 0, _, _, _, h => h
  | n + 1, s, a, b, h => ag10.itr hF n (s + 1) _ _ (hF s a b h)
theorem ag10.share {a b : SG} {am se : Int32} (h : ag10 a b) : ag10 (mShare am se a) (mShare am se b) := fun g hg j => by
  have h2 : ag10 (mShrL se (mPart am se) a) (mShrL se (mPart am se) b) := ag10.itr (fun r _ _ h => h.shr r) 12 0 a b h
  unfold mShare up
  rw [h2 24 (by decide), h2 g hg]
theorem ag10.sht {a b : SG} (h : ag10 a b) (t : Nat) : ag10 (mShT t a) (mShT t b) := by
  unfold mShT
  rw [show mNow a t = mNow b t from by unfold mNow; rw [h 7 (by decide), h 9 (by decide), h 26 (by decide)], h 8 (by decide), h 13 (by decide)]
  split
  · exact h.share
  · exact h
theorem LR.co10 {τ' : SG} (hR : LR μ τ nT nW) (h : ag10 τ' τ) (h10 : ∀ t, t < nT → τ' 10 t = τ 10 t) : LR μ τ' nT nW := by
  have b : ∀ gs, 10 ∉ gs → agr gs τ τ' := fun gs hg g hm i => h g (fun z => hg (z ▸ hm)) i
  obtain ⟨hYN, hYP, hYM, hYT, hYC, hYS, hYW, hYQ, hYK, hYD, hYA, hYB, hYV⟩ := hR
  exact ⟨hYN.co (fun _ _ => rfl) (b _ (by decide)), hYP.co agr.rf rfl (b _ (by decide)), hYM.co agr.rf (b _ (by decide)), hYT.co agr.rf (b _ (by decide)), hYC.co agr.rf (b _ (by decide)), hYS.co agr.rf (b _ (by decide)), ⟨fun t ht => by rw [h10 t ht]; exact hYW.1 t ht, hYW.2⟩, hYQ.co agr.rf (b _ (by decide)), hYK.co agr.rf (b _ (by decide)), hYD.co rfl (b _ (by decide)), hYA.co agr.rf (b _ (by decide)), hYB.co agr.rf (b _ (by decide)), hYV.co agr.rf (b _ (by decide))⟩
/-- when all rooms are cleared, nobody is in one -/
theorem clr_all {u : Nat} (hu : u < nT) : ∀ (n a : Nat) (τ : SG), a + n = 12 → (τ 10 u = -1 ∨ ∃ r, a ≤ r ∧ r < 12 ∧ (τ 10 u = nI r ∨ τ 10 u = 100 + nI r)) → itr (mClrR nT) a n τ 10 u = -1
  | 0, a, τ, h, hp => by
    rcases hp with hp | ⟨r, h1, h2, -⟩
    · exact hp
    · omega
  | n + 1, a, τ, h, hp => by
    refine clr_all hu n (a + 1) _ (by omega) ?_
    unfold mClrR
    rw [clr_at]
    rcases hp with hp | ⟨r, h1, h2, h3⟩
    · left
      split
      · rfl
      · exact hp
    · by_cases c : r = a
      · subst c
        left
        rw [if_pos ⟨hu, by unfold mOut; rcases h3 with h3 | h3 <;> simp [h3]⟩]
      · by_cases d : u < nT ∧ mOut τ a u = true
        · rw [if_pos d]; exact Or.inl rfl
        · rw [if_neg d]; exact Or.inr ⟨r, by omega, h2, h3⟩
theorem end1_10 (hR : LR μ τ nT nW) {u : Nat} (hu : u < nT) : mEnd1 nT τ 10 u = -1 := by
  refine clr_all hu 12 0 τ rfl ?_
  rcases lr_pl hR hu with ⟨-, h⟩ | ⟨r, hr, ⟨-, h⟩ | ⟨-, h⟩⟩
  · exact Or.inl h
  · exact Or.inr ⟨r, Nat.zero_le _, hr, Or.inl h⟩
  · exact Or.inr ⟨r, Nat.zero_le _, hr, Or.inr h⟩
theorem end1_ag (n : Nat) : ag10 (mEnd1 n τ) τ := fun g hg j => mEnd1_ne hg
theorem mOr_lt (hR : LR μ τ nT nW) (k : Nat) : ∃ s, s < 4096 ∧ mOr τ nT k = nI s := by
  have h : ∀ (n a : Nat) (x : Nat), x < 4096 → ∃ s, s < 4096 ∧ itr (mOr1 τ k) a n (nI x) = nI s := by
    intro n
    induction n with
    | zero => intro a x hx; exact ⟨x, hx, rfl⟩
    | succ n ih =>
      intro a x hx
      show ∃ s, s < 4096 ∧ itr (mOr1 τ k) (a + 1) n (mOr1 τ k a (nI x)) = nI s
      obtain ⟨s, hs, es⟩ := lr_s4 hR a
      unfold mOr1
      split
      · rw [es, nI_or]
        exact ih (a + 1) _ (Nat.or_lt_two_pow (n := 12) hx hs)
      · rw [show nI x ||| 0 = nI x from Int32.or_zero]
        exact ih (a + 1) x hx
  exact h nT 0 0 (by decide)
end LENDS
