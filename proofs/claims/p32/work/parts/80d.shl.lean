set_option maxRecDepth 100000 in
theorem nbs_ne : ∀ s, s < 4096 → nbs s < 100 ∧ ∀ i, i < 12 → s / 2 ^ i % 2 = 1 → nbs s ≠ 0 := by decide +kernel
theorem bits_ne {s i : Nat} (hs : s < 4096) (hi : i < 12) (h : mBit (nI s) i = 1) : mBits (nI s) ≠ 0 := by
  rw [mBit_n hs hi] at h
  have h2 : s / 2 ^ i % 2 < 2 := Nat.mod_lt _ (by decide)
  have h1 : s / 2 ^ i % 2 = 1 := nIe (by omega) (by decide) h
  rw [bit_all hs, pop_n hs]
  intro z
  obtain ⟨b1, b2⟩ := nbs_ne s hs
  exact b2 i hi h1 (nIe (by omega) (by decide) z)
theorem LR.shr {μ τ : SG} {nT nW i : Nat} {se pt x : Int32} (hR : LR μ τ nT nW) (hi : i < 12) (e : x = if mBit se i = 1 then pt else 0) : LR (up μ 13 (i / 3) (μ 13 (i / 3) + x)) (mShr1 se pt i τ) nT nW := by
  unfold mShr1
  rw [← e, ← lr_m hR (j := i / 3) (by omega)]
  exact hR.m13
theorem left_step {am pt y m9 : Int32} (h : m9 = 0 ∨ m9 = 1) {x : Int32} (e : x = if m9 = 1 then pt else 0) : am - pt * y - x = am - pt * (y + m9) := by
  rw [e, b_mul h, Int32.mul_add]
  generalize pt * y = a
  generalize pt * m9 = b
  grind
