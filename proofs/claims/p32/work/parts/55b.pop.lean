/-! how many rooms a set has -/
def nbs (s : Nat) : Nat := s / 2 ^ 0 % 2 + s / 2 ^ 1 % 2 + s / 2 ^ 2 % 2 + s / 2 ^ 3 % 2 + s / 2 ^ 4 % 2 + s / 2 ^ 5 % 2 + s / 2 ^ 6 % 2 + s / 2 ^ 7 % 2 + s / 2 ^ 8 % 2 + s / 2 ^ 9 % 2 + s / 2 ^ 10 % 2 + s / 2 ^ 11 % 2
set_option maxRecDepth 100000 in
theorem pop_n {s : Nat} (hs : s < 4096) : popc (nI s) = nI (nbs s) := (by decide +kernel : ∀ s, s < 4096 → popc (nI s) = nI (nbs s)) s hs
theorem mBits_x {se : Int32} : mBits se = ((((((((((((0 + mBit se 0) + mBit se 1) + mBit se 2) + mBit se 3) + mBit se 4) + mBit se 5) + mBit se 6) + mBit se 7) + mBit se 8) + mBit se 9) + mBit se 10) + mBit se 11) := rfl
theorem bit_all {s : Nat} (hs : s < 4096) : mBits (nI s) = popc (nI s) := by
  rw [pop_n hs, mBits_x, Int32.zero_add, mBit_n hs (r := 0) (by decide), mBit_n hs (r := 1) (by decide), mBit_n hs (r := 2) (by decide), mBit_n hs (r := 3) (by decide), mBit_n hs (r := 4) (by decide), mBit_n hs (r := 5) (by decide), mBit_n hs (r := 6) (by decide), mBit_n hs (r := 7) (by decide), mBit_n hs (r := 8) (by decide), mBit_n hs (r := 9) (by decide), mBit_n hs (r := 10) (by decide), mBit_n hs (r := 11) (by decide)]
  simp only [nI_addN]
  rfl
