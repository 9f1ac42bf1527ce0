/-! sets of rooms as numbers below 4096 -/
theorem sh31 : ∀ n, n < 12 → ((nI n &&& 31).toBitVec.smod 32).toNat = n := by decide +kernel
theorem nI_and (a b : Nat) : nI a &&& nI b = nI (a &&& b) := by
  apply Int32.toBitVec.inj
  show BitVec.ofNat 32 a &&& BitVec.ofNat 32 b = BitVec.ofNat 32 (a &&& b)
  exact BitVec.ofNat_and.symm
theorem nI_or (a b : Nat) : nI a ||| nI b = nI (a ||| b) := by
  apply Int32.toBitVec.inj
  show BitVec.ofNat 32 a ||| BitVec.ofNat 32 b = BitVec.ofNat 32 (a ||| b)
  exact BitVec.ofNat_or.symm
theorem mBit_n {s r : Nat} (hs : s < 4096) (hr : r < 12) : mBit (nI s) r = nI (s / 2 ^ r % 2) := by
  unfold mBit
  rw [pk_shrN (by omega) _ r (sh31 r hr)]
  exact pk_andN (k := 1) (m := 1) (Nat.lt_of_le_of_lt (Nat.div_le_self _ _) (by omega)) (by decide)
theorem rbit_n {r : Nat} (hr : r < 12) : rbit r = nI (2 ^ r) := (by decide +kernel : ∀ r, r < 12 → rbit r = nI (2 ^ r)) r hr
theorem bit_or {s r : Nat} (hs : s < 4096) (hr : r < 12) : nI s ||| rbit r = nI (s ||| 2 ^ r) ∧ s ||| 2 ^ r < 4096 := by
  rw [rbit_n hr, nI_or]
  exact ⟨rfl, Nat.or_lt_two_pow (n := 12) hs (Nat.pow_lt_pow_right (by decide) hr)⟩
theorem bit_01 {s r : Nat} (hs : s < 4096) (hr : r < 12) : mBit (nI s) r = 0 ∨ mBit (nI s) r = 1 := by
  rw [mBit_n hs hr]
  have h2 : s / 2 ^ r % 2 < 2 := Nat.mod_lt _ (by decide)
  rcases (show s / 2 ^ r % 2 = 0 ∨ s / 2 ^ r % 2 = 1 by omega) with h | h
  · exact Or.inl (by rw [h]; rfl)
  · exact Or.inr (by rw [h]; rfl)
theorem nI_addN (a b : Nat) : nI a + nI b = nI (a + b) := by
  apply Int32.toBitVec.inj
  show BitVec.ofNat 32 a + BitVec.ofNat 32 b = BitVec.ofNat 32 (a + b)
  exact (BitVec.ofNat_add a b).symm
def nb3 (k : Nat) : Nat := k % 2 + k / 2 % 2 + k / 4 % 2
theorem pop3 {k h : Nat} (hk : k < 8) (hh : h < 4) : popc (nI (k * 8 ^ h)) = nI (nb3 k) := (by decide +kernel : ∀ h, h < 4 → ∀ k, k < 8 → popc (nI (k * 8 ^ h)) = nI (nb3 k)) h hh k hk
theorem mask3 {h : Nat} (hh : h < 4) : (7 : Int32) <<< ((nI h * 3) &&& 31) = nI (7 * 8 ^ h) := (by decide +kernel : ∀ h, h < 4 → (7 : Int32) <<< ((nI h * 3) &&& 31) = nI (7 * 8 ^ h)) h hh
theorem and3 {s h : Nat} (hs : s < 4096) (hh : h < 4) : s &&& (7 * 8 ^ h) = (s / 8 ^ h % 8) * 8 ^ h := by
  have e8 : 8 ^ h = 2 ^ (3 * h) := by rw [Nat.pow_mul]
  rw [e8, Nat.mul_comm 7, Nat.mul_comm _ (2 ^ (3 * h))]
  apply Nat.eq_of_testBit_eq
  intro i
  rw [Nat.testBit_and, Nat.testBit_two_pow_mul, Nat.testBit_two_pow_mul, show (7 : Nat) = 2 ^ 3 - 1 from rfl, show (8 : Nat) = 2 ^ 3 from rfl, Nat.testBit_two_pow_sub_one, Nat.testBit_mod_two_pow, Nat.testBit_div_two_pow]
  by_cases c : i ≥ 3 * h
  · rw [show i - 3 * h + 3 * h = i by omega]
    cases s.testBit i <;> simp
  · simp [c]
theorem and2 {s r : Nat} : s &&& 2 ^ r = (s / 2 ^ r % 2) * 2 ^ r := by
  rw [Nat.mul_comm]
  apply Nat.eq_of_testBit_eq
  intro i
  rw [Nat.testBit_and, Nat.testBit_two_pow_mul, Nat.testBit_two_pow, show (2 : Nat) = 2 ^ 1 from rfl, Nat.testBit_mod_two_pow, show (2 ^ 1 : Nat) = 2 from rfl, Nat.testBit_div_two_pow]
  by_cases c : i ≥ r
  · rw [show i - r + r = i by omega]
    by_cases d : r = i
    · simp [d]
    · have : ¬ i - r < 1 := by omega
      simp [d, this]
  · have : ¬ r = i := by omega
    simp [c, this]
theorem bit_0 {s r : Nat} (hs : s < 4096) (hr : r < 12) : (nI s &&& rbit r = 0) ↔ ¬ mBit (nI s) r = 1 := by
  rw [rbit_n hr, nI_and, mBit_n hs hr, and2]
  rcases (show s / 2 ^ r % 2 = 0 ∨ s / 2 ^ r % 2 = 1 by omega) with c | c
  · rw [c, Nat.zero_mul]
    decide
  · rw [c, Nat.one_mul]
    exact (by decide +kernel : ∀ r, r < 12 → (nI (2 ^ r) = 0 ↔ ¬ nI 1 = 1)) r hr
theorem b3h {s h i : Nat} (hi : i < 3) : s / 2 ^ (3 * h + i) % 2 = (s / 8 ^ h % 8) / 2 ^ i % 2 := by
  rw [Nat.pow_add, Nat.pow_mul, ← Nat.div_div_eq_div_mul]
  show s / 8 ^ h / 2 ^ i % 2 = _
  generalize s / 8 ^ h = q
  rcases (show i = 0 ∨ i = 1 ∨ i = 2 by omega) with h | h | h <;> subst h <;> simp <;> omega
theorem bit_h {s h : Nat} (hs : s < 4096) (hh : h < 4) : popc (nI s &&& ((7 : Int32) <<< ((nI h * 3) &&& 31))) = mBit (nI s) (3 * h) + mBit (nI s) (3 * h + 1) + mBit (nI s) (3 * h + 2) := by
  rw [mask3 hh, nI_and, and3 hs hh, pop3 (Nat.mod_lt _ (by decide)) hh, mBit_n hs (by omega), mBit_n hs (by omega), mBit_n hs (by omega), nI_addN, nI_addN]
  have e0 := b3h (s := s) (h := h) (i := 0) (by decide)
  have e1 := b3h (s := s) (h := h) (i := 1) (by decide)
  have e2 := b3h (s := s) (h := h) (i := 2) (by decide)
  rw [Nat.add_zero] at e0
  rw [e0, e1, e2]
  unfold nb3
  simp
def nb12 : Nat → Nat → Nat
  | 0, _ => 0
  | k + 1, s => s % 2 + nb12 k (s / 2)
