theorem mask_iff {s M : Nat} (hs : s < 4096) (hM : M < 4096) : nI s &&& nI M = nI M ↔ ∀ r, r < 12 → M / 2 ^ r % 2 = 1 → s / 2 ^ r % 2 = 1 := by
  rw [nI_and]
  have hl : s &&& M < 4096 := Nat.lt_of_le_of_lt Nat.and_le_right hM
  constructor
  · intro h r hr hb
    have e : s &&& M = M := nIe (by omega) (by omega) h
    have t1 : M.testBit r = true := by rw [Nat.testBit_eq_decide_div_mod_eq]; simp [hb]
    rw [← e, Nat.testBit_and, Bool.and_eq_true] at t1
    have t2 := t1.1
    rw [Nat.testBit_eq_decide_div_mod_eq] at t2
    simpa using t2
  · intro h
    congr 1
    apply Nat.eq_of_testBit_eq
    intro i
    rw [Nat.testBit_and]
    by_cases c : i < 12
    · cases d : M.testBit i with
      | false => simp
      | true =>
        rw [Nat.testBit_eq_decide_div_mod_eq] at d
        have := h i c (by simpa using d)
        rw [Nat.testBit_eq_decide_div_mod_eq, this]
        rfl
    · have : M.testBit i = false := Nat.testBit_lt_two_pow (Nat.lt_of_lt_of_le hM (show 2 ^ 12 ≤ 2 ^ i from Nat.pow_le_pow_right (by decide) (by omega)))
      simp [this]
theorem m7_bit : ∀ ho, ho < 4 → ∀ r, r < 12 → (7 * 8 ^ ho / 2 ^ r % 2 = 1 ↔ r / 3 = ho) := by decide +kernel
theorem m12_bit : ∀ r, r < 12 → 4095 / 2 ^ r % 2 = 1 := by decide +kernel
theorem m7_lt : ∀ ho, ho < 4 → 7 * 8 ^ ho < 4096 := by decide
theorem shl7 : ∀ ho, ho < 4 → (7 : Int32) <<< ((3 * nI ho) &&& 31) = nI (7 * 8 ^ ho) := by decide +kernel
/-- all the rooms for a ticket are closed -/
def allCl (τ : SG) (t : Nat) : Prop := ∀ r, r < 12 → ¬ (mFor τ t (nI (r / 3)) = true ∧ τ 15 r = 0)
section LBACK
variable {μ τ : SG} {nT nW t : Nat}
theorem cl_bit {s r : Nat} (hs : s < 4096) (hr : r < 12) : ¬ mBit (nI s) r = 0 ↔ s / 2 ^ r % 2 = 1 := by
  rw [mBit_n hs hr]
  have h2 : s / 2 ^ r % 2 < 2 := Nat.mod_lt _ (by decide)
  rcases (show s / 2 ^ r % 2 = 0 ∨ s / 2 ^ r % 2 = 1 by omega) with h | h <;> rw [h] <;> decide
theorem back_all {s M : Nat} (hs : s < 4096) (hD : ∀ r, r < 12 → τ 15 r = mBit (nI s) r) (hM : M < 4096) (hF : ∀ r, r < 12 → (mFor τ t (nI (r / 3)) = true ↔ M / 2 ^ r % 2 = 1)) : nI s &&& nI M = nI M ↔ allCl τ t := by
  rw [mask_iff hs hM]
  constructor
  · intro h r hr z
    rw [hD r hr] at z
    exact (cl_bit hs hr).mpr (h r hr ((hF r hr).mp z.1)) z.2
  · intro h r hr hb
    exact (cl_bit hs hr).mp (fun z => h r hr ⟨(hF r hr).mpr hb, by rw [hD r hr]; exact z⟩)
theorem for_0 {ho : Nat} (h4 : τ 4 t = 0) (h5 : τ 5 t = nI ho) (hh : ho < 4) : ∀ r, r < 12 → (mFor τ t (nI (r / 3)) = true ↔ 7 * 8 ^ ho / 2 ^ r % 2 = 1) := fun r hr => by
  rw [m7_bit ho hh r hr]
  unfold mFor
  rw [h4, h5]
  simp only [decide_true, Bool.true_and, Bool.not_not, decide_eq_true_eq]
  exact ⟨fun z => (nIe (by omega) (by omega) z).symm, fun z => by rw [z]⟩
theorem for_n (h4 : ¬ τ 4 t = 0) : ∀ r, r < 12 → (mFor τ t (nI (r / 3)) = true ↔ 4095 / 2 ^ r % 2 = 1) := fun r hr => by
  unfold mFor
  simp [h4, m12_bit r hr]
end LBACK
