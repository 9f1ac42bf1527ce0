/-! numbers as places; texts of exceptions -/
theorem ix_of {x : Int32} {n : Nat} (hn : n < 2 ^ 31) (h0 : ¬ x < 0) (h1 : x < nI n) : ∃ j, j < n ∧ x = nI j := by
  obtain ⟨j, hj, rfl⟩ := nI_of h0
  exact ⟨j, (nI_ltI hj hn).mp h1, rfl⟩
theorem ix_no {x : Int32} {n : Nat} (hn : n < 2 ^ 31) (h : x < 0 ∨ ¬ x < nI n) : ¬ ∃ j, j < n ∧ x = nI j := by
  rintro ⟨j, hj, rfl⟩
  rcases h with h | h
  · exact nI_pos (by omega) h
  · exact h (nI_lt hj hn)
theorem i32_eq {x y : Int32} (h : x.toInt = y.toInt) : x = y := Int32.toInt_inj.mp h
theorem hs_of {x : Int32} (h0 : ¬ x < -1) (h1 : x < 4) : ∃ j, j < 5 ∧ x + 1 = nI j := by
  by_cases h : x < 0
  · have e : x = -1 := by
      apply i32_eq
      have a := Int32.lt_iff_toInt_lt.mp h
      have b := Int32.not_lt.mp h0
      have b := Int32.le_iff_toInt_le.mp b
      have c : (-1 : Int32).toInt = -1 := by decide
      have d : (0 : Int32).toInt = 0 := by decide
      omega
    subst e
    exact ⟨0, by decide, by decide⟩
  · obtain ⟨j, hj, rfl⟩ := ix_of (n := 4) (by decide) h h1
    exact ⟨j + 1, by omega, nI_1 j⟩
theorem hs_ok {x : Int32} {j : Nat} (hj : j < 5) (e : x + 1 = nI j) : ¬ x < -1 ∧ x < 4 := by
  have e2 : x = nI j - 1 := by rw [← e]; exact (Int32.add_sub_cancel x 1).symm
  subst e2
  exact (by decide : ∀ j, j < 5 → ¬ (nI j - 1 < -1) ∧ nI j - 1 < 4) j hj
theorem hs_no {x : Int32} (h : x < -1 ∨ ¬ x < 4) : ¬ ∃ j, j < 5 ∧ x + 1 = nI j := by
  rintro ⟨j, hj, e⟩
  obtain ⟨h1, h2⟩ := hs_ok hj e
  rcases h with h | h
  · exact h1 h
  · exact h h2
