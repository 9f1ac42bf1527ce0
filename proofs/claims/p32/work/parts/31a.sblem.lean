/-- decimal signs of a number up to 1000 -/
def dgn (k : Nat) : Nat := if k < 10 then 1 else if k < 100 then 2 else if k < 1000 then 3 else 4
theorem ss_1 (k : Nat) (hk : k ≤ 1000) : ¬ -(nI k) ≤ -10 → dgn k = 1 := (by decide +kernel : ∀ k, k < 1001 → ¬ -(nI k) ≤ -10 → dgn k = 1) k (by omega)
theorem ss_2 (k : Nat) (hk : k ≤ 1000) : -(nI k) ≤ -10 → ¬ -(nI k) ≤ 10 * (-10) → dgn k = 2 := (by decide +kernel : ∀ k, k < 1001 → -(nI k) ≤ -10 → ¬ -(nI k) ≤ 10 * (-10) → dgn k = 2) k (by omega)
theorem ss_3 (k : Nat) (hk : k ≤ 1000) : -(nI k) ≤ 10 * (-10) → ¬ -(nI k) ≤ 10 * (10 * (-10)) → dgn k = 3 := (by decide +kernel : ∀ k, k < 1001 → -(nI k) ≤ 10 * (-10) → ¬ -(nI k) ≤ 10 * (10 * (-10)) → dgn k = 3) k (by omega)
theorem ss_4 (k : Nat) (hk : k ≤ 1000) : -(nI k) ≤ 10 * (10 * (-10)) → dgn k = 4 := (by decide +kernel : ∀ k, k < 1001 → -(nI k) ≤ 10 * (10 * (-10)) → dgn k = 4) k (by omega)
theorem ss_5 (k : Nat) (hk : k ≤ 1000) : ¬ -(nI k) ≤ 10 * (10 * (10 * (-10))) := (by decide +kernel : ∀ k, k < 1001 → ¬ -(nI k) ≤ 10 * (10 * (10 * (-10)))) k (by omega)
theorem dgn_le (k : Nat) : 1 ≤ dgn k ∧ dgn k ≤ 4 := by unfold dgn; split <;> (try split) <;> (try split) <;> omega
theorem gc_gt (k : Nat) (hk : k < 100) : -(nI k) > -100 := (by decide +kernel : ∀ k, k < 100 → -(nI k) > -100) k hk
theorem gc_div (k : Nat) (hk : k ≤ 1000) : -(nI k) / 100 = -(nI (k / 100)) := (by decide +kernel : ∀ k, k < 1001 → -(nI k) / 100 = -(nI (k / 100))) k (by omega)
theorem gc_mod (k : Nat) (hk : k ≤ 1000) : -(nI (k / 100)) * 100 - -(nI k) = nI (k % 100) := (by decide +kernel : ∀ k, k < 1001 → -(nI (k / 100)) * 100 - -(nI k) = nI (k % 100)) k (by omega)
theorem gc_ng (k : Nat) (hk : k < 100) : - -(nI k) = nI k := (by decide +kernel : ∀ k, k < 100 → - -(nI k) = nI k) k hk
theorem gc_h (k : Nat) (hk : k ≤ 1000) : ¬ -(nI k) > -100 → 100 ≤ k := (by decide +kernel : ∀ k, k < 1001 → ¬ -(nI k) > -100 → 100 ≤ k) k (by omega)
theorem gc_l (k : Nat) (hk : k ≤ 1000) : -(nI k) > -100 → k < 100 := (by decide +kernel : ∀ k, k < 1001 → -(nI k) > -100 → k < 100) k (by omega)
theorem gc_9 (k : Nat) (hk : k < 100) : (-9 : Int32) ≤ -(nI k) → k < 10 := (by decide +kernel : ∀ k, k < 100 → (-9 : Int32) ≤ -(nI k) → k < 10) k hk
theorem gc_10 (k : Nat) (hk : k < 100) : ¬ (-9 : Int32) ≤ -(nI k) → 10 ≤ k := (by decide +kernel : ∀ k, k < 100 → ¬ (-9 : Int32) ≤ -(nI k) → 10 ≤ k) k hk
theorem gc_c (c : Nat) (hc : c < 128) : vp_nar .byte (nI c) = nI c := (by decide +kernel : ∀ c, c < 128 → vp_nar .byte (nI c) = nI c) c hc
theorem nI_d1 {i : Nat} (h : 1 ≤ i) : nI i + Int32.ofInt (-1) = nI (i - 1) := by
  obtain ⟨j, rfl⟩ := Nat.exists_eq_add_of_le h
  rw [Nat.add_comm 1 j, Nat.add_sub_cancel, show Int32.ofInt (-1) = -(1 : Int32) from by decide, ← Int32.sub_eq_add_neg]
  exact nI_m1
def gcLow (q i : Nat) (f : Nat → Int32) : Nat → Int32 := if q < 10 then upd f (i - 1) (nI (48 + q % 10)) else upd (upd f (i - 1) (nI (48 + q % 10))) (i - 1 - 1) (nI (48 + q / 10))
def gch (k i : Nat) (f : Nat → Int32) : Nat → Int32 := if k < 100 then gcLow k i f else gcLow (k / 100) (i - 1 - 1) (upd (upd f (i - 1) (nI (48 + k % 100 % 10))) (i - 1 - 1) (nI (48 + k % 100 / 10)))
theorem sb_min (n : Nat) (hn : n ≤ 16) : (if nI 16 >>> ((0 : Int32) &&& 31) < nI n then nI 16 >>> ((0 : Int32) &&& 31) else nI n) = nI n := (by decide +kernel : ∀ n, n < 17 → (if nI 16 >>> ((0 : Int32) &&& 31) < nI n then nI 16 >>> ((0 : Int32) &&& 31) else nI n) = nI n) n (by omega)
