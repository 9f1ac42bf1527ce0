/-! a family of cells grows -/
section FAMN
variable {D : va_G} {cl : List vw_C} {ad ad' : Nat → Nat → Nat} {dm dm' : Nat → Nat → Prop} {ce ce' : Nat → Nat → va_E} {A : Nat → Prop} {H H1 : Heap}
theorem FAM.new (h : FAM D cl ad dm ce A H) {k i q : Nat} {e : va_E} (hk : KF (fun z => H.size ≤ z) H H1) (hq : H.size ≤ q) (hA : A q) (he : va_at D cl (q, e) H1) : FAM D cl (adN ad k i q) (fun k' i' => dm k' i' ∨ (k' = k ∧ i' = i)) (fun k' i' => if k' = k ∧ i' = i then e else ce k' i') A H1 := by
  have hlt : ∀ k' i', dm k' i' → ad k' i' < H.size := fun k' i' hd => (h.1 k' i' hd).lt
  refine ⟨fun k' i' hd => ?_, fun k1 i1 k2 i2 h1 h2 ee => ?_, fun k' i' hd => ?_⟩
  · by_cases c : k' = k ∧ i' = i
    · simp only [adN, if_pos c]; exact he
    · simp only [adN, if_neg c]; exact atO (h.1 k' i' (hd.resolve_right c)) hk
  · by_cases c1 : k1 = k ∧ i1 = i
    · by_cases c2 : k2 = k ∧ i2 = i
      · exact ⟨c1.1.trans c2.1.symm, c1.2.trans c2.2.symm⟩
      · simp only [adN, if_pos c1, if_neg c2] at ee
        have := hlt _ _ (h2.resolve_right c2)
        omega
    · by_cases c2 : k2 = k ∧ i2 = i
      · simp only [adN, if_neg c1, if_pos c2] at ee
        have := hlt _ _ (h1.resolve_right c1)
        omega
      · simp only [adN, if_neg c1, if_neg c2] at ee
        exact h.2.1 _ _ _ _ (h1.resolve_right c1) (h2.resolve_right c2) ee
  · by_cases c : k' = k ∧ i' = i
    · simp only [adN, if_pos c]; exact hA
    · simp only [adN, if_neg c]; exact h.2.2 _ _ (hd.resolve_right c)
/-- the same cells under other words -/
theorem FAM.ext (h : FAM D cl ad dm ce A H) (hd : ∀ k i, dm' k i → dm k i) (ha : ∀ k i, dm' k i → ad' k i = ad k i) (hc : ∀ k i, dm' k i → ce' k i = ce k i) : FAM D cl ad' dm' ce' A H :=
  ⟨fun k i h1 => by rw [ha k i h1, hc k i h1]; exact h.1 k i (hd k i h1), fun k1 i1 k2 i2 h1 h2 e => h.2.1 k1 i1 k2 i2 (hd _ _ h1) (hd _ _ h2) (by rw [← ha _ _ h1, ← ha _ _ h2]; exact e), fun k i h1 => by rw [ha k i h1]; exact h.2.2 k i (hd k i h1)⟩
theorem FAM.keep (h : FAM D cl ad dm ce A H) (hk : KF (fun z => H.size ≤ z) H H1) : FAM D cl ad dm ce A H1 := ⟨fun k i hd => atO (h.1 k i hd) hk, h.2.1, h.2.2⟩
end FAMN
