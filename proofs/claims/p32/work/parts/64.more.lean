/-! the start; what is held; titles: both sides -/
theorem init_rel : RR0 fInit (fun _ => []) 0 0 0 (mI 4 1 12 6) 0 0 := by
  refine ⟨⟨rfl, Nat.le_refl _, by decide, rfl, rfl, by decide, rfl, rfl, by decide, rfl⟩, ⟨rfl, fun h hh => ?_⟩, fun k hk => ?_, fun t ht => absurd ht (Nat.not_lt_zero t), ⟨fun t _ => ?_, fun w _ => ?_⟩, ⟨fun t ht => absurd ht (Nat.not_lt_zero t), fun t _ ht => absurd ht (Nat.not_lt_zero t)⟩,
    fun w hw => absurd hw (Nat.not_lt_zero w), fun w hw => absurd hw (Nat.not_lt_zero w), ⟨rfl, fun h hh => rfl⟩, fun r hr => ?_, fun r hr => rfl, fun t ht => absurd ht (Nat.not_lt_zero t), fun r hr => ⟨List.nodup_nil, fun t => ⟨fun z => absurd z List.not_mem_nil, fun z => absurd z.1 (Nat.not_lt_zero t)⟩, List.Pairwise.nil⟩,
    ⟨0, Nat.le_refl _, rfl, fun t r ht => absurd ht (Nat.not_lt_zero t)⟩, fun r c hr _ hq => absurd rfl hq, fun t ht => absurd ht (Nat.not_lt_zero t), ⟨fun t _ ht => absurd ht (Nat.not_lt_zero t), fun t u _ ht => absurd ht (Nat.not_lt_zero t)⟩, fun j hj => ?_⟩
  · simp [mI, fInit, fPr, hh]
  · simp [mI, fInit, hk]
  · simp [mI]
  · simp [mI]
  · refine ⟨by simp [mI, fInit, hr], by simp [mI, fInit], 3, by decide, by simp [fInit]; rfl⟩
  · have e : fDw fInit = 0 := by decide +kernel
    rw [brT_eq, brM_eq, e]
    show (0 : Int32) = 0 + 0 + 0 + 0 + (0 + (0 - 0) * _)
    generalize p1 _ = x
    grind
section HELD
variable {σ τ : SG} {qs : Nat → List Nat} {nT nW f D N : Nat}
theorem held_eq (H : RR0 σ qs nT nW f τ D N) : fHeld σ f nT = mHeld τ nT := by
  obtain ⟨hN, hP, hM, hT, hZ, hD, -⟩ := H
  have hfn := hN.2.1
  have old : ∀ (n a : Nat) (x : Int32), a + n ≤ f → itr (mHT1 τ) a n x = x := by
    intro n
    induction n with
    | zero => intro a x _; rfl
    | succ n ih =>
      intro a x h
      show itr (mHT1 τ) (a + 1) n (mHT1 τ a x) = x
      rw [show mHT1 τ a x = x from by
        unfold mHT1
        rw [now_no hN hD (by omega), if_neg (fun z => by cases z)]
        exact Int32.add_zero x]
      exact ih (a + 1) x (by omega)
  have e1 : fHT σ f nT = mHT τ nT := by
    unfold fHT mHT
    have h := itr_add (F := mHT1 τ) f (nT - f) 0 0
    rw [show f + (nT - f) = nT by omega, Nat.zero_add, old f 0 0 (by omega)] at h
    rw [h]
    refine itr_co _ _ _ (fun i h1 h2 y => ?_)
    unfold fHT1 mHT1
    rw [now_iff hN hD hT h1 (by omega), (hT i (by omega)).2.2.2.1]
    by_cases c : σ 14 i = 0
    · rw [if_pos c, if_pos (by simp [c])]
    · rw [if_neg c, if_neg (by simp [c])]
  unfold fHeld mHeld
  rw [e1]
  refine itr_co _ _ _ (fun i h1 h2 y => ?_)
  unfold fHM1 mHM1 fLeft
  rw [hM i (by omega), hN.2.2.2.2.2.2.1, hN.2.2.2.2.2.2.2.1]
  by_cases c : fBel (σ 9 i) (nI D) = true
  · rw [if_pos c, if_pos c, Int32.mul_comm]
  · rw [if_neg c, if_neg c, Int32.zero_mul]
end HELD
/-- the first k signs are the same -/
def CA (f : Nat → Int32) (τ : SG) (k : Nat) : Prop := ∀ i, i < k → f i = τ 28 i
theorem CA.app {f : Nat → Int32} {τ : SG} {k : Nat} (h : CA f τ k) (c : Int32) : CA (upd f k c) (mApp τ k c) (k + 1) := fun i hi => by
  by_cases d : i = k
  · subst d; simp [upd, mApp, up]
  · simp [upd, mApp, up, d]
    exact h i (by omega)
theorem mApp_28 {τ : SG} {k i : Nat} {c : Int32} : mApp τ k c 28 i = if i = k then c else τ 28 i := by simp [mApp, up]
theorem upd_a {f : Nat → Int32} {k i : Nat} {c : Int32} : upd f k c i = if i = k then c else f i := rfl
theorem CA.put {f : Nat → Int32} {τ : SG} {k q : Nat} (h : CA f τ k) (hq : q ≤ 1000) : CA (gch q (k + dgn q) f) (mPut τ k q) (k + dgn q) := fun i hi => by
  unfold dgn at hi ⊢
  unfold mPut gch gcLow dg
  by_cases c1 : q < 10
  · have c2 : q < 100 := by omega
    simp only [if_pos c1, if_pos c2] at hi ⊢
    rw [show k + 1 - 1 = k by omega, upd_a, mApp_28, Nat.div_one]
    by_cases d : i = k
    · rw [if_pos d, if_pos d]
    · rw [if_neg d, if_neg d]; exact h i (by omega)
  · by_cases c2 : q < 100
    · simp only [if_neg c1, if_pos c2] at hi ⊢
      rw [show k + 2 - 1 - 1 = k by omega, show k + 2 - 1 = k + 1 by omega, upd_a, upd_a, mApp_28, mApp_28, Nat.div_one, show q / 10 % 10 = q / 10 by omega]
      by_cases d : i = k
      · have : ¬ i = k + 1 := by omega
        simp only [if_pos d, if_neg this]
      · by_cases d1 : i = k + 1
        · simp only [if_neg d, if_pos d1]
        · simp only [if_neg d, if_neg d1]; exact h i (by omega)
    · by_cases c3 : q < 1000
      · have c4 : q / 100 < 10 := by omega
        simp only [if_neg c1, if_neg c2, if_pos c3, if_pos c4] at hi ⊢
        rw [show k + 3 - 1 - 1 - 1 = k by omega, show k + 3 - 1 - 1 = k + 1 by omega, show k + 3 - 1 = k + 1 + 1 by omega, upd_a, upd_a, upd_a, mApp_28, mApp_28, mApp_28, Nat.div_one, show q / 10 % 10 = q % 100 / 10 by omega, show q % 100 % 10 = q % 10 by omega]
        by_cases d : i = k
        · have e1 : ¬ i = k + 1 := by omega
          have e2 : ¬ i = k + 1 + 1 := by omega
          simp only [if_pos d, if_neg e1, if_neg e2]
        · by_cases d1 : i = k + 1
          · have e2 : ¬ i = k + 1 + 1 := by omega
            simp only [if_neg d, if_pos d1, if_neg e2]
          · by_cases d2 : i = k + 1 + 1
            · simp only [if_neg d, if_neg d1, if_pos d2]
            · simp only [if_neg d, if_neg d1, if_neg d2]; exact h i (by omega)
      · have e : q = 1000 := by omega
        subst e
        simp only [show ¬ (1000 : Nat) < 10 by decide, show ¬ (1000 : Nat) < 100 by decide, show ¬ (1000 : Nat) < 1000 by decide, if_false, show ¬ (1000 / 100 : Nat) < 10 by decide] at hi ⊢
        rw [show k + 4 - 1 - 1 - 1 - 1 = k by omega, show k + 4 - 1 - 1 - 1 = k + 1 by omega, show k + 4 - 1 - 1 = k + 1 + 1 by omega, show k + 4 - 1 = k + 1 + 1 + 1 by omega, upd_a, upd_a, upd_a, upd_a, mApp_28, mApp_28, mApp_28, mApp_28]
        by_cases d : i = k
        · have e1 : ¬ i = k + 1 := by omega
          have e2 : ¬ i = k + 1 + 1 := by omega
          have e3 : ¬ i = k + 1 + 1 + 1 := by omega
          simp only [if_pos d, if_neg e1, if_neg e2, if_neg e3]
        · by_cases d1 : i = k + 1
          · have e2 : ¬ i = k + 1 + 1 := by omega
            have e3 : ¬ i = k + 1 + 1 + 1 := by omega
            simp only [if_neg d, if_pos d1, if_neg e2, if_neg e3]
          · by_cases d2 : i = k + 1 + 1
            · have e3 : ¬ i = k + 1 + 1 + 1 := by omega
              simp only [if_neg d, if_neg d1, if_pos d2, if_neg e3]
            · by_cases d3 : i = k + 1 + 1 + 1
              · simp only [if_neg d, if_neg d1, if_neg d2, if_pos d3]
              · simp only [if_neg d, if_neg d1, if_neg d2, if_neg d3]; exact h i (by omega)
theorem ti0_eq {τ : SG} {u h b : Nat} (hu : u < 12) (hb : b < 12) : CA (gch b (0 + 1 + dgn u + 1 + dgn b) (upd (gch u (0 + 1 + dgn u) (upd (fun _ => 0) 0 (nI (65 + h)))) (0 + 1 + dgn u) (nI 64))) (mTi0 τ u h b) (1 + dgn u + 1 + dgn b) := by
  have a0 : CA (fun _ => 0) (up τ 29 0 0) 0 := fun i hi => absurd hi (Nat.not_lt_zero i)
  have a1 := (a0.app (nI (65 + h))).put (q := u) (by omega)
  have a2 := (a1.app 64).put (q := b) (by omega)
  simp only [Nat.zero_add] at a2 ⊢
  exact a2
theorem ti1_eq {τ : SG} {u h b fe : Nat} (hu : u < 12) (hb : b < 12) (hf : fe ≤ 1000) : CA (gch fe (0 + 1 + dgn u + 1 + dgn b + 1 + dgn fe) (upd (gch b (0 + 1 + dgn u + 1 + dgn b) (upd (gch u (0 + 1 + dgn u) (upd (fun _ => 0) 0 (nI (65 + h)))) (0 + 1 + dgn u) (nI 64))) (0 + 1 + dgn u + 1 + dgn b) (nI 36))) (mTi1 τ u h b fe) (1 + dgn u + 1 + dgn b + 1 + dgn fe) := by
  have a3 := ((ti0_eq (τ := τ) (h := h) hu hb).app 36).put (q := fe) hf
  simp only [Nat.zero_add] at a3 ⊢
  exact a3
