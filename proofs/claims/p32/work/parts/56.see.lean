/-! a ticket sees a room: both sides -/
def RVW (σ τ : SG) (nW f : Nat) : Prop := RW σ τ nW ∧ RB σ nW ∧ RA σ τ ∧ RY σ f
section SEE
variable {σ τ : SG} {qs : Nat → List Nat} {nT nW f D N r w t : Nat}
theorem mV4_24 {h : Nat} {x : Int32} (y : Nat) : mV4 τ w r h x 24 y = if y = h then (if h = r / 3 then τ 24 (r / 3) - x else τ 24 h) + x else if y = r / 3 then τ 24 (r / 3) - x else τ 24 y := by
  unfold mV4
  by_cases c1 : y = h
  · subst c1
    simp [up]
  · simp [up, c1]
theorem fB2_1 {σ : SG} {h : Nat} {x : Int32} (y : Nat) : fBook (fBook σ 2 (r / 3 + 1) (-x)) 2 (h + 1) x 1 (y + 1) = if y = h then (if h = r / 3 then σ 1 (r / 3 + 1) - x else σ 1 (h + 1)) + x else if y = r / 3 then σ 1 (r / 3 + 1) - x else σ 1 (y + 1) := by
  unfold fBook
  by_cases c1 : y = h
  · subst c1
    by_cases c2 : y = r / 3
    · simp [up, c2, Int32.sub_eq_add_neg]
    · simp [up, c2]
  · by_cases c2 : y = r / 3
    · simp [up, c1, c2, Int32.sub_eq_add_neg]
    · simp [up, c1, c2]
theorem RVW.view (H : RVW σ τ nW f) (hr : r < 12) (hw : w < nW) : RVW (fView r w σ) (mView r w τ) nW f := by
  obtain ⟨hW, hB, hA, hY⟩ := H
  obtain ⟨e17, e18, e19, e20, e21, e22, e23⟩ := hW w hw
  obtain ⟨⟨h, hh, eh⟩, -, -⟩ := hB w hw
  have hr3 : r / 3 < 4 := by omega
  have hB' : RB (fView r w σ) nW := hB.co (fun g hg i => fView_ne (by simp at hg; omega))
  by_cases c : σ 19 w = nI r
  · have cm : τ 18 w = nI r := e18.trans c
    by_cases l : σ 20 w = 0
    · have ef : fView r w σ = up σ 24 w (σ 24 w + 1) := by
        unfold fView
        rw [if_pos c]
        unfold fPay
        rw [if_pos (by simp [up, l])]
      have em : mView r w τ = mV4 τ w r h 0 := mView_eq cm hh (e17.trans eh) (by unfold mFee; rw [if_pos (e19.trans l)])
      rw [ef] at hB' ⊢
      rw [em]
      refine ⟨fun x hx => ?_, hB', ⟨?_, fun y hy => ?_⟩, hY.co (agr_up (by simp))⟩
      · by_cases cx : x = w
        · subst cx
          simp [mV4, up, e17, e18, e19, e20, e21, e22, e23]
        · have := hW x hx
          simp [mV4, up, cx, this]
      · rw [mV4_24, if_neg (by omega), if_neg (by omega), up_f (by decide)]
        exact hA.1
      · rw [mV4_24, up_f (by decide), ← hA.2 y hy]
        simp only [Int32.sub_zero, Int32.add_zero]
        by_cases c1 : y = h
        · rw [if_pos c1]
          by_cases c2 : h = r / 3
          · rw [if_pos c2, c1, c2]
          · rw [if_neg c2, c1]
        · rw [if_neg c1]
          by_cases c2 : y = r / 3
          · rw [if_pos c2, c2]
          · rw [if_neg c2]
    · have ef : fView r w σ = fBook (fBook (up (up σ 24 w (σ 24 w + 1)) 22 w (σ 22 w + σ 21 w)) 2 (r / 3 + 1) (-(σ 21 w))) 2 (h + 1) (σ 21 w) := by
        unfold fView
        rw [if_pos c, fPay_eq hh (by simp [up]; exact eh) (by simp [up]; exact l)]
        simp [up]
      have em : mView r w τ = mV4 τ w r h (σ 21 w) := mView_eq cm hh (e17.trans eh) (by unfold mFee; rw [if_neg (fun z => l (e19.symm.trans z)), e20])
      rw [ef] at hB' ⊢
      rw [em]
      refine ⟨fun x hx => ?_, hB', ⟨?_, fun y hy => ?_⟩, ?_⟩
      · by_cases cx : x = w
        · subst cx
          simp [mV4, fBook, up, e17, e18, e19, e20, e21, e22, e23]
        · have := hW x hx
          simp [mV4, fBook, up, cx, this]
      · rw [mV4_24, if_neg (by omega), if_neg (by omega)]
        simp [fBook, up]
        exact hA.1
      · rw [mV4_24, fB2_1]
        simp only [show ∀ j, (up (up σ 24 w (σ 24 w + 1)) 22 w (σ 22 w + σ 21 w)) 1 j = σ 1 j from fun j => by simp [up]]
        rw [← hA.2 y hy, ← hA.2 h hh, ← hA.2 (r / 3) hr3]
      · exact ((hY.co (agr_up (by simp))).co (agr_up (by simp))).book (Or.inl rfl) |>.book (Or.inl rfl)
  · have ef : fView r w σ = σ := if_neg c
    have em : mView r w τ = τ := if_neg (fun z => c (e18.symm.trans z))
    rw [ef, em]
    exact ⟨hW, hB, hA, hY⟩
theorem RVW.views (hr : r < 12) : ∀ (n a : Nat) (σ τ : SG), a + n ≤ nW → RVW σ τ nW f → RVW (itr (fView r) a n σ) (itr (mView r) a n τ) nW f
  | 0, _, _, _, _, H => H
  | n + 1, a, σ, τ, hn, H => RVW.views hr n (a + 1) _ _ (by omega) (H.view hr (by omega))
/-- the reference's views beyond the works -/
theorem mView_far {x g : Nat} (hx : nW ≤ x) (hg : g = 21 ∨ g = 23) : ∀ (n a : Nat) (τ : SG), a + n ≤ nW → itr (mView r) a n τ g x = τ g x
  | 0, _, _, _ => rfl
  | n + 1, a, τ, hn => by
    show itr (mView r) (a + 1) n (mView r a τ) g x = τ g x
    rw [mView_far hx hg n (a + 1) _ (by omega)]
    have c : ¬ x = a := by omega
    unfold mView
    split
    · rcases hg with rfl | rfl <;> simp [mV4, up, c]
    · rfl
/-- what the room has been shown -/
theorem show_see (hT : RT σ τ nT) (hS : RS σ nT) (H : RVW σ τ nW f) (ht : t < nT) (hf : f ≤ t) (hr : r < 12) : RVW (fShow nW t r σ) (mSee nW t r τ) nW f ∧ (fShow nW t r σ 15 t = mSee nW t r τ 13 t ∧ (∃ s, s < 4096 ∧ fShow nW t r σ 15 t = nI s)) ∧ ∀ u, u ≠ t → fShow nW t r σ 15 u = σ 15 u ∧ mSee nW t r τ 13 u = τ 13 u := by
  obtain ⟨-, s, hs, es⟩ := hS t ht
  have e13 : τ 13 t = nI s := (hT t ht).2.2.2.2.2.trans es
  have hY : ∀ x, RVW (up σ 15 t x) (up (up τ 10 t (nI r)) 13 t x) nW f := fun x => by
    obtain ⟨h1, h2, h3, h4⟩ := H
    exact ⟨h1.co (agr_up (by simp)) (by simp [agr, up]), h2.co (agr_up (by simp)), h3.co (agr_up (by simp)) (by simp [agr, up]), h4.co2 (agr_up (by simp)) (fun i hi => by
      have c : ¬ i = t := by omega
      simp [up, c]) (fDw.co (agr_up (by simp)))⟩
  by_cases c : mBit (nI s) r = 1
  · have ef : fShow nW t r σ = σ := by
      unfold fShow
      rw [es]
      exact if_neg (fun z => (bit_0 hs hr).mp z c)
    have em : mSee nW t r τ = up τ 10 t (nI r) := by
      unfold mSee
      rw [e13]
      exact if_pos c
    rw [ef, em]
    obtain ⟨h1, h2, h3, h4⟩ := H
    exact ⟨⟨h1.co agr.rf (agr_up (by simp)), h2, h3.co agr.rf (agr_up (by simp)), h4⟩, ⟨by rw [up_f (by decide), e13]; exact es, s, hs, es⟩, fun u _ => ⟨rfl, up_f (by decide)⟩⟩
  · have e0 := (bit_0 hs hr).mpr c
    have ef : fShow nW t r σ = itr (fView r) 0 nW (up σ 15 t (σ 15 t ||| rbit r)) := by
      unfold fShow
      rw [es]
      exact if_pos e0
    have em : mSee nW t r τ = itr (mView r) 0 nW (up (up τ 10 t (nI r)) 13 t (σ 15 t ||| rbit r)) := by
      unfold mSee
      rw [e13, if_neg c, es]
      rfl
    have n15 : ∀ u, fShow nW t r σ 15 u = up σ 15 t (σ 15 t ||| rbit r) 15 u := fun u => by
      rw [ef, itrView_ne (by decide)]
    have n13 : ∀ u, mSee nW t r τ 13 u = up (up τ 10 t (nI r)) 13 t (σ 15 t ||| rbit r) 13 u := fun u => by
      rw [em, itr_neM (fun i σ => mView_ne (by decide))]
    obtain ⟨b1, b2⟩ := bit_or hs hr
    refine ⟨?_, ⟨by rw [n15, n13]; simp [up], s ||| 2 ^ r, b2, by rw [n15]; simp [up]; rw [es]; exact b1⟩, fun u hu => ⟨by rw [n15]; simp [up, hu], by rw [n13]; simp [up, hu]⟩⟩
    rw [ef, em]
    exact RVW.views hr nW 0 _ _ (by omega) (hY _)
theorem see_far {x g : Nat} (hx : nW ≤ x) (hg : g = 21 ∨ g = 23) : mSee nW t r τ g x = τ g x := by
  unfold mSee
  split
  · rcases hg with rfl | rfl <;> simp [up]
  · unfold mSeeL
    rw [mView_far hx hg nW 0 _ (by omega)]
    rcases hg with rfl | rfl <;> simp [up]
theorem see_10 {x : Int32} : mSee nW t r (up τ 10 t x) = mSee nW t r τ := by
  have e : up (up τ 10 t x) 10 t (nI r) = up τ 10 t (nI r) := by
    funext g j
    simp only [up]
    split <;> rfl
  unfold mSee
  rw [e, up_f (by decide)]
end SEE
