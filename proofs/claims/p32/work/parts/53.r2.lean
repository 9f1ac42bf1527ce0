theorem RN.pay {σ σ' τ τ' : SG} {nT nW f D : Nat} (h : RN σ τ nT nW f D) (a : agr [25, 26] σ σ') (b : agr [3, 16, 26] τ τ') (e : σ' 27 0 = τ' 25 0) : RN σ' τ' nT nW f D := by
  obtain ⟨h1, h2, h3, h4, h5, h6, h7, h8, h9, h10⟩ := h
  exact ⟨by rw [a.at (by simp)]; exact h1, h2, h3, by rw [b.at (by simp)]; exact h4, by rw [b.at (by simp)]; exact h5, h6, by rw [a.at (by simp)]; exact h7, by rw [b.at (by simp)]; exact h8, h9, e⟩
theorem agr_up {gs : List Nat} {σ : SG} {g i : Nat} {x : Int32} (h : g ∉ gs) : agr gs σ (up σ g i x) := fun g' hg _ => up_f (fun z => h (z ▸ hg))
theorem cnt_last {p : Nat → Bool} : ∀ (n a : Nat), cntF p a (n + 1) = cntF p a n + (if p (a + n) then 1 else 0)
  | 0, a => by simp [cntF]
  | n + 1, a => by
    have h := cnt_last (p := p) n (a + 1)
    rw [show a + 1 + n = a + (n + 1) by omega] at h
    show (if p a then 1 else 0) + cntF p (a + 1) (n + 1) = ((if p a then 1 else 0) + cntF p (a + 1) n) + _
    rw [h]; omega
theorem cnt_co {p q : Nat → Bool} : ∀ (n a : Nat), (∀ i, a ≤ i → i < a + n → p i = q i) → cntF p a n = cntF q a n
  | 0, _, _ => rfl
  | n + 1, a, h => by
    simp only [cntF]
    rw [h a (Nat.le_refl _) (by omega), cnt_co n (a + 1) (fun i h1 h2 => h i (by omega) (by omega))]
theorem q_m1 (r : Nat) (hr : r < 12) : ¬ (-1 : Int32) = 100 + nI r := (by decide +kernel : ∀ r, r < 12 → ¬ (-1 : Int32) = 100 + nI r) r hr
theorem n_m1 (r : Nat) (hr : r < 12) : ¬ (-1 : Int32) = nI r := (by decide +kernel : ∀ r, r < 12 → ¬ (-1 : Int32) = nI r) r hr
theorem pr_sell {σ τ : SG} {qs : Nat → List Nat} {nT nW f D N : Nat} {h b : Nat} {vv x9 : Int32} (hh4 : h < 4) (hb4 : b < 4) (hR : RR0 σ qs nT nW f τ D N) : RR0 (up (fBook (fBook σ 3 (b + 1) x9) 3 (h + 1) (vv - x9)) 27 0 (σ 27 0 + vv)) qs nT nW f (mSell (thr τ 0) h b vv x9) D N := by
  obtain ⟨hRN, hRP, hRM, hRT, hRZ, hRD, hRW, hRB, hRA, hRR, hRV, hRO, hRQ, hRC, hRF, hRS, hRX, hRY⟩ := hR
  exact ⟨hRN.pay (by simp [agr, up, fBook]) (by simp [agr, up, thr, mSell]) (by simp [up, thr, mSell]; exact hRN.2.2.2.2.2.2.2.2.2),
    hRP.co (by simp [agr, up, thr, fBook, mSell]) (by simp [agr, up, thr, fBook, mSell]),
    hRM.co (by simp [agr, up, thr, fBook, mSell]) (by simp [agr, up, thr, fBook, mSell]),
    hRT.co (by simp [agr, up, thr, fBook, mSell]) (by simp [agr, up, thr, fBook, mSell]),
    hRZ.co (by simp [agr, up, thr, fBook, mSell]),
    hRD.co (by simp [agr, up, thr, fBook, mSell]),
    hRW.co (by simp [agr, up, thr, fBook, mSell]) (by simp [agr, up, thr, fBook, mSell]),
    hRB.co (by simp [agr, up, thr, fBook, mSell]),
    ⟨by simp [mSell, fBook, up, thr, show ¬ 4 = h by omega, show ¬ 4 = b by omega]; exact hRA.1, fun y hy => by
      have := hRA.2 y hy
      by_cases c1 : y = h
      · subst c1
        by_cases c2 : y = b
        · subst c2; simp [mSell, fBook, up, thr, this]
        · simp [mSell, fBook, up, thr, this, c2]
      · by_cases c2 : y = b
        · subst c2; simp [mSell, fBook, up, thr, this, c1]
        · simp [mSell, fBook, up, thr, this, c1, c2]⟩,
    hRR.co (by simp [agr, up, thr, fBook, mSell]) (by simp [agr, up, thr, fBook, mSell]),
    hRV.co (by simp [agr, up, thr, fBook, mSell]) (by simp [agr, up, thr, fBook, mSell]),
    hRO.co (by simp [agr, up, thr, fBook, mSell]) (by simp [agr, up, thr, fBook, mSell]),
    hRQ.co (by simp [agr, up, thr, fBook, mSell]),
    hRC.co (by simp [agr, up, thr, fBook, mSell]),
    hRF.co (by simp [agr, up, thr, fBook, mSell]) (by simp [agr, up, thr, fBook, mSell]),
    hRS.co (by simp [agr, up, thr, fBook, mSell]),
    hRX.co (by simp [agr, up, thr, fBook, mSell]),
    ((hRY.book (Or.inr (Or.inl rfl))).book (Or.inr (Or.inl rfl))).co (agr_up (by simp))⟩
theorem pr_give {σ τ : SG} {qs : Nat → List Nat} {nT nW f D N : Nat} {h : Nat} {vv x9 : Int32} (hh4 : h < 4) (hR : RR0 σ qs nT nW f τ D N) : RR0 (up (fBook (fBook σ 4 0 (-x9)) 4 (h + 1) (vv + x9)) 27 0 (σ 27 0 + vv)) qs nT nW f (mGive (thr τ 0) h vv x9) D N := by
  obtain ⟨hRN, hRP, hRM, hRT, hRZ, hRD, hRW, hRB, hRA, hRR, hRV, hRO, hRQ, hRC, hRF, hRS, hRX, hRY⟩ := hR
  exact ⟨hRN.pay (by simp [agr, up, fBook]) (by simp [agr, up, thr, mGive]) (by simp [up, thr, mGive]; exact hRN.2.2.2.2.2.2.2.2.2),
    hRP.co (by simp [agr, up, thr, fBook, mGive]) (by simp [agr, up, thr, fBook, mGive]),
    hRM.co (by simp [agr, up, thr, fBook, mGive]) (by simp [agr, up, thr, fBook, mGive]),
    hRT.co (by simp [agr, up, thr, fBook, mGive]) (by simp [agr, up, thr, fBook, mGive]),
    hRZ.co (by simp [agr, up, thr, fBook, mGive]),
    hRD.co (by simp [agr, up, thr, fBook, mGive]),
    hRW.co (by simp [agr, up, thr, fBook, mGive]) (by simp [agr, up, thr, fBook, mGive]),
    hRB.co (by simp [agr, up, thr, fBook, mGive]),
    ⟨by simp [mGive, fBook, up, thr, show ¬ 4 = h by omega]; rw [hRA.1, Int32.sub_eq_add_neg], fun y hy => by
      have := hRA.2 y hy
      have c4 : ¬ y = 4 := by omega
      by_cases c1 : y = h
      · subst c1; simp [mGive, fBook, up, thr, this, c4]
      · simp [mGive, fBook, up, thr, this, c4, c1]⟩,
    hRR.co (by simp [agr, up, thr, fBook, mGive]) (by simp [agr, up, thr, fBook, mGive]),
    hRV.co (by simp [agr, up, thr, fBook, mGive]) (by simp [agr, up, thr, fBook, mGive]),
    hRO.co (by simp [agr, up, thr, fBook, mGive]) (by simp [agr, up, thr, fBook, mGive]),
    hRQ.co (by simp [agr, up, thr, fBook, mGive]),
    hRC.co (by simp [agr, up, thr, fBook, mGive]),
    hRF.co (by simp [agr, up, thr, fBook, mGive]) (by simp [agr, up, thr, fBook, mGive]),
    hRS.co (by simp [agr, up, thr, fBook, mGive]),
    hRX.co (by simp [agr, up, thr, fBook, mGive]),
    ((hRY.book (Or.inr (Or.inr rfl))).book (Or.inr (Or.inr rfl))).co (agr_up (by simp))⟩
section MAKE
variable {σ τ : SG} {qs : Nat → List Nat} {nT nW f D N : Nat} {so ho me co : Int32}
theorem mk_σ {g i : Nat} (h : i ≠ nT ∨ (g < 10 ∨ 17 < g)) (hg : g ≠ 27) : up (fNew σ nT so ho me co) 27 0 (σ 27 0 + co) g i = σ g i := by
  rw [up_f hg]
  refine fNew_o _ _ (fun z => ?_)
  unfold fk at z
  rcases h with h | h
  · exact h z.2
  · rcases h with h | h
    · have := z.1
      split at this <;> (try split at this) <;> (try split at this) <;> (try split at this) <;> (try split at this) <;> omega
    · have := z.1
      split at this <;> (try split at this) <;> (try split at this) <;> (try split at this) <;> (try split at this) <;> omega
theorem mk_τ {g i : Nat} (h : i ≠ nT ∨ (g ≠ 4 ∧ g ≠ 5 ∧ g ≠ 6 ∧ g ≠ 7 ∧ g ≠ 8 ∧ g ≠ 10)) (hg : g ≠ 25 ∧ g ≠ 3 ∧ g ≠ 27) : mMake (thr τ 0) nT so ho me co g i = τ g i := by
  unfold mMake
  rcases h with h | h
  · simp [up, thr, h, hg]
  · simp [up, thr, h, hg]
theorem mk_in {r : Nat} (hr : r < 12) : cntF (mIn (mMake (thr τ 0) nT so ho me co) (nI r)) 0 (nT + 1) = cntF (mIn τ (nI r)) 0 nT := by
  rw [cnt_last, Nat.zero_add, if_neg (by simp [mIn, mMake, up]; exact n_m1 r hr), Nat.add_zero]
  refine cnt_co _ _ (fun i _ hi => ?_)
  unfold mIn
  rw [mk_τ (Or.inl (by omega)) (by decide)]
theorem mk_ah {u t : Nat} (hu : u < nT) (ht : t < nT) : mAhead (mMake (thr τ 0) nT so ho me co) u t = mAhead τ u t := by
  unfold mAhead
  rw [mk_τ (g := 4) (i := u) (Or.inl (by omega)) (by decide), mk_τ (g := 4) (i := t) (Or.inl (by omega)) (by decide), mk_τ (g := 11) (i := u) (Or.inl (by omega)) (by decide), mk_τ (g := 11) (i := t) (Or.inl (by omega)) (by decide)]
end MAKE
theorem pr_makeX {σ : SG} {nT f : Nat} {so ho me co : Int32} (hX : RX σ nT f) (hme : so = 2 → ∃ k, k < 6 ∧ me = nI k ∧ fBel (σ 9 k) (σ 25 0) = true) (hno : so = 2 → ∀ t, f ≤ t → t < nT → σ 10 t = 2 → σ 14 t = 0 → ¬ σ 12 t = me) : RX (up (fNew σ nT so ho me co) 27 0 (σ 27 0 + co)) (nT + 1) f := by
  refine ⟨fun t a1 a2 a3 => ?_, fun t u a1 a2 a3 a4 a5 a6 a7 a8 a9 => ?_⟩
  · rw [mk_σ (g := 25) (Or.inr (by decide)) (by decide)]
    by_cases c : t = nT
    · subst c
      have e : so = 2 := by simpa [up, fNew] using a3
      obtain ⟨k, b1, b2, b3⟩ := hme e
      exact ⟨k, b1, by simp [up, fNew]; exact b2, by rw [mk_σ (Or.inr (by decide)) (by decide)]; exact b3⟩
    · rw [mk_σ (Or.inl c) (by decide)] at a3 ⊢
      obtain ⟨k, b1, b2, b3⟩ := hX.1 t a1 (by omega) a3
      exact ⟨k, b1, b2, by rw [mk_σ (Or.inr (by decide)) (by decide)]; exact b3⟩
  · by_cases c : t = nT
    · by_cases c' : u = nT
      · rw [c, c']
      · rw [c] at a5 a7 a9
        have e : so = 2 := by simpa [up, fNew] using a5
        rw [mk_σ (Or.inl c') (by decide)] at a6 a8 a9
        have e2 : me = σ 12 u := by simpa [up, fNew] using a9
        exact absurd e2.symm (hno e u a3 (by omega) a6 a8)
    · by_cases c' : u = nT
      · rw [c'] at a6 a8 a9
        have e : so = 2 := by simpa [up, fNew] using a6
        rw [mk_σ (Or.inl c) (by decide)] at a5 a7 a9
        have e2 : σ 12 t = me := by simpa [up, fNew] using a9
        exact absurd e2 (hno e t a1 (by omega) a5 a7)
      · rw [mk_σ (Or.inl c) (by decide)] at a5 a7 a9
        rw [mk_σ (Or.inl c') (by decide)] at a6 a8 a9
        exact hX.2 t u a1 (by omega) a3 (by omega) a5 a6 a7 a8 a9
theorem pr_make {σ τ : SG} {qs : Nat → List Nat} {nT nW f D N : Nat} {so ho me co : Int32} (hn80 : nT < 80) (hso : (so = 0 ∧ ∃ h, h < 4 ∧ ho = nI h) ∨ (so ≠ 0 ∧ ho = -1)) (hme : so = 2 → ∃ k, k < 6 ∧ me = nI k ∧ fBel (σ 9 k) (σ 25 0) = true) (hno : so = 2 → ∀ t, f ≤ t → t < nT → σ 10 t = 2 → σ 14 t = 0 → ¬ σ 12 t = me) (hR : RR0 σ qs nT nW f τ D N) : RR0 (up (fNew σ nT so ho me co) 27 0 (σ 27 0 + co)) qs (nT + 1) nW f (mMake (thr τ 0) nT so ho me co) D N := by
  obtain ⟨hRN, hRP, hRM, hRT, hRZ, hRD, hRW, hRB, hRA, hRR, hRV, hRO, hRQ, hRC, hRF, hRS, hRX, hRY⟩ := hR
  exact ⟨by
      obtain ⟨h1, h2, h3, h4, h5, h6, h7, h8, h9, h10⟩ := hRN
      exact ⟨by rw [mk_σ (Or.inr (by decide)) (by decide)]; exact h1, by omega, by omega, by simp [mMake, up], by rw [mk_τ (Or.inr (by decide)) (by decide)]; exact h5, h6, by rw [mk_σ (Or.inr (by decide)) (by decide)]; exact h7, by rw [mk_τ (Or.inr (by decide)) (by decide)]; exact h8, h9, by simp [mMake, up, thr]; exact h10⟩,
    hRP.co (by simp [agr, up, thr, fNew, mMake]) (by simp [agr, up, thr, fNew, mMake]),
    hRM.co (by simp [agr, up, thr, fNew, mMake]) (by simp [agr, up, thr, fNew, mMake]),
    fun t ht => by
      by_cases c : t = nT
      · subst c; have := hRZ.1 t (Nat.le_refl _); simp [mMake, up, thr, fNew, this]
      · have := hRT t (by omega); simp [mMake, up, thr, fNew, c]; exact this,
    ⟨fun t ht => by rw [mk_τ (Or.inl (by omega)) (by decide), mk_τ (Or.inl (by omega)) (by decide)]; exact hRZ.1 t (by omega), fun w hw => by rw [mk_τ (Or.inr (by decide)) (by decide), mk_τ (Or.inr (by decide)) (by decide), mk_τ (Or.inr (by decide)) (by decide), mk_τ (Or.inr (by decide)) (by decide)]; exact hRZ.2 w hw⟩,
    ⟨fun t ht => by rw [mk_τ (Or.inl (by have := hRN.2.1; omega)) (by decide)]; exact hRD.1 t ht, fun t a1 a2 => by
      by_cases c : t = nT
      · subst c; simp [mMake, up, thr]; exact hRN.2.2.2.2.2.2.2.1
      · rw [mk_τ (Or.inl c) (by decide)]; exact hRD.2 t a1 (by omega)⟩,
    hRW.co (by simp [agr, up, thr, fNew, mMake]) (by simp [agr, up, thr, fNew, mMake]),
    hRB.co (by simp [agr, up, thr, fNew, mMake]),
    hRA.co (by simp [agr, up, thr, fNew, mMake]) (by simp [agr, up, thr, fNew, mMake]),
    hRR.co (by simp [agr, up, thr, fNew, mMake]) (by simp [agr, up, thr, fNew, mMake]),
    fun r hr => by rw [mk_σ (Or.inr (by decide)) (by decide), mk_in hr]; exact hRV r hr,
    fun t ht => by
      have hfn := hRN.2.1
      by_cases c : t = nT
      · subst c; exact ⟨Or.inl ⟨by simp [up, fNew], by simp [up, fNew], by simp [mMake, up]⟩, fun z => by omega⟩
      · unfold plc; rw [mk_σ (Or.inl c) (by decide), mk_σ (Or.inl c) (by decide), mk_τ (Or.inl c) (by decide)]; exact hRO t (by omega),
    fun r hr => by
      obtain ⟨h1, h2, h3⟩ := hRQ r hr
      refine ⟨h1, fun t => ?_, h3.imp_of_mem (fun {x y} q1 q2 q => by rw [mk_ah ((h2 x).mp q1).1 ((h2 y).mp q2).1]; exact q)⟩
      by_cases c : t = nT
      · subst c; rw [h2]; simp [mMake, up]; exact fun z => absurd z (q_m1 r hr)
      · rw [h2, mk_τ (Or.inl c) (by decide)]; exact ⟨fun z => ⟨by omega, z.2⟩, fun z => ⟨by omega, z.2⟩⟩,
    by
      obtain ⟨K, h1, h2, h3⟩ := hRC
      refine ⟨K, h1, by rw [mk_τ (Or.inr (by decide)) (by decide)]; exact h2, fun t r ht hr => ?_⟩
      by_cases c : t = nT
      · subst c; simp [mMake, up]; exact fun z => absurd z (q_m1 r hr)
      · rw [mk_τ (Or.inl c) (by decide), mk_τ (Or.inl c) (by decide)]; exact h3 t r (by omega) hr,
    fun r c hr hc hq => by rw [mk_σ (Or.inr (by decide)) (by decide), mk_in hr]; exact hRF r c hr hc hq,
    fun t ht => by
      by_cases c : t = nT
      · subst c; simp [up, fNew]; exact ⟨hso, 0, by decide, rfl⟩
      · rw [mk_σ (Or.inl c) (by decide), mk_σ (Or.inl c) (by decide), mk_σ (Or.inl c) (by decide)]; exact hRS t (by omega),
    pr_makeX hRX hme hno,
    hRY.co2 (by simp [agr, up, fNew]) (fun i hi => by
      have c : ¬ i = nT := Nat.ne_of_lt (Nat.lt_of_lt_of_le hi hRN.2.1)
      simp [up, fNew, c]) (fDw.co (by simp [agr, up, fNew]))⟩
theorem pr_giveBack {σ τ : SG} {qs : Nat → List Nat} {nT nW f D N : Nat} {t : Nat} (ht : t < nT) (hf : f ≤ t) (hR : RR0 σ qs nT nW f τ D N) : RR0 (up (up σ 14 t 1) 27 0 (σ 27 0 - σ 13 t)) qs nT nW f (up (up (thr τ 0) 9 t 1) 25 0 (thr τ 0 25 0 - thr τ 0 8 t)) D N := by
  obtain ⟨hRN, hRP, hRM, hRT, hRZ, hRD, hRW, hRB, hRA, hRR, hRV, hRO, hRQ, hRC, hRF, hRS, hRX, hRY⟩ := hR
  exact ⟨hRN.pay (by simp [agr, up]) (by simp [agr, up, thr]) (by have h1 := hRN.2.2.2.2.2.2.2.2.2; have h2 := (hRT t ht).2.2.2.1; simp [up, thr, h1, h2]),
    hRP.co (by simp [agr, up, thr]) (by simp [agr, up, thr]),
    hRM.co (by simp [agr, up, thr]) (by simp [agr, up, thr]),
    fun u hu => by
      have := hRT u hu
      by_cases c : u = t
      · subst c; simp [up, thr, this]
      · simp [up, thr, c, this],
    ⟨fun u hu => by
      have c : ¬ u = t := by omega
      simp [up, thr, c]; exact hRZ.1 u hu, fun w hw => by simp [up, thr]; exact hRZ.2 w hw⟩,
    hRD.co (by simp [agr, up, thr]),
    hRW.co (by simp [agr, up, thr]) (by simp [agr, up, thr]),
    hRB.co (by simp [agr, up, thr]),
    hRA.co (by simp [agr, up, thr]) (by simp [agr, up, thr]),
    hRR.co (by simp [agr, up, thr]) (by simp [agr, up, thr]),
    hRV.co (by simp [agr, up, thr]) (by simp [agr, up, thr]),
    hRO.co (by simp [agr, up, thr]) (by simp [agr, up, thr]),
    hRQ.co (by simp [agr, up, thr]),
    hRC.co (by simp [agr, up, thr]),
    hRF.co (by simp [agr, up, thr]) (by simp [agr, up, thr]),
    hRS.co (by simp [agr, up, thr]),
    ⟨fun u a1 a2 => by simp [up]; exact hRX.1 u a1 a2, fun u w a1 a2 a3 a4 => by
      by_cases c : u = t <;> by_cases c2 : w = t <;> simp [up, c, c2]
      exact hRX.2 u w a1 a2 a3 a4⟩,
    hRY.co2 (by simp [agr, up]) (fun i hi => by
      have c : ¬ i = t := Nat.ne_of_lt (Nat.lt_of_lt_of_le hi hf)
      simp [up, c]) (fDw.co (by simp [agr, up]))⟩
