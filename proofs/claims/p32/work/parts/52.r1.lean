theorem RR0.th {σ τ : SG} {qs : Nat → List Nat} {nT nW f D N : Nat} {k : Int32} (hR : RR0 σ qs nT nW f τ D N) : RR0 σ qs nT nW f (thr τ k) D N := by
  have b : ∀ gs, 27 ∉ gs → agr gs τ (thr τ k) := fun gs h g hg i => thr_o (fun e => h (e ▸ hg))
  obtain ⟨hRN, hRP, hRM, hRT, hRZ, hRD, hRW, hRB, hRA, hRR, hRV, hRO, hRQ, hRC, hRF, hRS, hRX, hRY⟩ := hR
  exact ⟨hRN.co agr.rf (b _ (by decide)), hRP.co agr.rf (b _ (by decide)), hRM.co agr.rf (b _ (by decide)), hRT.co agr.rf (b _ (by decide)), hRZ.co (b _ (by decide)), hRD.co (b _ (by decide)), hRW.co agr.rf (b _ (by decide)), hRB, hRA.co agr.rf (b _ (by decide)), hRR.co agr.rf (b _ (by decide)), hRV.co agr.rf (b _ (by decide)), hRO.co agr.rf (b _ (by decide)), hRQ.co (b _ (by decide)), hRC.co (b _ (by decide)), hRF.co agr.rf (b _ (by decide)), hRS, hRX, hRY⟩
theorem RR0.more {σ τ : SG} {qs : Nat → List Nat} {nT nW f D N : Nat} (hR : RR0 σ qs nT nW f τ D N) : RR0 σ qs nT nW f τ D (N + 1) := by
  obtain ⟨hRN, hRP, hRM, hRT, hRZ, hRD, hRW, hRB, hRA, hRR, hRV, hRO, hRQ, hRC, hRF, hRS, hRX, hRY⟩ := hR
  obtain ⟨K, h1, h2⟩ := hRC
  exact ⟨hRN, hRP, hRM, hRT, hRZ, hRD, hRW, hRB, hRA, hRR, hRV, hRO, hRQ, ⟨K, by omega, h2⟩, hRF, hRS, hRX, hRY⟩
/-- what the law's step needs: a call that returns -/
def OKS (G : GE) (A : Nat → Prop) (ad : Nat → Nat → Nat) (H : Heap) (N : Nat) (v : Option Value) (x : Int32) (τ' : SG) : Prop :=
  τ' 27 0 = 0 ∧ v = some (.int x) ∧ ∃ (ad' : Nat → Nat → Nat) (σ' : SG) (qs' : Nat → List Nat) (nT' nW' f' D' : Nat), ad' 0 0 = ad 0 0 ∧ PX G A ad' σ' qs' nT' nW' H ∧ RR0 σ' qs' nT' nW' f' τ' D' (N + 1)
/-- and one that throws the exception of place k -/
def EXS (G : GE) (A : Nat → Prop) (ad : Nat → Nat → Nat) (H : Heap) (N : Nat) (k : Int32) (τ' : SG) : Prop :=
  τ' 27 0 = k ∧ ∃ (σ' : SG) (qs' : Nat → List Nat) (nT' nW' f' D' : Nat), PX G A ad σ' qs' nT' nW' H ∧ RR0 σ' qs' nT' nW' f' τ' D' (N + 1)
theorem RR0.exs {G : GE} {A : Nat → Prop} {ad : Nat → Nat → Nat} {H : Heap} {σ τ : SG} {qs : Nat → List Nat} {nT nW f D N : Nat} (hR : RR0 σ qs nT nW f τ D N) (hP : PX G A ad σ qs nT nW H) (k : Int32) : EXS G A ad H N k (thr τ k) :=
  ⟨thr_27, σ, qs, nT, nW, f, D, hP, hR.th.more⟩
theorem inB_iff {x a b : Int32} : inB x a b = true ↔ ¬ x < a ∧ x ≤ b := by simp [inB, Int32.not_lt]
theorem inB_not {x a b : Int32} : inB x a b = false ↔ (x < a ∨ ¬ x ≤ b) := by
  constructor
  · intro h
    rcases Classical.em (x < a ∨ ¬ x ≤ b) with q | q
    · exact q
    · have : inB x a b = true := inB_iff.mpr ⟨fun z => q (Or.inl z), Classical.not_not.mp (fun z => q (Or.inr z))⟩
      rw [this] at h; cases h
  · intro h
    cases c : inB x a b with
    | false => rfl
    | true =>
      obtain ⟨q1, q2⟩ := inB_iff.mp c
      exact absurd q2 (h.resolve_left q1)
theorem hs_0 {x : Int32} : x + 1 = nI 0 ↔ x = -1 := by
  constructor
  · intro h
    have := congrArg (fun y => y - 1) h
    simp only [Int32.add_sub_cancel] at this
    exact this.trans (by decide)
  · rintro rfl; rfl
theorem hs_s {x : Int32} {j : Nat} : x + 1 = nI (j + 1) ↔ x = nI j := by
  constructor
  · intro h
    rw [← nI_1] at h
    have := congrArg (fun y => y - 1) h
    simpa [Int32.add_sub_cancel] using this
  · rintro rfl; exact nI_1 j
theorem hs_iff {x : Int32} : (∃ j, j < 5 ∧ x + 1 = nI j) ↔ (x = -1 ∨ ∃ j, j < 4 ∧ x = nI j) := by
  constructor
  · rintro ⟨j, hj, e⟩
    cases j with
    | zero => exact Or.inl (hs_0.mp e)
    | succ j => exact Or.inr ⟨j, by omega, hs_s.mp e⟩
  · rintro (e | ⟨j, hj, e⟩)
    · exact ⟨0, by decide, hs_0.mpr e⟩
    · exact ⟨j + 1, by omega, hs_s.mpr e⟩
theorem pr_price0 {σ τ : SG} {qs : Nat → List Nat} {nT nW f D N : Nat} {vv : Int32} (hR : RR0 σ qs nT nW f τ D N) : RR0 (up σ 0 0 vv) qs nT nW f (up (thr τ 0) 1 0 vv) D N := by
  obtain ⟨hRN, hRP, hRM, hRT, hRZ, hRD, hRW, hRB, hRA, hRR, hRV, hRO, hRQ, hRC, hRF, hRS, hRX, hRY⟩ := hR
  exact ⟨hRN.co (by simp [agr, up, thr]) (by simp [agr, up, thr]),
    ⟨by simp [up], fun x hx => by simp [up, thr]; exact hRP.2 x hx⟩,
    hRM.co (by simp [agr, up, thr]) (by simp [agr, up, thr]),
    hRT.co (by simp [agr, up, thr]) (by simp [agr, up, thr]),
    hRZ.co (by simp [agr, up, thr]),
    hRD.co (by simp [agr, up, thr]),
    hRW.co (by simp [agr, up, thr]) (by simp [agr, up, thr]),
    hRB.co (by simp [agr, up, thr]),
    hRA.co (by simp [agr, up, thr]) (by simp [agr, up, thr]),
    hRR.co (by simp [agr, up, thr]) (by simp [agr, up, thr]),
    hRV.co (by simp [agr, up, thr]) (by simp [agr, up, thr]),
    hRO.co (by simp [agr, up, thr]) (by simp [agr, up, thr]),
    hRQ.co (by simp [agr, up, thr]),
    hRC.co (by simp [agr, up, thr]),
    hRF.co (by simp [agr, up, thr]) (by simp [agr, up, thr]),
    hRS.co (by simp [agr, up, thr]),
    hRX.co (by simp [agr, up, thr]),
    hRY.co (by simp [agr, up, thr])⟩
theorem pr_priceh {σ τ : SG} {qs : Nat → List Nat} {nT nW f D N : Nat} {h : Nat} {vv : Int32} (hh4 : h < 4) (hR : RR0 σ qs nT nW f τ D N) : RR0 (up σ 0 (h + 1) vv) qs nT nW f (up (thr τ 0) 0 h vv) D N := by
  obtain ⟨hRN, hRP, hRM, hRT, hRZ, hRD, hRW, hRB, hRA, hRR, hRV, hRO, hRQ, hRC, hRF, hRS, hRX, hRY⟩ := hR
  exact ⟨hRN.co (by simp [agr, up, thr]) (by simp [agr, up, thr]),
    ⟨by simp [up, thr]; exact hRP.1, fun x hx => by
      by_cases c : x = h
      · subst c; simp [up]
      · simp [up, thr, c]; exact hRP.2 x hx⟩,
    hRM.co (by simp [agr, up, thr]) (by simp [agr, up, thr]),
    hRT.co (by simp [agr, up, thr]) (by simp [agr, up, thr]),
    hRZ.co (by simp [agr, up, thr]),
    hRD.co (by simp [agr, up, thr]),
    hRW.co (by simp [agr, up, thr]) (by simp [agr, up, thr]),
    hRB.co (by simp [agr, up, thr]),
    hRA.co (by simp [agr, up, thr]) (by simp [agr, up, thr]),
    hRR.co (by simp [agr, up, thr]) (by simp [agr, up, thr]),
    hRV.co (by simp [agr, up, thr]) (by simp [agr, up, thr]),
    hRO.co (by simp [agr, up, thr]) (by simp [agr, up, thr]),
    hRQ.co (by simp [agr, up, thr]),
    hRC.co (by simp [agr, up, thr]),
    hRF.co (by simp [agr, up, thr]) (by simp [agr, up, thr]),
    hRS.co (by simp [agr, up, thr]),
    hRX.co (by simp [agr, up, thr]),
    hRY.co (by simp [agr, up, thr])⟩
theorem pr_joinN {σ τ : SG} {nT nW f D k : Nat} (h : RN σ τ nT nW f D) : RN (up (up (up σ 8 k (σ 8 k + 1)) 9 k ((σ 25 0 + 30) - 1)) 27 0 (σ 27 0 + 6000)) (up (up (thr τ 0) 2 k ((thr τ 0 26 0 + 30) - 1)) 25 0 (thr τ 0 25 0 + 6000)) nT nW f D := by
  obtain ⟨h1, h2, h3, h4, h5, h6, h7, h8, h9, h10⟩ := h
  refine ⟨by simp [up]; exact h1, h2, h3, by simp [up, thr]; exact h4, by simp [up, thr]; exact h5, h6, by simp [up]; exact h7, by simp [up, thr]; exact h8, h9, ?_⟩
  simp [up, thr, h10]
theorem pr_joinM {σ τ : SG} {nT nW f D k : Nat} (h : RN σ τ nT nW f D) (hM : RM σ τ) : RM (up (up (up σ 8 k (σ 8 k + 1)) 9 k ((σ 25 0 + 30) - 1)) 27 0 (σ 27 0 + 6000)) (up (up (thr τ 0) 2 k ((thr τ 0 26 0 + 30) - 1)) 25 0 (thr τ 0 25 0 + 6000)) := by
  intro x hx
  obtain ⟨-, -, -, -, -, -, h7, h8, -⟩ := h
  by_cases c : x = k
  · subst c; simp [up, thr, h7, h8]
  · simp [up, thr, c]; exact hM x hx
theorem day30 (D : Nat) (hD : D ≤ 2000) : fBel ((nI D + 30) - 1) (nI D) = true ∧ fLeft ((nI D + 30) - 1) (nI D) = 30 := (by decide +kernel : ∀ D, D < 2001 → fBel ((nI D + 30) - 1) (nI D) = true ∧ fLeft ((nI D + 30) - 1) (nI D) = 30) D (by omega)
theorem pr_joinX {σ τ : SG} {nT nW f D k : Nat} (h : RN σ τ nT nW f D) (hX : RX σ nT f) (hb : fBel (σ 9 k) (σ 25 0) = false) : RX (up (up (up σ 8 k (σ 8 k + 1)) 9 k ((σ 25 0 + 30) - 1)) 27 0 (σ 27 0 + 6000)) nT f := by
  obtain ⟨-, -, -, -, -, -, h7, -, h9, -⟩ := h
  refine ⟨fun t a1 a2 a3 => ?_, fun t u a1 a2 a3 a4 => ?_⟩
  · simp only [up] at a3 ⊢
    obtain ⟨q, b1, b2, b3⟩ := hX.1 t a1 a2 (by simpa using a3)
    refine ⟨q, b1, by simpa using b2, ?_⟩
    by_cases c : q = k
    · subst c
      rw [hb] at b3; cases b3
    · simpa [c] using b3
  · have := hX.2 t u a1 a2 a3 a4
    simpa [up] using this
theorem itr_same {F F' : Nat → Int32 → Int32} : ∀ (n a : Nat) (x : Int32), (∀ i, a ≤ i → i < a + n → ∀ y, F' i y = F i y) → itr F' a n x = itr F a n x := fun n a x h => itr_co n a x h
theorem pr_joinW {σ : SG} {D k : Nat} (h7 : σ 25 0 = nI D) (h9 : D ≤ 2000) (hb : fBel (σ 9 k) (σ 25 0) = false) : fDw (up (up (up σ 8 k (σ 8 k + 1)) 9 k ((σ 25 0 + 30) - 1)) 27 0 (σ 27 0 + 6000)) = fDw σ := by
  unfold fDw
  refine itr_co _ _ _ (fun i _ _ y => ?_)
  unfold fDw1
  by_cases c : i = k
  · subst c
    have e : fEnded (σ 8 i + 1) ((σ 25 0 + 30) - 1) (σ 25 0) = fEnded (σ 8 i) (σ 9 i) (σ 25 0) := by
      unfold fEnded
      rw [show fLeft (σ 9 i) (σ 25 0) = 0 from by unfold fLeft; rw [hb]; rfl, h7, (day30 D h9).2, Int32.add_mul]
      show σ 8 i * 30 + 1 * 30 - 30 = σ 8 i * 30 - 0
      rw [Int32.one_mul, Int32.add_sub_cancel, Int32.sub_zero]
    simp [up]
    rw [e]
  · simp [up, c]
theorem pr_joinY {σ τ : SG} {nT nW f D k : Nat} (h : RN σ τ nT nW f D) (hY : RY σ f) (hk : k < 6) (hb : fBel (σ 9 k) (σ 25 0) = false) : RY (up (up (up σ 8 k (σ 8 k + 1)) 9 k ((σ 25 0 + 30) - 1)) 27 0 (σ 27 0 + 6000)) f := by
  obtain ⟨-, -, -, -, -, -, h7, -, h9, -⟩ := h
  exact hY.co2 (by simp [agr, up]) (fun i _ => by simp [up]) (pr_joinW h7 h9 hb)
theorem pr_join {σ τ : SG} {qs : Nat → List Nat} {nT nW f D N : Nat} {k : Nat} (hk : k < 6) (hb : fBel (σ 9 k) (σ 25 0) = false) (hR : RR0 σ qs nT nW f τ D N) : RR0 (up (up (up σ 8 k (σ 8 k + 1)) 9 k ((σ 25 0 + 30) - 1)) 27 0 (σ 27 0 + 6000)) qs nT nW f (up (up (thr τ 0) 2 k ((thr τ 0 26 0 + 30) - 1)) 25 0 (thr τ 0 25 0 + 6000)) D N := by
  obtain ⟨hRN, hRP, hRM, hRT, hRZ, hRD, hRW, hRB, hRA, hRR, hRV, hRO, hRQ, hRC, hRF, hRS, hRX, hRY⟩ := hR
  exact ⟨pr_joinN hRN,
    hRP.co (by simp [agr, up, thr]) (by simp [agr, up, thr]),
    pr_joinM hRN hRM,
    hRT.co (by simp [agr, up, thr]) (by simp [agr, up, thr]),
    hRZ.co (by simp [agr, up, thr]),
    hRD.co (by simp [agr, up, thr]),
    hRW.co (by simp [agr, up, thr]) (by simp [agr, up, thr]),
    hRB.co (by simp [agr, up, thr]),
    hRA.co (by simp [agr, up, thr]) (by simp [agr, up, thr]),
    hRR.co (by simp [agr, up, thr]) (by simp [agr, up, thr]),
    hRV.co (by simp [agr, up, thr]) (by simp [agr, up, thr]),
    hRO.co (by simp [agr, up, thr]) (by simp [agr, up, thr]),
    hRQ.co (by simp [agr, up, thr]),
    hRC.co (by simp [agr, up, thr]),
    hRF.co (by simp [agr, up, thr]) (by simp [agr, up, thr]),
    hRS.co (by simp [agr, up, thr]),
    pr_joinX hRN hRX hb,
    pr_joinY hRN hRY hk hb⟩
theorem pr_share {σ τ : SG} {qs : Nat → List Nat} {nT nW f D N : Nat} {u : Nat} {vv : Int32} (hR : RR0 σ qs nT nW f τ D N) : RR0 (up σ 23 u vv) qs nT nW f (up (thr τ 0) 22 u vv) D N := by
  obtain ⟨hRN, hRP, hRM, hRT, hRZ, hRD, hRW, hRB, hRA, hRR, hRV, hRO, hRQ, hRC, hRF, hRS, hRX, hRY⟩ := hR
  exact ⟨hRN.co (by simp [agr, up, thr]) (by simp [agr, up, thr]),
    hRP.co (by simp [agr, up, thr]) (by simp [agr, up, thr]),
    hRM.co (by simp [agr, up, thr]) (by simp [agr, up, thr]),
    hRT.co (by simp [agr, up, thr]) (by simp [agr, up, thr]),
    hRZ.co (by simp [agr, up, thr]),
    hRD.co (by simp [agr, up, thr]),
    fun x hx => by
      by_cases c : x = u
      · subst c; have := hRW x hx; simp [up, thr, this]
      · have := hRW x hx; simp [up, thr, c, this],
    hRB.co (by simp [agr, up, thr]),
    hRA.co (by simp [agr, up, thr]) (by simp [agr, up, thr]),
    hRR.co (by simp [agr, up, thr]) (by simp [agr, up, thr]),
    hRV.co (by simp [agr, up, thr]) (by simp [agr, up, thr]),
    hRO.co (by simp [agr, up, thr]) (by simp [agr, up, thr]),
    hRQ.co (by simp [agr, up, thr]),
    hRC.co (by simp [agr, up, thr]),
    hRF.co (by simp [agr, up, thr]) (by simp [agr, up, thr]),
    hRS.co (by simp [agr, up, thr]),
    hRX.co (by simp [agr, up, thr]),
    hRY.co (by simp [agr, up, thr])⟩
theorem pr_hang {σ τ : SG} {qs : Nat → List Nat} {nT nW f D N : Nat} {u r : Nat} (hu : u < nW) (hr : r < 12) (hR : RR0 σ qs nT nW f τ D N) : RR0 (up σ 19 u (nI r)) qs nT nW f (up (thr τ 0) 18 u (nI r)) D N := by
  obtain ⟨hRN, hRP, hRM, hRT, hRZ, hRD, hRW, hRB, hRA, hRR, hRV, hRO, hRQ, hRC, hRF, hRS, hRX, hRY⟩ := hR
  exact ⟨hRN.co (by simp [agr, up, thr]) (by simp [agr, up, thr]),
    hRP.co (by simp [agr, up, thr]) (by simp [agr, up, thr]),
    hRM.co (by simp [agr, up, thr]) (by simp [agr, up, thr]),
    hRT.co (by simp [agr, up, thr]) (by simp [agr, up, thr]),
    hRZ.co (by simp [agr, up, thr]),
    hRD.co (by simp [agr, up, thr]),
    fun x hx => by
      by_cases c : x = u
      · subst c; have := hRW x hx; simp [up, thr, this]
      · have := hRW x hx; simp [up, thr, c, this],
    fun x hx => by
      obtain ⟨q1, q2, q3⟩ := hRB x hx
      by_cases c : x = u
      · subst c; simp [up]; exact ⟨q1, ⟨r, hr, rfl⟩, q3⟩
      · simp [up, c]; exact ⟨q1, q2, q3⟩,
    hRA.co (by simp [agr, up, thr]) (by simp [agr, up, thr]),
    hRR.co (by simp [agr, up, thr]) (by simp [agr, up, thr]),
    hRV.co (by simp [agr, up, thr]) (by simp [agr, up, thr]),
    hRO.co (by simp [agr, up, thr]) (by simp [agr, up, thr]),
    hRQ.co (by simp [agr, up, thr]),
    hRC.co (by simp [agr, up, thr]),
    hRF.co (by simp [agr, up, thr]) (by simp [agr, up, thr]),
    hRS.co (by simp [agr, up, thr]),
    hRX.co (by simp [agr, up, thr]),
    hRY.co (by simp [agr, up, thr])⟩
theorem pr_lend {σ τ : SG} {qs : Nat → List Nat} {nT nW f D N : Nat} {u r fe : Nat} (hu : u < nW) (hr : r < 12) (hfe : fe ≤ 1000) (hR : RR0 σ qs nT nW f τ D N) : RR0 (up (up (up (up σ 20 u 1) 21 u (nI fe)) 22 u 0) 19 u (nI r)) qs nT nW f (up (up (up (up (thr τ 0) 19 u 1) 18 u (nI r)) 20 u (nI fe)) 21 u 0) D N := by
  obtain ⟨hRN, hRP, hRM, hRT, hRZ, hRD, hRW, hRB, hRA, hRR, hRV, hRO, hRQ, hRC, hRF, hRS, hRX, hRY⟩ := hR
  exact ⟨hRN.co (by simp [agr, up, thr]) (by simp [agr, up, thr]),
    hRP.co (by simp [agr, up, thr]) (by simp [agr, up, thr]),
    hRM.co (by simp [agr, up, thr]) (by simp [agr, up, thr]),
    hRT.co (by simp [agr, up, thr]) (by simp [agr, up, thr]),
    ⟨fun t ht => by simp [up, thr]; exact hRZ.1 t ht, fun w hw => by
      have c : ¬ w = u := by omega
      simp [up, thr, c]; exact hRZ.2 w hw⟩,
    hRD.co (by simp [agr, up, thr]),
    fun x hx => by
      by_cases c : x = u
      · subst c; have := hRW x hx; simp [up, thr, this]
      · have := hRW x hx; simp [up, thr, c, this],
    fun x hx => by
      obtain ⟨q1, q2, q3⟩ := hRB x hx
      by_cases c : x = u
      · subst c; simp [up]; exact ⟨q1, ⟨r, hr, rfl⟩, ⟨fe, hfe, rfl⟩⟩
      · simp [up, c]; exact ⟨q1, q2, q3⟩,
    hRA.co (by simp [agr, up, thr]) (by simp [agr, up, thr]),
    hRR.co (by simp [agr, up, thr]) (by simp [agr, up, thr]),
    hRV.co (by simp [agr, up, thr]) (by simp [agr, up, thr]),
    hRO.co (by simp [agr, up, thr]) (by simp [agr, up, thr]),
    hRQ.co (by simp [agr, up, thr]),
    hRC.co (by simp [agr, up, thr]),
    hRF.co (by simp [agr, up, thr]) (by simp [agr, up, thr]),
    hRS.co (by simp [agr, up, thr]),
    hRX.co (by simp [agr, up, thr]),
    hRY.co (by simp [agr, up, thr])⟩
theorem pr_bring {σ τ : SG} {qs : Nat → List Nat} {nT nW f D N : Nat} {u r : Nat} (hu : u < nW) (hr : r < 12) (hR : RR0 σ qs nT nW f τ D N) : RR0 (up (up σ 20 u 0) 19 u (nI r)) qs nT nW f (up (up (thr τ 0) 19 u 0) 18 u (nI r)) D N := by
  obtain ⟨hRN, hRP, hRM, hRT, hRZ, hRD, hRW, hRB, hRA, hRR, hRV, hRO, hRQ, hRC, hRF, hRS, hRX, hRY⟩ := hR
  exact ⟨hRN.co (by simp [agr, up, thr]) (by simp [agr, up, thr]),
    hRP.co (by simp [agr, up, thr]) (by simp [agr, up, thr]),
    hRM.co (by simp [agr, up, thr]) (by simp [agr, up, thr]),
    hRT.co (by simp [agr, up, thr]) (by simp [agr, up, thr]),
    ⟨fun t ht => by simp [up, thr]; exact hRZ.1 t ht, fun w hw => by
      have c : ¬ w = u := by omega
      simp [up, thr, c]; exact hRZ.2 w hw⟩,
    hRD.co (by simp [agr, up, thr]),
    fun x hx => by
      by_cases c : x = u
      · subst c; have := hRW x hx; simp [up, thr, this]
      · have := hRW x hx; simp [up, thr, c, this],
    fun x hx => by
      obtain ⟨q1, q2, q3⟩ := hRB x hx
      by_cases c : x = u
      · subst c; simp [up]; exact ⟨q1, ⟨r, hr, rfl⟩, q3⟩
      · simp [up, c]; exact ⟨q1, q2, q3⟩,
    hRA.co (by simp [agr, up, thr]) (by simp [agr, up, thr]),
    hRR.co (by simp [agr, up, thr]) (by simp [agr, up, thr]),
    hRV.co (by simp [agr, up, thr]) (by simp [agr, up, thr]),
    hRO.co (by simp [agr, up, thr]) (by simp [agr, up, thr]),
    hRQ.co (by simp [agr, up, thr]),
    hRC.co (by simp [agr, up, thr]),
    hRF.co (by simp [agr, up, thr]) (by simp [agr, up, thr]),
    hRS.co (by simp [agr, up, thr]),
    hRX.co (by simp [agr, up, thr]),
    hRY.co (by simp [agr, up, thr])⟩
theorem pr_addWork {σ τ : SG} {qs : Nat → List Nat} {nT nW f D N : Nat} {r : Nat} (hr : r < 12) (hn : nW < 12) (hR : RR0 σ qs nT nW f τ D N) : RR0 (fNewW σ nW r) qs nT (nW + 1) f (up (up (up (up (thr τ 0) 17 nW (nI (r / 3))) 18 nW (nI r)) 22 nW 20) 16 0 (nI (nW + 1))) D N := by
  obtain ⟨hRN, hRP, hRM, hRT, hRZ, hRD, hRW, hRB, hRA, hRR, hRV, hRO, hRQ, hRC, hRF, hRS, hRX, hRY⟩ := hR
  exact ⟨by
      obtain ⟨h1, h2, h3, h4, h5, h6, h7, h8, h9, h10⟩ := hRN
      exact ⟨by simp [up, fNewW]; exact h1, h2, h3, by simp [up, thr]; exact h4, by simp [up], by omega, by simp [up, fNewW]; exact h7, by simp [up, thr]; exact h8, h9, by simp [up, thr, fNewW]; exact h10⟩,
    hRP.co (by simp [agr, up, thr, fNewW]) (by simp [agr, up, thr, fNewW]),
    hRM.co (by simp [agr, up, thr, fNewW]) (by simp [agr, up, thr, fNewW]),
    hRT.co (by simp [agr, up, thr, fNewW]) (by simp [agr, up, thr, fNewW]),
    ⟨fun t ht => by simp [up, thr]; exact hRZ.1 t ht, fun w hw => by
      have c : ¬ w = nW := by omega
      simp [up, thr, c]; exact hRZ.2 w (by omega)⟩,
    hRD.co (by simp [agr, up, thr, fNewW]),
    fun x hx => by
      by_cases c : x = nW
      · subst c; have := hRZ.2 x (Nat.le_refl _); simp [up, thr, fNewW, this]
      · have := hRW x (by omega); simp [up, thr, fNewW, c, this],
    fun x hx => by
      by_cases c : x = nW
      · subst c; simp [up, fNewW]; exact ⟨⟨r / 3, by omega, rfl⟩, ⟨r, hr, rfl⟩, ⟨0, by omega, rfl⟩⟩
      · have := hRB x (by omega); simp [up, fNewW, c]; exact this,
    hRA.co (by simp [agr, up, thr, fNewW]) (by simp [agr, up, thr, fNewW]),
    hRR.co (by simp [agr, up, thr, fNewW]) (by simp [agr, up, thr, fNewW]),
    hRV.co (by simp [agr, up, thr, fNewW]) (by simp [agr, up, thr, fNewW]),
    hRO.co (by simp [agr, up, thr, fNewW]) (by simp [agr, up, thr, fNewW]),
    hRQ.co (by simp [agr, up, thr, fNewW]),
    hRC.co (by simp [agr, up, thr, fNewW]),
    hRF.co (by simp [agr, up, thr, fNewW]) (by simp [agr, up, thr, fNewW]),
    hRS.co (by simp [agr, up, thr, fNewW]),
    hRX.co (by simp [agr, up, thr, fNewW]),
    hRY.co (by simp [agr, up, thr, fNewW])⟩
