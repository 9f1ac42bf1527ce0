/-! who is let in: both sides -/
def RK (σ : SG) (qs : Nat → List Nat) (nT nW f : Nat) (τ : SG) (D : Nat) : Prop :=
  RN σ τ nT nW f D ∧ RP σ τ ∧ RM σ τ ∧ RT σ τ nT ∧ RZ τ nT nW ∧ RD τ nT f D ∧ RVW σ τ nW f ∧ RR σ τ ∧ RV σ τ nT ∧ RO σ τ nT f ∧ RQ qs τ nT ∧ RS σ nT ∧ RX σ nT f
theorem q_inj {a b : Nat} (ha : a < 12) (hb : b < 12) (h : (100 : Int32) + nI a = 100 + nI b) : a = b := (by decide +kernel : ∀ a, a < 12 → ∀ b, b < 12 → (100 : Int32) + nI a = 100 + nI b → a = b) a ha b hb h
theorem n_q {a b : Nat} (ha : a < 12) (hb : b < 12) : ¬ nI a = 100 + nI b := (by decide +kernel : ∀ a, a < 12 → ∀ b, b < 12 → ¬ nI a = 100 + nI b) a ha b hb
theorem cnt_flip {p q : Nat → Bool} {t : Nat} : ∀ (n a : Nat), a ≤ t → t < a + n → p t = false → q t = true → (∀ u, u ≠ t → p u = q u) → cntF q a n = cntF p a n + 1
  | 0, a, h1, h2, _, _, _ => by omega
  | n + 1, a, h1, h2, hp, hq, h => by
    simp only [cntF]
    by_cases c : a = t
    · subst c
      rw [hp, hq, cnt_co (p := q) (q := p) n (a + 1) (fun i h1 _ => (h i (by omega)).symm)]
      simp; omega
    · rw [cnt_flip n (a + 1) (by omega) (by omega) hp hq h, h a c]
      omega
section LETS
variable {σ τ : SG} {qs : Nat → List Nat} {nT nW f D N r t : Nat}
theorem RR0.k (H : RR0 σ qs nT nW f τ D N) : RK σ qs nT nW f τ D := by
  obtain ⟨hRN, hRP, hRM, hRT, hRZ, hRD, hRW, hRB, hRA, hRR, hRV, hRO, hRQ, hRC, hRF, hRS, hRX, hRY⟩ := H
  exact ⟨hRN, hRP, hRM, hRT, hRZ, hRD, ⟨hRW, hRB, hRA, hRY⟩, hRR, hRV, hRO, hRQ, hRS, hRX⟩
theorem RR0.c (H : RR0 σ qs nT nW f τ D N) : RC τ nT N ∧ RF σ qs τ nT := by
  obtain ⟨hRN, hRP, hRM, hRT, hRZ, hRD, hRW, hRB, hRA, hRR, hRV, hRO, hRQ, hRC, hRF, hRS, hRX, hRY⟩ := H
  exact ⟨hRC, hRF⟩
theorem RK.all (H : RK σ qs nT nW f τ D) (hRC : RC τ nT N) (hRF : RF σ qs τ nT) : RR0 σ qs nT nW f τ D N := by
  obtain ⟨hRN, hRP, hRM, hRT, hRZ, hRD, ⟨hRW, hRB, hRA, hRY⟩, hRR, hRV, hRO, hRQ, hRS, hRX⟩ := H
  exact ⟨hRN, hRP, hRM, hRT, hRZ, hRD, hRW, hRB, hRA, hRR, hRV, hRO, hRQ, hRC, hRF, hRS, hRX, hRY⟩
theorem see_step (H : RK σ qs nT nW f τ D) (hr : r < 12) {q : List Nat} (hq : qs r = t :: q) :
    RK (fShow nW t r (up (up σ 17 t 0) 7 r (σ 7 r + 1))) (sq qs r q) nT nW f (mSee nW t r τ) D ∧ cntF (mIn (mSee nW t r τ) (nI r)) 0 nT = cntF (mIn τ (nI r)) 0 nT + 1 ∧
    (∀ r', r' < 12 → r' ≠ r → cntF (mIn (mSee nW t r τ) (nI r')) 0 nT = cntF (mIn τ (nI r')) 0 nT) ∧ ∀ u r', r' < 12 → mSee nW t r τ 10 u = 100 + nI r' → τ 10 u = 100 + nI r' := by
  obtain ⟨hN, hP, hM, hT, hZ, hD, hV4, hR, hV, hO, hQ, hS, hX⟩ := H
  obtain ⟨q1, q2, q3⟩ := hQ r hr
  have hm : t ∈ qs r := by rw [hq]; exact List.mem_cons_self
  obtain ⟨ht, e10⟩ := (q2 t).mp hm
  have hf : f ≤ t := Nat.le_of_not_lt (fun z => absurd ((hO t ht).2 z) (by rw [e10]; exact fun y => q_m1 r hr y.symm))
  have e16 : σ 16 t = nI r := by
    rcases (hO t ht).1 with ⟨-, -, y⟩ | ⟨r', hr', y1, ⟨-, y2⟩ | ⟨-, y2⟩⟩
    · rw [e10] at y; exact absurd y.symm (q_m1 r hr)
    · rw [e10] at y2; exact absurd y2.symm (n_q hr' hr)
    · rw [e10] at y2; rw [y1, q_inj hr hr' y2]
  obtain ⟨σ1, h1⟩ : ∃ x, x = up (up σ 17 t 0) 7 r (σ 7 r + 1) := ⟨_, rfl⟩
  rw [← h1]
  have b : ∀ gs, (7 ∉ gs ∧ 17 ∉ gs) → agr gs σ σ1 := fun gs h => h1 ▸ (agr_up h.2).tr (agr_up h.1)
  obtain ⟨g1, g2, g3⟩ := show_see (σ := σ1) (hT.co (b _ (by decide)) agr.rf) (hS.co (b _ (by decide))) (nW := nW) (f := f) (r := r) (t := t) (by
    obtain ⟨v1, v2, v3, v4⟩ := hV4
    exact ⟨v1.co (b _ (by decide)) agr.rf, v2.co (b _ (by decide)), v3.co (b _ (by decide)) agr.rf, v4.co (b _ (by decide))⟩) ht hf hr
  have aS : ∀ gs, (∀ g ∈ gs, g ≠ 1 ∧ g ≠ 2 ∧ g ≠ 22 ∧ g ≠ 24 ∧ g ≠ 15) → agr gs σ1 (fShow nW t r σ1) := fun gs h g hg i => fShow_ne (h g hg)
  have aT : ∀ gs, (∀ g ∈ gs, g ≠ 10 ∧ g ≠ 13 ∧ g ≠ 21 ∧ g ≠ 23 ∧ g ≠ 24) → agr gs τ (mSee nW t r τ) := fun gs h g hg i => mSee_ne (h g hg)
  have n10 : ∀ u, mSee nW t r τ 10 u = if u = t then nI r else τ 10 u := fun u => by rw [mSee_10]; simp [up]
  have n16 : ∀ u, fShow nW t r σ1 16 u = σ 16 u := fun u => by rw [fShow_ne (by decide), h1]; simp [up]
  have n17 : ∀ u, fShow nW t r σ1 17 u = if u = t then 0 else σ 17 u := fun u => by rw [fShow_ne (by decide), h1]; simp [up]
  have n7 : ∀ u, fShow nW t r σ1 7 u = if u = r then σ 7 r + 1 else σ 7 u := fun u => by rw [fShow_ne (by decide), h1]; simp [up]
  have c1 : cntF (mIn (mSee nW t r τ) (nI r)) 0 nT = cntF (mIn τ (nI r)) 0 nT + 1 := by
    refine cnt_flip (t := t) nT 0 (Nat.zero_le _) (by omega) ?_ ?_ (fun u hu => ?_)
    · simp only [mIn, e10, decide_eq_false_iff_not]
      exact fun z => n_q hr hr z.symm
    · simp [mIn, n10]
    · simp [mIn, n10, hu]
  have c2 : ∀ r', r' < 12 → r' ≠ r → cntF (mIn (mSee nW t r τ) (nI r')) 0 nT = cntF (mIn τ (nI r')) 0 nT := fun r' hr' hne => by
    refine cnt_co _ _ (fun u _ _ => ?_)
    simp only [mIn, n10]
    by_cases c : u = t
    · subst c
      have a1 : ¬ nI r = nI r' := fun z => hne (nIe (by omega) (by omega) z.symm)
      have a2 : ¬ (100 : Int32) + nI r = nI r' := fun z => n_q hr' hr z.symm
      simp [e10, a1, a2]
    · simp [c]
  refine ⟨⟨?_, ?_, ?_, ?_, ?_, ?_, g1, ?_, ?_, ?_, ?_, ?_, ?_⟩, c1, c2, fun u r' hr' h => ?_⟩
  · exact (hN.co (b _ (by decide)) agr.rf).co (aS _ (by decide)) (aT _ (by decide))
  · exact (hP.co (b _ (by decide)) agr.rf).co (aS _ (by decide)) (aT _ (by decide))
  · exact (hM.co (b _ (by decide)) agr.rf).co (aS _ (by decide)) (aT _ (by decide))
  · intro u hu
    have e : RT σ1 τ nT := hT.co (b _ (by decide)) agr.rf
    obtain ⟨x1, x2, x3, x4, x5, x6⟩ := e u hu
    refine ⟨?_, ?_, ?_, ?_, ?_, ?_⟩
    · rw [fShow_ne (by decide), mSee_ne (by decide)]; exact x1
    · rw [fShow_ne (by decide), mSee_ne (by decide)]; exact x2
    · rw [fShow_ne (by decide), mSee_ne (by decide)]; exact x3
    · rw [fShow_ne (by decide), mSee_ne (by decide)]; exact x4
    · rw [fShow_ne (by decide), mSee_ne (by decide)]; exact x5
    · by_cases c : u = t
      · rw [c]; exact g2.1.symm
      · rw [(g3 u c).1, (g3 u c).2]; exact x6
  · refine ⟨fun u hu => ⟨?_, ?_⟩, fun w hw => ⟨?_, ?_, ?_, ?_⟩⟩
    · rw [mSee_ne (by decide)]; exact (hZ.1 u hu).1
    · rw [(g3 u (by omega)).2]; exact (hZ.1 u hu).2
    · rw [mSee_ne (by decide)]; exact (hZ.2 w hw).1
    · rw [mSee_ne (by decide)]; exact (hZ.2 w hw).2.1
    · rw [see_far hw (Or.inl rfl)]; exact (hZ.2 w hw).2.2.1
    · rw [see_far hw (Or.inr rfl)]; exact (hZ.2 w hw).2.2.2
  · exact hD.co (aT _ (by decide))
  · exact (hR.co (b _ (by decide)) agr.rf).co (aS _ (by decide)) (aT _ (by decide))
  · intro r' hr'
    rw [n7]
    by_cases c : r' = r
    · rw [if_pos c, c, c1, ← nI_1, ← hV r hr]
    · rw [if_neg c, c2 r' hr' c]; exact hV r' hr'
  · intro u hu
    unfold plc
    rw [n16, n17, n10]
    by_cases c : u = t
    · rw [if_pos c, if_pos c, c]
      exact ⟨Or.inr ⟨r, hr, e16, Or.inl ⟨rfl, rfl⟩⟩, fun z => by omega⟩
    · rw [if_neg c, if_neg c]
      exact hO u hu
  · intro r' hr'
    obtain ⟨p1, p2, p3⟩ := hQ r' hr'
    have pa : ∀ x y, mAhead (mSee nW t r τ) x y = mAhead τ x y := fun x y => mAhead.co (aT _ (by decide))
    by_cases c : r' = r
    · subst c
      rw [sq_s]
      rw [hq] at p1 p3
      obtain ⟨d1, d2⟩ := List.nodup_cons.mp p1
      refine ⟨d2, fun u => ?_, (List.pairwise_cons.mp p3).2.imp (fun {x y} z => by rw [pa]; exact z)⟩
      rw [n10]
      by_cases cu : u = t
      · rw [if_pos cu]
        exact ⟨fun z => absurd (cu ▸ z) d1, fun z => absurd z.2 (n_q hr' hr')⟩
      · rw [if_neg cu, ← p2 u, hq]
        simp [cu]
    · rw [sq_n c]
      refine ⟨p1, fun u => ?_, p3.imp (fun {x y} z => by rw [pa]; exact z)⟩
      rw [n10]
      by_cases cu : u = t
      · rw [if_pos cu, p2 u, cu]
        exact ⟨fun z => absurd (q_inj hr hr' (e10.symm.trans z.2)).symm c, fun z => absurd z.2 (n_q hr hr')⟩
      · rw [if_neg cu]; exact p2 u
  · intro u hu
    obtain ⟨x1, x2⟩ := (hS.co (b _ (by decide)) : RS σ1 nT) u hu
    refine ⟨?_, ?_⟩
    · rw [fShow_ne (by decide), fShow_ne (by decide)]; exact x1
    · by_cases c : u = t
      · rw [c]; exact g2.2
      · rw [(g3 u c).1]; exact x2
  · exact (hX.co (b _ (by decide))).co (aS _ (by decide))
  · rw [n10] at h
    by_cases c : u = t
    · rw [if_pos c] at h
      exact absurd h (n_q hr hr')
    · rw [if_neg c] at h
      exact h
/-- the queue of a room with k free places -/
theorem let_sim (hr : r < 12) {c : Nat} (hc : c ≤ 1000) : ∀ (k K : Nat) (σ : SG) (qs : Nat → List Nat) (τ : SG), RK σ qs nT nW f τ D → σ 5 r = nI c → k = c - cntF (mIn τ (nI r)) 0 nT → (qs r).length ≤ K →
    RK (fLet nW r k σ qs).1 (fLet nW r k σ qs).2 nT nW f (mLet nW nT r K τ) D ∧ ((fLet nW r k σ qs).2 r ≠ [] → c ≤ cntF (mIn (mLet nW nT r K τ) (nI r)) 0 nT) ∧
    (∀ r', r' < 12 → r' ≠ r → (fLet nW r k σ qs).2 r' = qs r' ∧ cntF (mIn (mLet nW nT r K τ) (nI r')) 0 nT = cntF (mIn τ (nI r')) 0 nT) ∧ ∀ u r', r' < 12 → mLet nW nT r K τ 10 u = 100 + nI r' → τ 10 u = 100 + nI r'
  | 0, K, σ, qs, τ, H, h5, hk, hK => by
    have hn : cntF (mIn τ (nI r)) 0 nT ≤ nT := cntF_le _ _ _
    have h80 : nT ≤ 80 := H.1.2.2.1
    rw [mLet_end (fun z => by
      have e14 : τ 14 r = nI c := (H.2.2.2.2.2.2.2.1 r hr).1.trans h5
      have z2 := z.2
      rw [e14] at z2
      have := (nI_ltI (by omega) (by omega)).mp z2
      omega)]
    exact ⟨H, fun _ => by show c ≤ _; omega, fun _ _ _ => ⟨rfl, rfl⟩, fun _ _ _ h => h⟩
  | k + 1, K, σ, qs, τ, H, h5, hk, hK => by
    have hn : cntF (mIn τ (nI r)) 0 nT ≤ nT := cntF_le _ _ _
    have h80 : nT ≤ 80 := H.1.2.2.1
    have hQ : RQ qs τ nT := H.2.2.2.2.2.2.2.2.2.2.1
    cases hq : qs r with
    | nil =>
      rw [fLet_nil hq, mLet_end (fun z => z.1 (mQ_no hQ h80 hr (fun j hj => by rw [hq] at hj; exact absurd hj (Nat.not_lt_zero j))))]
      exact ⟨H, fun z => absurd hq z, fun _ _ _ => ⟨rfl, rfl⟩, fun _ _ _ h => h⟩
    | cons t q =>
      have h0 : (qs r)[0]? = some t := by rw [hq]; rfl
      have eQ := mQ_at hQ h80 hr h0
      have ht : t < nT := ((hQ r hr).2.1 t |>.mp (by rw [hq]; exact List.mem_cons_self)).1
      obtain ⟨K', rfl⟩ : ∃ K', K = K' + 1 := ⟨K - 1, by rw [hq] at hK; simp at hK; omega⟩
      rw [fLet_cons hq, mLet_go ⟨by rw [show (0 : Int32) = nI 0 from rfl, eQ]; exact fun z => (by decide +kernel : ∀ t, t < 80 → ¬ nI t = -1) t (by omega) z, by
        rw [(H.2.2.2.2.2.2.2.1 r hr).1, h5]
        exact (nI_ltI (by omega) (by omega)).mpr (by omega)⟩ eQ (by omega)]
      obtain ⟨s1, s2, s3, s4⟩ := see_step H hr hq
      obtain ⟨i1, i2, i3, i4⟩ := let_sim hr hc k K' _ _ _ s1 (by rw [fShow_ne (by decide)]; simp [up]; exact h5) (by rw [s2]; omega) (by rw [sq_s]; rw [hq] at hK; simp at hK; omega)
      refine ⟨i1, i2, fun r' hr' hne => ?_, fun u r' hr' h => s4 u r' hr' (i4 u r' hr' h)⟩
      obtain ⟨j1, j2⟩ := i3 r' hr' hne
      exact ⟨j1.trans (sq_n hne), j2.trans (s3 r' hr' hne)⟩
end LETS
