/-! rooms: caps, entering, going out: both sides -/
section ROOMS
variable {σ τ : SG} {qs : Nat → List Nat} {nT nW f D N r t c : Nat}
theorem RC.less {τ' : SG} (h : RC τ nT N) (b : agr [11, 12] τ τ') (h10 : ∀ u r', r' < 12 → τ' 10 u = 100 + nI r' → τ 10 u = 100 + nI r') : RC τ' nT N := by
  obtain ⟨K, h1, h2, h3⟩ := h
  refine ⟨K, h1, by rw [b.at (by simp)]; exact h2, fun u r' hu hr' e => ?_⟩
  rw [b.at (g := 11) (by simp)]
  exact h3 u r' hu hr' (h10 u r' hr' e)
theorem in_le : cntF (mIn τ (nI r)) 0 nT ≤ nT := cntF_le _ _ _
/-- behind letting in all stands again -/
theorem fin_let (H : RK σ qs nT nW f τ D) (hr : r < 12) (hc : c ≤ 1000) (h5 : σ 5 r = nI c) (hC : RC τ nT N) (hF : ∀ r' c', r' < 12 → r' ≠ r → c' ≤ 1000 → qs r' ≠ [] → σ 5 r' = nI c' → c' ≤ cntF (mIn τ (nI r')) 0 nT) {k : Nat} (hk : k = c - cntF (mIn τ (nI r)) 0 nT) :
    RR0 (fLet nW r k σ qs).1 (fLet nW r k σ qs).2 nT nW f (mLet nW nT r nT τ) D N := by
  obtain ⟨i1, i2, i3, i4⟩ := let_sim hr hc k nT σ qs τ H h5 hk (q_len H.2.2.2.2.2.2.2.2.2.2.1 hr)
  refine i1.all (hC.less (fun g hg i => mLet_ne (by simp at hg; omega) _ _) i4) (fun r' c' hr' hc' hq e5 => ?_)
  rw [fLet_ne (by decide)] at e5
  by_cases d : r' = r
  · subst d
    rw [nIe (by omega) (by omega) (e5.symm.trans h5)]
    exact i2 hq
  · rw [(i3 r' hr' d).2]
    rw [(i3 r' hr' d).1] at hq
    exact hF r' c' hr' d hc' hq e5
theorem pr_setCap {v9 : Nat} (H : RR0 σ qs nT nW f τ D N) (hr : r < 12) (hc : c ≤ 20) (h7 : σ 7 r = nI v9) (hv : v9 ≤ 100) :
    RR0 (fLet nW r (c - v9) (up σ 5 r (nI c)) qs).1 (fLet nW r (c - v9) (up σ 5 r (nI c)) qs).2 nT nW f (mLet nW nT r nT (up (thr τ 0) 14 r (nI c))) D N ∧ (fLet nW r (c - v9) (up σ 5 r (nI c)) qs).1 7 r = nI (cntF (mIn (mLet nW nT r nT (up (thr τ 0) 14 r (nI c))) (nI r)) 0 nT) := by
  obtain ⟨hC, hF⟩ := H.c
  obtain ⟨hN, hP, hM, hT, hZ, hD, ⟨hW, hB, hA, hY⟩, hR, hV, hO, hQ, hS, hX⟩ := H.k
  have b : ∀ gs, 14 ∉ gs ∧ 27 ∉ gs → agr gs τ (up (thr τ 0) 14 r (nI c)) := fun gs h => (show agr gs τ (thr τ 0) from agr_up h.2).tr (agr_up h.1)
  have hK : RK (up σ 5 r (nI c)) qs nT nW f (up (thr τ 0) 14 r (nI c)) D := by
    refine ⟨hN.co (agr_up (by decide)) (b _ (by decide)), hP.co (agr_up (by decide)) (b _ (by decide)), hM.co (agr_up (by decide)) (b _ (by decide)), hT.co (agr_up (by decide)) (b _ (by decide)), hZ.co (b _ (by decide)), hD.co (b _ (by decide)),
      ⟨hW.co (agr_up (by decide)) (b _ (by decide)), hB.co (agr_up (by decide)), hA.co (agr_up (by decide)) (b _ (by decide)), hY.co (agr_up (by decide))⟩, fun r' hr' => ?_, hV.co (agr_up (by decide)) (b _ (by decide)), hO.co (agr_up (by decide)) (b _ (by decide)), hQ.co (b _ (by decide)), hS.co (agr_up (by decide)), hX.co (agr_up (by decide))⟩
    obtain ⟨x1, x2, x3⟩ := hR r' hr'
    by_cases d : r' = r
    · subst d
      simp [up, thr, x2]
      exact ⟨c, hc, rfl⟩
    · simp [up, thr, d]
      exact ⟨x1, x2, x3⟩
  have h80 := hN.2.2.1
  have hin := in_le (τ := τ) (r := r) (nT := nT)
  have ev : v9 = cntF (mIn (up (thr τ 0) 14 r (nI c)) (nI r)) 0 nT := by
    rw [mIn.co (b _ (by decide))]
    exact nIe (by omega) (by omega) (h7.symm.trans (hV r hr))
  have F := fin_let hK hr (c := c) (by omega) up_s (hC.co (b _ (by decide))) (fun r' c' hr' hne hc' hq e5 => by
    rw [mIn.co (b _ (by decide))]
    rw [show up σ 5 r (nI c) 5 r' = σ 5 r' from by simp [up, hne]] at e5
    exact hF r' c' hr' hc' hq e5) (k := c - v9) (by rw [ev])
  exact ⟨F, F.k.2.2.2.2.2.2.2.2.1 r hr⟩
theorem qrem_er (t : Nat) : ∀ q, qrem t q = q.erase t
  | [] => rfl
  | x :: q => by
    rw [List.erase_cons]
    simp only [qrem, beq_iff_eq]
    rw [qrem_er t q]
/-- what stays when a ticket leaves its place -/
theorem leave_k (H : RK σ qs nT nW f τ D) {σ1 : SG} {qs1 : Nat → List Nat} (aS : ∀ gs, (7 ∉ gs ∧ 16 ∉ gs ∧ 17 ∉ gs) → agr gs σ σ1) (hV : RV σ1 (up (thr τ 0) 10 t (-1)) nT) (hO : RO σ1 (up (thr τ 0) 10 t (-1)) nT f) (hQ : RQ qs1 (up (thr τ 0) 10 t (-1)) nT) : RK σ1 qs1 nT nW f (up (thr τ 0) 10 t (-1)) D := by
  obtain ⟨hN, hP, hM, hT, hZ, hD, ⟨hW, hB, hA, hY⟩, hR, -, -, -, hS, hX⟩ := H
  have b : ∀ gs, 10 ∉ gs ∧ 27 ∉ gs → agr gs τ (up (thr τ 0) 10 t (-1)) := fun gs h => (show agr gs τ (thr τ 0) from agr_up h.2).tr (agr_up h.1)
  exact ⟨hN.co (aS _ (by decide)) (b _ (by decide)), hP.co (aS _ (by decide)) (b _ (by decide)), hM.co (aS _ (by decide)) (b _ (by decide)), hT.co (aS _ (by decide)) (b _ (by decide)), hZ.co (b _ (by decide)), hD.co (b _ (by decide)),
      ⟨hW.co (aS _ (by decide)) (b _ (by decide)), hB.co (aS _ (by decide)), hA.co (aS _ (by decide)) (b _ (by decide)), hY.co (aS _ (by decide))⟩, hR.co (aS _ (by decide)) (b _ (by decide)), hV, hO, hQ, hS.co (aS _ (by decide)), hX.co (aS _ (by decide))⟩
theorem n10l (u : Nat) : up (thr τ 0) 10 t (-1) 10 u = if u = t then -1 else τ 10 u := by simp [up, thr]
theorem less10 {u r' : Nat} (hr' : r' < 12) (h : up (thr τ 0) 10 t (-1) 10 u = 100 + nI r') : τ 10 u = 100 + nI r' := by
  rw [n10l] at h
  by_cases c : u = t
  · rw [if_pos c] at h; exact absurd h (q_m1 r' hr')
  · rw [if_neg c] at h; exact h
/-- out of a queue -/
theorem pr_outQ {v9 : Nat} (H : RR0 σ qs nT nW f τ D N) (ht : t < nT) (hr : r < 12) (e16 : σ 16 t = nI r) (e17 : ¬ σ 17 t = 0) (h5 : σ 5 r = nI c) (hc : c ≤ 1000) (h7 : σ 7 r = nI v9) (hv : v9 ≤ 1000) :
    τ 10 t = 100 + nI r ∧ RR0 (fLet nW r (c - v9) (up (up σ 16 t (-1)) 17 t 0) (sq qs r (qrem t (qs r)))).1 (fLet nW r (c - v9) (up (up σ 16 t (-1)) 17 t 0) (sq qs r (qrem t (qs r)))).2 nT nW f (mLet nW nT r nT (up (thr τ 0) 10 t (-1))) D N := by
  obtain ⟨hC, hF⟩ := H.c
  have hK := H.k
  obtain ⟨hN, -, -, -, -, -, -, -, hV, hO, hQ, -, -⟩ := hK
  have e10 : τ 10 t = 100 + nI r := by
    rcases (hO t ht).1 with ⟨-, y, -⟩ | ⟨r', hr', y1, ⟨y, -⟩ | ⟨-, y2⟩⟩
    · exact absurd y e17
    · exact absurd y e17
    · rw [y2, nIe (by omega) (by omega) (y1.symm.trans e16)]
  have cin : ∀ r', r' < 12 → cntF (mIn (up (thr τ 0) 10 t (-1)) (nI r')) 0 nT = cntF (mIn τ (nI r')) 0 nT := fun r' hr' => by
    refine cnt_co _ _ (fun u _ _ => ?_)
    simp only [mIn, n10l]
    by_cases d : u = t
    · subst d
      have a1 := n_m1 r' hr'
      have a2 : ¬ (100 : Int32) + nI r = nI r' := fun z => n_q hr' hr z.symm
      simp [e10, a1, a2]
    · simp [d]
  have hK1 := leave_k (t := t) H.k (σ1 := up (up σ 16 t (-1)) 17 t 0) (qs1 := sq qs r (qrem t (qs r))) (fun gs h => (agr_up h.2.1).tr (agr_up h.2.2)) (fun r' hr' => by rw [cin r' hr']; simp [up]; exact hV r' hr') (fun u hu => by
    unfold plc
    rw [n10l]
    by_cases d : u = t
    · rw [if_pos d, d]; exact ⟨Or.inl ⟨by simp [up], by simp [up], rfl⟩, fun _ => rfl⟩
    · rw [if_neg d]; simp [up, d]; exact hO u hu) (fun r' hr' => by
    obtain ⟨p1, p2, p3⟩ := hQ r' hr'
    have pa : ∀ x y, mAhead (up (thr τ 0) 10 t (-1)) x y = mAhead τ x y := fun x y => mAhead.co (by simp [agr, up, thr])
    by_cases d : r' = r
    · subst d
      rw [sq_s, qrem_er]
      refine ⟨p1.erase t, fun u => ?_, (p3.sublist List.erase_sublist).imp (fun {x y} z => by rw [pa]; exact z)⟩
      rw [p1.mem_erase_iff, p2 u, n10l]
      by_cases du : u = t
      · rw [if_pos du]
        exact ⟨fun z => absurd du z.1, fun z => absurd z.2 (q_m1 r' hr')⟩
      · rw [if_neg du]
        exact ⟨fun z => z.2, fun z => ⟨du, z⟩⟩
    · rw [sq_n d]
      refine ⟨p1, fun u => ?_, p3.imp (fun {x y} z => by rw [pa]; exact z)⟩
      rw [p2 u, n10l]
      by_cases du : u = t
      · rw [if_pos du, du, e10]
        exact ⟨fun z => absurd (q_inj hr hr' z.2).symm d, fun z => absurd z.2 (q_m1 r' hr')⟩
      · rw [if_neg du])
  have h80 := hN.2.2.1
  have hin := in_le (τ := τ) (r := r) (nT := nT)
  have ev : v9 = cntF (mIn (up (thr τ 0) 10 t (-1)) (nI r)) 0 nT := by
    rw [cin r hr]
    exact nIe (by omega) (by omega) (h7.symm.trans (hV r hr))
  exact ⟨e10, fin_let hK1 hr hc (by simp [up]; exact h5) (hC.less (by simp [agr, up, thr]) (fun u r' hr' h => less10 hr' h)) (fun r' c' hr' hne hc' hq e5 => by
    rw [cin r' hr']
    rw [sq_n hne] at hq
    exact hF r' c' hr' hc' hq (by simpa [up] using e5)) (by rw [ev])⟩
/-- out of a room -/
theorem pr_outR {v9 : Nat} (H : RR0 σ qs nT nW f τ D N) (ht : t < nT) (hr : r < 12) (e16 : σ 16 t = nI r) (e17 : σ 17 t = 0) (h5 : σ 5 r = nI c) (hc : c ≤ 1000) (h7 : σ 7 r = nI v9) (hv : v9 ≤ 1000) :
    τ 10 t = nI r ∧ v9 ≠ 0 ∧ RR0 (fLet nW r (c - (v9 - 1)) (up (up (up σ 7 r (σ 7 r - 1)) 16 t (-1)) 17 t 0) qs).1 (fLet nW r (c - (v9 - 1)) (up (up (up σ 7 r (σ 7 r - 1)) 16 t (-1)) 17 t 0) qs).2 nT nW f (mLet nW nT r nT (up (thr τ 0) 10 t (-1))) D N := by
  obtain ⟨hC, hF⟩ := H.c
  have hK := H.k
  obtain ⟨hN, -, -, -, -, -, -, -, hV, hO, hQ, -, -⟩ := hK
  have e10 : τ 10 t = nI r := by
    rcases (hO t ht).1 with ⟨y, -, -⟩ | ⟨r', hr', y1, ⟨-, y2⟩ | ⟨y, -⟩⟩
    · exact absurd (y.symm.trans e16) (n_m1 r hr)
    · rw [y2, nIe (by omega) (by omega) (y1.symm.trans e16)]
    · exact absurd (e17.symm.trans y) (by decide)
  have cin : ∀ r', r' < 12 → r' ≠ r → cntF (mIn (up (thr τ 0) 10 t (-1)) (nI r')) 0 nT = cntF (mIn τ (nI r')) 0 nT := fun r' hr' hne => by
    refine cnt_co _ _ (fun u _ _ => ?_)
    simp only [mIn, n10l]
    by_cases d : u = t
    · subst d
      have a1 := n_m1 r' hr'
      have a2 : ¬ nI r = nI r' := fun z => hne (nIe (by omega) (by omega) z.symm)
      simp [e10, a1, a2]
    · simp [d]
  have cr : cntF (mIn τ (nI r)) 0 nT = cntF (mIn (up (thr τ 0) 10 t (-1)) (nI r)) 0 nT + 1 := by
    refine cnt_flip (t := t) nT 0 (Nat.zero_le _) (by omega) ?_ ?_ (fun u hu => ?_)
    · have a1 := n_m1 r hr
      simp [mIn, n10l, a1]
    · simp [mIn, e10]
    · simp [mIn, n10l, hu]
  have h80 := hN.2.2.1
  have hin := in_le (τ := τ) (r := r) (nT := nT)
  have ev : v9 = cntF (mIn τ (nI r)) 0 nT := nIe (by omega) (by omega) (h7.symm.trans (hV r hr))
  obtain ⟨w, hw⟩ : ∃ w, v9 = w + 1 := ⟨v9 - 1, by omega⟩
  have hK1 := leave_k (t := t) H.k (σ1 := up (up (up σ 7 r (σ 7 r - 1)) 16 t (-1)) 17 t 0) (qs1 := qs) (fun gs h => ((agr_up h.1).tr (agr_up h.2.1)).tr (agr_up h.2.2)) (fun r' hr' => by
    by_cases d : r' = r
    · subst d
      rw [show cntF (mIn (up (thr τ 0) 10 t (-1)) (nI r')) 0 nT = w by omega]
      simp [up]
      rw [h7, hw, nI_m1]
    · rw [cin r' hr' d]; simp [up, d]; exact hV r' hr') (fun u hu => by
    unfold plc
    rw [n10l]
    by_cases d : u = t
    · rw [if_pos d, d]; exact ⟨Or.inl ⟨by simp [up], by simp [up], rfl⟩, fun _ => rfl⟩
    · rw [if_neg d]; simp [up, d]; exact hO u hu) (fun r' hr' => by
    obtain ⟨p1, p2, p3⟩ := hQ r' hr'
    have pa : ∀ x y, mAhead (up (thr τ 0) 10 t (-1)) x y = mAhead τ x y := fun x y => mAhead.co (by simp [agr, up, thr])
    refine ⟨p1, fun u => ?_, p3.imp (fun {x y} z => by rw [pa]; exact z)⟩
    rw [p2 u, n10l]
    by_cases du : u = t
    · rw [if_pos du, du, e10]
      exact ⟨fun z => absurd z.2 (n_q hr hr'), fun z => absurd z.2 (q_m1 r' hr')⟩
    · rw [if_neg du])
  exact ⟨e10, by omega, fin_let hK1 hr hc (by simp [up]; exact h5) (hC.less (by simp [agr, up, thr]) (fun u r' hr' h => less10 hr' h)) (fun r' c' hr' hne hc' hq e5 => by
    rw [cin r' hr' hne]
    exact hF r' c' hr' hc' hq (by simpa [up] using e5)) (by omega)⟩
end ROOMS
