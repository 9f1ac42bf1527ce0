/-! a day ends: both sides -/
theorem cnt_add {p : Nat → Bool} : ∀ (m n a : Nat), cntF p a (m + n) = cntF p a m + cntF p (a + m) n
  | 0, n, a => by rw [Nat.zero_add, Nat.add_zero]; exact (Nat.zero_add _).symm
  | m + 1, n, a => by
    rw [show m + 1 + n = (m + n) + 1 by omega]
    simp only [cntF]
    rw [cnt_add m n (a + 1), show a + 1 + m = a + (m + 1) by omega]
    omega
section DAY
variable {σ τ : SG} {qs : Nat → List Nat} {nT nW f D N r : Nat}
theorem clr_at (u : Nat) : (mClear τ nT r).1 10 u = if u < nT ∧ mOut τ r u = true then -1 else τ 10 u := by
  unfold mClear
  rw [clr_10]
  simp
theorem clears : ∀ (n a : Nat) (σ : SG) (qs : Nat → List Nat) (τ : SG), a + n = 12 → RK σ qs nT nW f τ D → (∀ r, r < a → ∀ u, u < nT → ¬ mOut τ r u = true) →
    ∃ qs', RK (itr (fun r => fSend f nT r) a n σ) qs' nT nW f (itr (mClrR nT) a n τ) D ∧ ∀ r, r < 12 → ∀ u, u < nT → ¬ mOut (itr (mClrR nT) a n τ) r u = true
  | 0, a, σ, qs, τ, h, H, ho => ⟨qs, H, fun r hr => ho r (by omega)⟩
  | n + 1, a, σ, qs, τ, h, H, ho => by
    obtain ⟨c1, -, -, -⟩ := clear_sim H (r := a) (by omega)
    refine clears n (a + 1) _ _ _ (by omega) c1 (fun r hr u hu hm => ?_)
    have hm' : mOut (mClear τ nT a).1 r u = true := hm
    unfold mOut at hm'
    rw [clr_at] at hm'
    by_cases d : u < nT ∧ mOut τ a u = true
    · rw [if_pos d] at hm'
      have a1 := n_m1 r (by omega)
      have a2 := q_m1 r (by omega)
      simp [a1, a2] at hm'
    · rw [if_neg d] at hm'
      by_cases c : r = a
      · subst c
        exact d ⟨hu, hm'⟩
      · exact ho r (by omega) u hu hm'
theorem pr_endDay (H : RR0 σ qs nT nW f τ D N) (hD1 : D + 1 ≤ 2000) : RR0 (fEnd f nT σ) (fun j => if j < 12 then [] else qs j) nT nW nT (mEnd nT τ) (D + 1) N := by
  obtain ⟨hC, -⟩ := H.c
  obtain ⟨qs1, K1, out⟩ := clears 12 0 σ qs τ rfl H.k (fun r hr => absurd hr (Nat.not_lt_zero r))
  obtain ⟨σ1, e1⟩ : ∃ x, x = itr (fun r => fSend f nT r) 0 12 σ := ⟨_, rfl⟩
  obtain ⟨τ1, t1⟩ : ∃ x, x = itr (mClrR nT) 0 12 τ := ⟨_, rfl⟩
  rw [← e1, ← t1] at K1
  rw [← t1] at out
  have c12 : τ1 12 0 = τ 12 0 := by rw [t1]; exact mEnd1_ne (by decide)
  obtain ⟨hN, hP, hM, hT, hZ, hD, ⟨hW, hB, hA, hY⟩, hR, hV, hO, hQ, hS, hX⟩ := K1
  have s2 := tick_sim hN hD hT hS hA
  obtain ⟨σ2, e2⟩ : ∃ x, x = itr fShT f (nT - f) σ1 := ⟨_, rfl⟩
  obtain ⟨τ2, t2⟩ : ∃ x, x = itr mShT 0 nT τ1 := ⟨_, rfl⟩
  rw [← e2, ← t2] at s2
  have s3 := memb_new hN hM hD hT hS hX 6 0 σ2 τ2 (by decide) s2
  obtain ⟨σ3, e3⟩ : ∃ x, x = itr (fShM f nT) 0 6 σ2 := ⟨_, rfl⟩
  obtain ⟨τ3, t3⟩ : ∃ x, x = itr (mShM nT) 0 6 τ2 := ⟨_, rfl⟩
  rw [← e3, ← t3] at s3
  have eS : fEnd f nT σ = up (up σ3 26 0 (nI nT)) 25 0 (σ3 25 0 + 1) := by
    unfold fEnd fEnd2
    rw [← e1, ← e2, ← e3]
  have eT : mEnd nT τ = up τ3 26 0 (τ3 26 0 + 1) := by
    unfold mEnd mEnd3 mEnd2 mEnd1
    rw [← t1, ← t2, ← t3]
  obtain ⟨σ', eS'⟩ : ∃ x, x = fEnd f nT σ := ⟨_, rfl⟩
  obtain ⟨τ', eT'⟩ : ∃ x, x = mEnd nT τ := ⟨_, rfl⟩
  rw [← eS', ← eT']
  rw [← eS'] at eS
  rw [← eT'] at eT
  have aS : ∀ gs, (1 ∉ gs ∧ 25 ∉ gs ∧ 26 ∉ gs) → agr gs σ1 σ' := fun gs h => (show agr gs σ1 σ3 from fun g hg i => s3.1 g (fun z => h.1 (z ▸ hg)) i).tr (eS ▸ (agr_up h.2.2).tr (agr_up h.2.1))
  have aT : ∀ gs, (24 ∉ gs ∧ 26 ∉ gs) → agr gs τ1 τ' := fun gs h => (show agr gs τ1 τ3 from fun g hg i => s3.2.1 g (fun z => h.1 (z ▸ hg)) i).tr (eT ▸ agr_up h.2)
  obtain ⟨h1, h2, h3, h4, h5, h6, h7, h8, h9, h10⟩ := hN
  have hNN : RN σ1 τ1 nT nW f D := ⟨h1, h2, h3, h4, h5, h6, h7, h8, h9, h10⟩
  have allm : ∀ u, u < nT → τ1 10 u = -1 := fun u hu => by
    rcases (hO u hu).1 with ⟨-, -, y⟩ | ⟨r', hr', -, ⟨-, y⟩ | ⟨-, y⟩⟩
    · exact y
    · exact absurd (by unfold mOut; simp [y]) (out r' hr' u hu)
    · exact absurd (by unfold mOut; simp [y]) (out r' hr' u hu)
  have allm' : ∀ u, u < nT → τ' 10 u = -1 := fun u hu => by rw [(aT [10] (by decide)).at (by simp)]; exact allm u hu
  refine ⟨⟨?_, Nat.le_refl _, h3, ?_, ?_, h6, ?_, ?_, hD1, ?_⟩, hP.co (aS _ (by decide)) (aT _ (by decide)), hM.co (aS _ (by decide)) (aT _ (by decide)), hT.co (aS _ (by decide)) (aT _ (by decide)), hZ.co (aT _ (by decide)), ⟨fun t ht => ?_, fun t b1 b2 => by omega⟩,
    hW.co (aS _ (by decide)) (aT _ (by decide)), hB.co (aS _ (by decide)), ?_, hR.co (aS _ (by decide)) (aT _ (by decide)), hV.co (aS _ (by decide)) (aT _ (by decide)), fun u hu => ⟨((hO.co (aS _ (by decide)) (aT _ (by decide))) u hu).1, fun _ => allm' u hu⟩, fun r hr => ?_, ?_, fun r c hr _ hq => ?_, hS.co (aS _ (by decide)), ⟨fun t b1 b2 => by omega, fun t u b1 b2 => by omega⟩, fun j hj => ?_⟩
  · rw [eS]; simp [up]
  · rw [(aT [3] (by decide)).at (by simp)]; exact h4
  · rw [(aT [16] (by decide)).at (by simp)]; exact h5
  · rw [eS, up_s, s3.1 25 (by decide), h7, nI_1]
  · rw [eT, up_s, s3.2.1 26 (by decide), h8, nI_1]
  · rw [(aS [27] (by decide)).at (by simp), (aT [25] (by decide)).at (by simp)]; exact h10
  · rw [(aT [7] (by decide)).at (by simp)]
    by_cases c : t < f
    · obtain ⟨d, d1, d2⟩ := hD.1 t c
      exact ⟨d, by omega, d2⟩
    · exact ⟨D, by omega, hD.2 t (by omega) ht⟩
  · refine s3.2.2.co (fun g hg i => ?_) (fun g hg i => ?_)
    · simp at hg
      subst hg
      rw [eS]; simp [up]
    · simp at hg
      subst hg
      rw [eT]; simp [up]
  · dsimp only
    rw [if_pos hr]
    refine ⟨List.nodup_nil, fun u => ⟨fun z => absurd z List.not_mem_nil, fun z => ?_⟩, List.Pairwise.nil⟩
    have := z.2
    rw [allm' u z.1] at this
    exact absurd this (q_m1 r hr)
  · obtain ⟨K, k1, k2, -⟩ := hC
    refine ⟨K, k1, by rw [(aT [12] (by decide)).at (by simp), c12]; exact k2, fun t r ht hr e => ?_⟩
    rw [allm' t ht] at e
    exact absurd e (q_m1 r hr)
  · exact absurd (if_pos hr) hq
  · -- the money
    obtain ⟨hh, eh⟩ : ∃ x, x = nI j - 1 := ⟨_, rfl⟩
    rw [← eh]
    have y1 := hY j hj
    rw [← eh, brT_eq, brM_eq] at y1
    obtain ⟨m1, m2⟩ := shM_1 (f := f) (nT := nT) hj 6 0 σ2
    obtain ⟨m3, m4⟩ := shT_1 hj (nT - f) f σ1
    rw [← e3] at m1
    rw [← e2] at m3 m4
    rw [← eh] at m1 m3
    have k1 : σ' 1 j = σ1 1 j + sumN (gT σ1 hh) f (nT - f) + sumN (gV σ1 hh f (nT - f)) 0 6 := by
      rw [eS, show up (up σ3 26 0 (nI nT)) 25 0 (σ3 25 0 + 1) 1 j = σ3 1 j from by simp [up], m1, m3]
      congr 1
      refine sum_co _ _ (fun i _ _ => ?_)
      unfold gV
      rw [m4 9 (by decide), m4 25 (by decide), seenC m4]
    have k2 : fBrT σ' hh nT = sumN (gT σ1 hh) 0 f + sumN (gT σ1 hh) f (nT - f) := by
      have q := sum_add (g := gT σ1 hh) f (nT - f) 0
      rw [show f + (nT - f) = nT by omega, Nat.zero_add] at q
      rw [brT_eq, ← q]
      refine sum_co _ _ (fun i _ _ => ?_)
      unfold gT
      rw [(aS [14, 13, 15] (by decide)).at (g := 14) (by simp), (aS [14, 13, 15] (by decide)).at (g := 13) (by simp), (aS [14, 13, 15] (by decide)).at (g := 15) (by simp)]
    have emt : ∀ i, mtk σ' i = mtk σ1 i := fun i => by
      unfold mtk
      rw [(aS [14, 10] (by decide)).at (g := 14) (by simp), (aS [14, 10] (by decide)).at (g := 10) (by simp)]
    have k3 : sumN (gM σ' hh) 0 nT = sumN (gM σ1 hh) 0 f + sumN (gM σ1 hh) f (nT - f) := by
      have q := sum_add (g := gM σ1 hh) f (nT - f) 0
      rw [show f + (nT - f) = nT by omega, Nat.zero_add] at q
      rw [← q]
      refine sum_co _ _ (fun i _ _ => ?_)
      unfold gM
      rw [emt, (aS [15] (by decide)).at (g := 15) (by simp)]
    have k4 : cntF (mtk σ') 0 nT = cntF (mtk σ1) 0 f + cntF (mtk σ1) f (nT - f) := by
      have q := cnt_add (p := mtk σ1) f (nT - f) 0
      rw [show f + (nT - f) = nT by omega, Nat.zero_add] at q
      rw [← q]
      exact cnt_co _ _ (fun i _ _ => emt i)
    have k5 : fDw σ' = fDw σ1 + nI (cntF (fun k => fBel (σ1 9 k) (σ1 25 0)) 0 6) := by
      have q := sum_cnt (p := fun k => fBel (σ1 9 k) (σ1 25 0)) (x := 1) 6 0
      rw [Int32.mul_one] at q
      rw [dw_sum, dw_sum, ← q, ← sum_plus]
      refine sum_co _ _ (fun i _ _ => ?_)
      have e25 : σ' 25 0 = nI D + 1 := by rw [eS, up_s, s3.1 25 (by decide), h7]
      rw [e25, h7, (aS [8, 9] (by decide)).at (g := 8) (by simp), (aS [8, 9] (by decide)).at (g := 9) (by simp)]
      exact ended_step (by omega)
    have k6 := day_sum (hh := hh) hX (nT - f) f (Nat.le_refl _) (by omega)
    rw [k1, k2, brM_eq, k3, k4, k5, k6, y1, (aS [2, 3, 4] (by decide)).at (g := 2) (by simp), (aS [2, 3, 4] (by decide)).at (g := 3) (by simp), (aS [2, 3, 4] (by decide)).at (g := 4) (by simp), ← nI_addN]
    generalize sumN (gT σ1 hh) 0 f = x1
    generalize sumN (gT σ1 hh) f (nT - f) = x2
    generalize sumN (gM σ1 hh) 0 f = x3
    generalize sumN (gM σ1 hh) f (nT - f) = x4
    generalize nI (cntF (fun k => fBel (σ1 9 k) (σ1 25 0)) 0 6) = x5
    generalize nI (cntF (mtk σ1) 0 f) = x6
    generalize nI (cntF (mtk σ1) f (nT - f)) = x7
    generalize fDw σ1 = x8
    generalize p1 hh = x9
    generalize σ1 2 j = z1
    generalize σ1 3 j = z2
    generalize σ1 4 j = z3
    grind
/-- many days -/
theorem pr_days : ∀ (d : Nat) (σ : SG) (qs : Nat → List Nat) (τ : SG) (f D : Nat), RR0 σ qs nT nW f τ D N → d ≠ 0 → D + d ≤ 2000 → RR0 (fDays nT f d σ) (eQ qs) nT nW nT (mDays nT d τ) (D + d) N
  | 0, _, _, _, _, _, _, h, _ => absurd rfl h
  | d + 1, σ, qs, τ, f, D, H, _, hd => by
    have h1 := pr_endDay H (by omega)
    by_cases c : d = 0
    · subst c
      exact h1
    · have h2 := pr_days d _ _ _ _ _ h1 c (by omega)
      rw [show eQ (fun j => if j < 12 then [] else qs j) = eQ qs from eQ_eQ qs, show D + 1 + d = D + (d + 1) by omega] at h2
      exact h2
end DAY
