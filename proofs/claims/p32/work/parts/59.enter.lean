/-! entering: both sides -/
section ENTER
variable {σ τ τ1 : SG} {qs : Nat → List Nat} {nT nW f D N r t c : Nat}
theorem ahead_of {K : Nat} (e4 : ∀ u, τ1 4 u = τ 4 u) (h11 : ∀ u, u ≠ t → τ1 11 u = τ 11 u) (hk : τ1 11 t = nI K) (hK : K < 2 ^ 31) {a : Nat} (ha : a ≠ t) (hq : ∃ q, q < K ∧ τ 11 a = nI q) :
    (τ 4 a = 2 ∨ τ 4 t ≠ 2 → mAhead τ1 a t = true) ∧ (τ 4 a ≠ 2 → τ 4 t = 2 → mAhead τ1 t a = true) := by
  obtain ⟨q, h1, h2⟩ := hq
  have lt : τ1 11 a < τ1 11 t := by
    rw [h11 a ha, h2, hk]
    exact (nI_ltI (by omega) hK).mpr h1
  constructor
  · intro h
    unfold mAhead
    rw [e4, e4]
    by_cases d : decide (τ 4 a = 2) = decide (τ 4 t = 2)
    · rw [if_pos d]
      simpa using lt
    · rw [if_neg d]
      rcases h with h | h
      · simp [h]
      · simp only [decide_eq_decide] at d
        simp only [decide_eq_true_eq]
        exact Classical.byContradiction (fun z => d ⟨fun y => absurd y z, fun y => absurd y h⟩)
  · intro h1 h2
    unfold mAhead
    rw [e4, e4]
    simp [h1, h2]
theorem ahead_old {τ1 : SG} (e4 : ∀ u, τ1 4 u = τ 4 u) (h11 : ∀ u, u ≠ t → τ1 11 u = τ 11 u) {a b : Nat} (ha : a ≠ t) (hb : b ≠ t) : mAhead τ1 a b = mAhead τ a b := by
  unfold mAhead
  rw [e4, e4, h11 a ha, h11 b hb]
theorem ahead_nm {a b : Nat} (h : mAhead τ a b = true) (ha : τ 4 a ≠ 2) : τ 4 b ≠ 2 := by
  intro hb
  unfold mAhead at h
  simp [ha, hb] at h
/-- the place of a new one keeps the order -/
theorem ins_pw {σ : SG} {K : Nat} (e4 : ∀ u, τ1 4 u = τ 4 u) (h11 : ∀ u, u ≠ t → τ1 11 u = τ 11 u) (hk : τ1 11 t = nI K) (hK : K < 2 ^ 31) (hm : τ 4 t = 2) (hσ : ∀ u, u ∈ t :: [] ∨ True → True) :
    ∀ (q : List Nat), (∀ u ∈ q, u ≠ t ∧ σ 10 u = τ 4 u ∧ ∃ k, k < K ∧ τ 11 u = nI k) → q.Pairwise (fun a b => mAhead τ a b = true) → (q.insertIdx (fWait σ q) t).Pairwise (fun a b => mAhead τ1 a b = true)
  | [], _, _ => by simp [fWait]
  | x :: q, h, hp => by
    obtain ⟨p1, p2⟩ := List.pairwise_cons.mp hp
    obtain ⟨x1, x2, x3⟩ := h x List.mem_cons_self
    by_cases d : σ 10 x = 2
    · rw [show fWait σ (x :: q) = fWait σ q + 1 from by simp [fWait, d], List.insertIdx_succ_cons]
      refine List.pairwise_cons.mpr ⟨fun y hy => ?_, ins_pw e4 h11 hk hK hm hσ q (fun u hu => h u (List.mem_cons_of_mem _ hu)) p2⟩
      rcases l_memIns hy with rfl | hy
      · exact (ahead_of e4 h11 hk hK x1 x3).1 (Or.inl (x2.symm.trans d))
      · rw [ahead_old e4 h11 x1 (h y (List.mem_cons_of_mem _ hy)).1]
        exact p1 y hy
    · rw [show fWait σ (x :: q) = 0 from by simp [fWait, d], List.insertIdx_zero]
      have nx : τ 4 x ≠ 2 := fun z => d (x2.trans z)
      refine List.pairwise_cons.mpr ⟨fun y hy => ?_, List.pairwise_cons.mpr ⟨fun y hy => ?_, p2.imp_of_mem (fun {a b} ha hb z => ?_)⟩⟩
      · rcases List.mem_cons.mp hy with rfl | hy'
        · exact (ahead_of e4 h11 hk hK x1 x3).2 nx hm
        · obtain ⟨y1, y2, y3⟩ := h y (List.mem_cons_of_mem _ hy')
          exact (ahead_of e4 h11 hk hK y1 y3).2 (ahead_nm (p1 y hy') nx) hm
      · rw [ahead_old e4 h11 x1 (h y (List.mem_cons_of_mem _ hy)).1]
        exact p1 y hy
      · rw [ahead_old e4 h11 (h a (List.mem_cons_of_mem _ ha)).1 (h b (List.mem_cons_of_mem _ hb)).1]
        exact z
theorem pw_nodup {q : List Nat} (h : q.Pairwise (fun a b => mAhead τ a b = true)) : q.Nodup := by
  refine h.imp (fun {a b} z e => ?_)
  subst e
  have := ahead_asym z
  rw [z] at this
  cases this
/-- a ticket that waits now: what stays -/
theorem wait_k (H : RK σ qs nT nW f τ D) (ht : t < nT) (hf : f ≤ t) (hr : r < 12) (e10 : τ 10 t = -1) {qs1 : Nat → List Nat} (aT : ∀ gs, (10 ∉ gs ∧ 11 ∉ gs ∧ 12 ∉ gs ∧ 27 ∉ gs) → agr gs τ τ1) (n10 : ∀ u, τ1 10 u = if u = t then 100 + nI r else τ 10 u) (hQ : RQ qs1 τ1 nT) :
    RK (up (up σ 16 t (nI r)) 17 t 1) qs1 nT nW f τ1 D ∧ ∀ r', r' < 12 → cntF (mIn τ1 (nI r')) 0 nT = cntF (mIn τ (nI r')) 0 nT := by
  obtain ⟨hN, hP, hM, hT, hZ, hD, ⟨hW, hB, hA, hY⟩, hR, hV, hO, -, hS, hX⟩ := H
  have aS : ∀ gs, (16 ∉ gs ∧ 17 ∉ gs) → agr gs σ (up (up σ 16 t (nI r)) 17 t 1) := fun gs h => (agr_up h.1).tr (agr_up h.2)
  have cin : ∀ r', r' < 12 → cntF (mIn τ1 (nI r')) 0 nT = cntF (mIn τ (nI r')) 0 nT := fun r' hr' => by
    refine cnt_co _ _ (fun u _ _ => ?_)
    simp only [mIn, n10]
    by_cases d : u = t
    · subst d
      have a1 := n_m1 r' hr'
      have a2 : ¬ (100 : Int32) + nI r = nI r' := fun z => n_q hr' hr z.symm
      simp [e10, a1, a2]
    · simp [d]
  refine ⟨⟨hN.co (aS _ (by decide)) (aT _ (by decide)), hP.co (aS _ (by decide)) (aT _ (by decide)), hM.co (aS _ (by decide)) (aT _ (by decide)), hT.co (aS _ (by decide)) (aT _ (by decide)), hZ.co (aT _ (by decide)), hD.co (aT _ (by decide)),
      ⟨hW.co (aS _ (by decide)) (aT _ (by decide)), hB.co (aS _ (by decide)), hA.co (aS _ (by decide)) (aT _ (by decide)), hY.co (aS _ (by decide))⟩, hR.co (aS _ (by decide)) (aT _ (by decide)), fun r' hr' => ?_, fun u hu => ?_, hQ, hS.co (aS _ (by decide)), hX.co (aS _ (by decide))⟩, cin⟩
  · rw [cin r' hr']; simp [up]; exact hV r' hr'
  · unfold plc
    rw [n10]
    by_cases d : u = t
    · rw [if_pos d, d]; exact ⟨Or.inr ⟨r, hr, by simp [up], Or.inr ⟨by simp [up], rfl⟩⟩, fun z => by omega⟩
    · rw [if_neg d]; simp [up, d]; exact hO u hu
theorem wait_q (hQ : RQ qs τ nT) (ht : t < nT) (hr : r < 12) (e10 : τ 10 t = -1) {L : List Nat} (e4 : ∀ u, τ1 4 u = τ 4 u) (h11 : ∀ u, u ≠ t → τ1 11 u = τ 11 u) (n10 : ∀ u, τ1 10 u = if u = t then 100 + nI r else τ 10 u) (hm : ∀ u, u ∈ L ↔ u = t ∨ u ∈ qs r) (hp : L.Pairwise (fun a b => mAhead τ1 a b = true)) : RQ (sq qs r L) τ1 nT := fun r' hr' => by
  obtain ⟨p1, p2, p3⟩ := hQ r' hr'
  by_cases d : r' = r
  · subst d
    rw [sq_s]
    refine ⟨pw_nodup hp, fun u => ?_, hp⟩
    rw [hm, n10]
    by_cases du : u = t
    · rw [if_pos du, du]; exact ⟨fun _ => ⟨ht, rfl⟩, fun _ => Or.inl rfl⟩
    · rw [if_neg du, ← p2 u]; exact ⟨fun z => z.resolve_left du, Or.inr⟩
  · rw [sq_n d]
    have nt : ∀ u, u ∈ qs r' → u ≠ t := fun u hu z => by
      have := ((p2 u).mp hu).2
      rw [z, e10] at this
      exact q_m1 r' hr' this
    refine ⟨p1, fun u => ?_, p3.imp_of_mem (fun {x y} hx hy z => by rw [ahead_old e4 h11 (nt x hx) (nt y hy)]; exact z)⟩
    rw [p2 u, n10]
    by_cases du : u = t
    · rw [if_pos du, du, e10]
      exact ⟨fun z => absurd z.2 (q_m1 r' hr'), fun z => absurd (q_inj hr hr' z.2).symm d⟩
    · rw [if_neg du]
/-- into the room at once -/
theorem pr_enterR {v9 : Nat} (H : RR0 σ qs nT nW f τ D N) (ht : t < nT) (hf : f ≤ t) (hr : r < 12) (e10 : τ 10 t = -1) (h5 : σ 5 r = nI c) (h7 : σ 7 r = nI v9) (hc : c ≤ 1000) (hv : v9 ≤ 1000) (hlt : cntF (mIn τ (nI r)) 0 nT < c) (hq : qs r = []) :
    (fLet nW r (c - v9) (up (up σ 16 t (nI r)) 17 t 1) (sq qs r (fQue σ qs r t))).1 17 t = 0 ∧
    RR0 (fLet nW r (c - v9) (up (up σ 16 t (nI r)) 17 t 1) (sq qs r (fQue σ qs r t))).1 (fLet nW r (c - v9) (up (up σ 16 t (nI r)) 17 t 1) (sq qs r (fQue σ qs r t))).2 nT nW f (mSee nW t r (thr τ 0)) D N := by
  have H0 : RR0 σ qs nT nW f (thr τ 0) D N := H.th
  obtain ⟨hC, hF⟩ := H0.c
  have hK := H0.k
  obtain ⟨hN, -, -, -, -, -, -, -, hV, hO, hQ, -, -⟩ := hK
  have e10' : thr τ 0 10 t = -1 := by rw [thr_o (by decide)]; exact e10
  have h80 := hN.2.2.1
  have hin := in_le (τ := thr τ 0) (r := r) (nT := nT)
  have ein : cntF (mIn (thr τ 0) (nI r)) 0 nT = cntF (mIn τ (nI r)) 0 nT := by
    rw [mIn.co (show agr [10] τ (thr τ 0) from agr_up (by decide))]
  have ev : v9 = cntF (mIn τ (nI r)) 0 nT := nIe (by omega) (by omega) (h7.symm.trans ((hV r hr).trans (by rw [ein])))
  have eL : fQue σ qs r t = [t] := by
    unfold fQue
    rw [hq]
    split
    · rfl
    · rfl
  rw [eL]
  obtain ⟨k, hk⟩ : ∃ k, c - v9 = k + 1 := ⟨c - v9 - 1, by omega⟩
  rw [hk]
  have hQ1 : RQ (sq qs r [t]) (up (thr τ 0) 10 t (100 + nI r)) nT := wait_q (τ := thr τ 0) hQ ht hr e10' (L := [t]) (fun u => by simp [up]) (fun u _ => by simp [up]) (fun u => by simp [up]) (fun u => by rw [hq]; simp) (List.pairwise_singleton _ _)
  obtain ⟨hK1, cin⟩ := wait_k (τ := thr τ 0) (τ1 := up (thr τ 0) 10 t (100 + nI r)) H0.k ht hf hr e10' (fun gs h => agr_up h.1) (fun u => by simp [up]) hQ1
  have hs : (sq qs r [t]) r = t :: [] := sq_s
  obtain ⟨s1, s2, s3, s4⟩ := see_step hK1 hr hs
  rw [see_10] at s1 s2 s3 s4
  rw [fLet_cons hs, fLet_nil (n := k) (by rw [sq_s])]
  refine ⟨by dsimp only; rw [fShow_ne (by decide)]; simp [up], s1.all (hC.less (fun g hg i => mSee_ne (by simp at hg; omega)) (fun u r' hr' h => ?_)) (fun r' c' hr' hc' hq' e5 => ?_)⟩
  · rw [mSee_10] at h
    by_cases d : u = t
    · subst d
      rw [up_s] at h
      exact absurd h (n_q hr hr')
    · rw [show up (thr τ 0) 10 t (nI r) 10 u = thr τ 0 10 u from by simp [up, d]] at h
      exact h
  · by_cases d : r' = r
    · subst d
      exact absurd (by rw [sq_s]) hq'
    · rw [s3 r' hr' d, cin r' hr']
      rw [sq_n d, sq_n d] at hq'
      rw [fShow_ne (by decide)] at e5
      exact hF r' c' hr' hc' hq' (by simpa [up] using e5)
/-- into the queue -/
theorem pr_enterQ {v9 : Nat} (H : RR0 σ qs nT nW f τ D N) (hN2 : N < 1000) (ht : t < nT) (hf : f ≤ t) (hr : r < 12) (e10 : τ 10 t = -1) (h5 : σ 5 r = nI c) (h7 : σ 7 r = nI v9) (hc : c ≤ 1000) (hv : v9 ≤ 1000) (hge : c ≤ cntF (mIn τ (nI r)) 0 nT) :
    (fLet nW r (c - v9) (up (up σ 16 t (nI r)) 17 t 1) (sq qs r (fQue σ qs r t))).1 17 t = 1 ∧
    RR0 (fLet nW r (c - v9) (up (up σ 16 t (nI r)) 17 t 1) (sq qs r (fQue σ qs r t))).1 (fLet nW r (c - v9) (up (up σ 16 t (nI r)) 17 t 1) (sq qs r (fQue σ qs r t))).2 nT nW f (up (up (up (thr τ 0) 10 t (100 + nI r)) 11 t (thr τ 0 12 0)) 12 0 (thr τ 0 12 0 + 1)) D (N + 1) := by
  have H0 : RR0 σ qs nT nW f (thr τ 0) D N := H.th
  obtain ⟨hC, hF⟩ := H0.c
  have hK := H0.k
  obtain ⟨hN, -, -, hT, -, -, -, -, hV, hO, hQ, -, -⟩ := hK
  have e10' : thr τ 0 10 t = -1 := by rw [thr_o (by decide)]; exact e10
  have h80 := hN.2.2.1
  have hin := in_le (τ := thr τ 0) (r := r) (nT := nT)
  have ein : cntF (mIn (thr τ 0) (nI r)) 0 nT = cntF (mIn τ (nI r)) 0 nT := by
    rw [mIn.co (show agr [10] τ (thr τ 0) from agr_up (by decide))]
  have ev : v9 = cntF (mIn τ (nI r)) 0 nT := nIe (by omega) (by omega) (h7.symm.trans ((hV r hr).trans (by rw [ein])))
  rw [show c - v9 = 0 by omega]
  show (up (up σ 16 t (nI r)) 17 t 1) 17 t = 1 ∧ RR0 (up (up σ 16 t (nI r)) 17 t 1) (sq qs r (fQue σ qs r t)) _ _ _ _ _ _
  refine ⟨up_s, ?_⟩
  obtain ⟨K, k1, k2, k3⟩ := hC
  obtain ⟨τ0, e0⟩ : ∃ x, x = thr τ 0 := ⟨_, rfl⟩
  rw [← e0] at hN hT hV hO hQ hF H0 e10' k2 k3 ein ⊢
  obtain ⟨τ1, e1⟩ : ∃ x, x = up (up (up τ0 10 t (100 + nI r)) 11 t (τ0 12 0)) 12 0 (τ0 12 0 + 1) := ⟨_, rfl⟩
  rw [← e1]
  have n4 : ∀ u, τ1 4 u = τ0 4 u := fun u => by rw [e1]; simp [up]
  have n11 : ∀ u, u ≠ t → τ1 11 u = τ0 11 u := fun u hu => by rw [e1]; simp [up, hu]
  have n11t : τ1 11 t = nI K := by rw [e1, k2]; simp [up]
  have n10 : ∀ u, τ1 10 u = if u = t then 100 + nI r else τ0 10 u := fun u => by rw [e1]; simp [up]
  obtain ⟨p1, p2, p3⟩ := hQ r hr
  have old : ∀ u ∈ qs r, u ≠ t ∧ σ 10 u = τ0 4 u ∧ ∃ k, k < K ∧ τ0 11 u = nI k := fun u hu => by
    obtain ⟨a1, a2⟩ := (p2 u).mp hu
    refine ⟨fun z => ?_, ((hT u a1).1).symm, k3 u r a1 hr a2⟩
    rw [z, e10'] at a2
    exact q_m1 r hr a2
  have hpw : (∀ u, u ∈ fQue σ qs r t ↔ u = t ∨ u ∈ qs r) ∧ (fQue σ qs r t).Pairwise (fun a b => mAhead τ1 a b = true) := by
    unfold fQue
    by_cases d : σ 10 t = 2
    · rw [if_pos d]
      exact ⟨fun u => List.mem_insertIdx (fWait_le σ (qs r)), ins_pw n4 n11 n11t (by omega) ((hT t ht).1.trans d) (fun _ _ => trivial) (qs r) old p3⟩
    · rw [if_neg d]
      refine ⟨fun u => by simp [or_comm], List.pairwise_append.mpr ⟨p3.imp_of_mem (fun {a b} ha hb z => by rw [ahead_old n4 n11 (old a ha).1 (old b hb).1]; exact z), List.pairwise_singleton _ _, fun a ha b hb => ?_⟩⟩
      rw [List.mem_singleton.mp hb]
      exact (ahead_of n4 n11 n11t (by omega) (old a ha).1 (old a ha).2.2).1 (Or.inr (fun z => d ((hT t ht).1.symm.trans z)))
  have hQ1 : RQ (sq qs r (fQue σ qs r t)) τ1 nT := wait_q hQ ht hr e10' n4 n11 n10 hpw.1 hpw.2
  obtain ⟨hK1, cin⟩ := wait_k (τ1 := τ1) H0.k ht hf hr e10' (fun gs h => e1 ▸ ((agr_up h.1).tr (agr_up h.2.1)).tr (agr_up h.2.2.1)) n10 hQ1
  refine hK1.all ⟨K + 1, by omega, by rw [e1, up_s, k2]; exact nI_1 K, fun u r' hu hr' e => ?_⟩ (fun r' c' hr' hc' hq' e5 => ?_)
  · by_cases d : u = t
    · rw [d]; exact ⟨K, Nat.lt_succ_self K, n11t⟩
    · rw [n10, if_neg d] at e
      obtain ⟨q, q1, q2⟩ := k3 u r' hu hr' e
      exact ⟨q, by omega, by rw [n11 u d]; exact q2⟩
  · rw [cin r' hr']
    have e5' : σ 5 r' = nI c' := by simpa [up] using e5
    by_cases d : r' = r
    · subst d
      rw [nIe (by omega) (by omega) (e5'.symm.trans h5), ein]
      exact hge
    · rw [sq_n d] at hq'
      exact hF r' c' hr' hc' hq' e5'
end ENTER
