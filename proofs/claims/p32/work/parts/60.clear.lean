/-! all go out of a room: both sides -/
theorem clr_10 {r u : Nat} : ∀ (n a : Nat) (x : SG × Int32), (itr (mClrP r) a n x).1 10 u = if (a ≤ u ∧ u < a + n) ∧ mOut x.1 r u = true then -1 else x.1 10 u
  | 0, a, x => by
    rw [if_neg (fun z => by omega)]
    rfl
  | n + 1, a, x => by
    show (itr (mClrP r) (a + 1) n (mClrP r a x)).1 10 u = _
    rw [clr_10 n (a + 1)]
    by_cases c : u = a
    · subst c
      rw [if_neg (fun z => by omega)]
      unfold mClrP
      by_cases d : mOut x.1 r u = true
      · rw [if_pos d, if_pos ⟨by omega, d⟩]; simp [up]
      · rw [if_neg d, if_neg (fun z => d z.2)]
    · have e : (mClrP r a x).1 10 u = x.1 10 u := by
        unfold mClrP
        split
        · simp [up, c]
        · rfl
      have eo : mOut (mClrP r a x).1 r u = mOut x.1 r u := by
        unfold mOut
        rw [e]
      rw [e, eo]
      by_cases d : (a + 1 ≤ u ∧ u < a + 1 + n) ∧ mOut x.1 r u = true
      · rw [if_pos d, if_pos ⟨by omega, d.2⟩]
      · rw [if_neg d, if_neg (fun z => d ⟨by omega, z.2⟩)]
theorem clr_2 {r : Nat} : ∀ (n a : Nat) (x : SG × Int32), (itr (mClrP r) a n x).2 = x.2 + nI (cntF (mOut x.1 r) a n)
  | 0, a, x => (Int32.add_zero _).symm
  | n + 1, a, x => by
    show (itr (mClrP r) (a + 1) n (mClrP r a x)).2 = _
    rw [clr_2 n (a + 1)]
    have eo : cntF (mOut (mClrP r a x).1 r) (a + 1) n = cntF (mOut x.1 r) (a + 1) n := by
      refine cnt_co _ _ (fun i h _ => ?_)
      unfold mOut mClrP
      split
      · have : ¬ i = a := by omega
        simp [up, this]
      · rfl
    rw [eo]
    unfold mClrP
    simp only [cntF]
    by_cases d : mOut x.1 r a = true
    · rw [if_pos d, if_pos d, ← nI_addN]
      exact Int32.add_assoc _ _ _
    · rw [if_neg d, if_neg d, Nat.zero_add]
theorem out_16 {r u : Nat} : ∀ (n a : Nat) (σ : SG), itr (fOut r) a n σ 16 u = if (a ≤ u ∧ u < a + n) ∧ σ 16 u = nI r then -1 else σ 16 u
  | 0, a, σ => by
    rw [if_neg (fun z => by omega)]
    rfl
  | n + 1, a, σ => by
    show itr (fOut r) (a + 1) n (fOut r a σ) 16 u = _
    rw [out_16 n (a + 1)]
    by_cases c : u = a
    · subst c
      rw [if_neg (fun z => by omega)]
      unfold fOut
      by_cases d : σ 16 u = nI r
      · rw [if_pos d, if_pos ⟨by omega, d⟩]; simp [up]
      · rw [if_neg d, if_neg (fun z => d z.2)]
    · have e : fOut r a σ 16 u = σ 16 u := by
        unfold fOut
        split
        · simp [up, c]
        · rfl
      rw [e]
      by_cases d : (a + 1 ≤ u ∧ u < a + 1 + n) ∧ σ 16 u = nI r
      · rw [if_pos d, if_pos ⟨by omega, d.2⟩]
      · rw [if_neg d, if_neg (fun z => d ⟨by omega, z.2⟩)]
theorem out_17 {r u : Nat} : ∀ (n a : Nat) (σ : SG), itr (fOut r) a n σ 17 u = if (a ≤ u ∧ u < a + n) ∧ σ 16 u = nI r then 0 else σ 17 u
  | 0, a, σ => by
    rw [if_neg (fun z => by omega)]
    rfl
  | n + 1, a, σ => by
    show itr (fOut r) (a + 1) n (fOut r a σ) 17 u = _
    rw [out_17 n (a + 1)]
    by_cases c : u = a
    · subst c
      rw [if_neg (fun z => by omega)]
      unfold fOut
      by_cases d : σ 16 u = nI r
      · rw [if_pos d, if_pos ⟨by omega, d⟩]; simp [up]
      · rw [if_neg d, if_neg (fun z => d z.2)]
    · have e : fOut r a σ 16 u = σ 16 u ∧ fOut r a σ 17 u = σ 17 u := by
        unfold fOut
        split
        · simp [up, c]
        · exact ⟨rfl, rfl⟩
      rw [e.1, e.2]
      by_cases d : (a + 1 ≤ u ∧ u < a + 1 + n) ∧ σ 16 u = nI r
      · rw [if_pos d, if_pos ⟨by omega, d.2⟩]
      · rw [if_neg d, if_neg (fun z => d ⟨by omega, z.2⟩)]
theorem cnt_or {p q : Nat → Bool} : ∀ (n a : Nat), (∀ i, a ≤ i → i < a + n → ¬ (p i = true ∧ q i = true)) → cntF (fun i => p i || q i) a n = cntF p a n + cntF q a n
  | 0, _, _ => rfl
  | n + 1, a, h => by
    simp only [cntF]
    rw [cnt_or n (a + 1) (fun i h1 h2 => h i (by omega) (by omega))]
    have := h a (Nat.le_refl _) (by omega)
    by_cases hp : p a = true
    · have hq : ¬ q a = true := fun z => this ⟨hp, z⟩
      simp [hp, hq]; omega
    · by_cases hq : q a = true
      · simp [hp, hq]; omega
      · simp [hp, hq]
theorem cnt_zero {p : Nat → Bool} : ∀ (n a : Nat), (∀ i, a ≤ i → i < a + n → ¬ p i = true) → cntF p a n = 0
  | 0, _, _ => rfl
  | n + 1, a, h => by
    simp only [cntF]
    rw [cnt_zero n (a + 1) (fun i h1 h2 => h i (by omega) (by omega)), if_neg (h a (Nat.le_refl _) (by omega))]
section CLEAR
variable {σ τ : SG} {qs : Nat → List Nat} {nT nW f D N r : Nat}
theorem out_iff (hO : RO σ τ nT f) (hr : r < 12) {u : Nat} (hu : u < nT) : mOut τ r u = true ↔ σ 16 u = nI r := by
  unfold mOut
  simp only [Bool.or_eq_true, decide_eq_true_eq]
  rcases (hO u hu).1 with ⟨a1, -, a3⟩ | ⟨r', hr', a1, ⟨-, a3⟩ | ⟨-, a3⟩⟩
  · rw [a1, a3]
    exact ⟨fun z => z.elim id (fun y => absurd y (q_m1 r hr)), fun z => Or.inl z⟩
  · rw [a1, a3]
    exact ⟨fun z => z.elim id (fun y => absurd y (n_q hr' hr)), fun z => Or.inl z⟩
  · rw [a1, a3]
    exact ⟨fun z => z.elim (fun y => absurd y.symm (n_q hr hr')) (fun y => by rw [q_inj hr' hr y]), fun z => Or.inr (by rw [z])⟩
theorem clear_sim (H : RK σ qs nT nW f τ D) (hr : r < 12) :
    RK (fSend f nT r σ) (sq qs r []) nT nW f (mClear τ nT r).1 D ∧ (mClear τ nT r).2 = σ 7 r + nI (qs r).length ∧
    (∀ r', r' < 12 → r' ≠ r → cntF (mIn (mClear τ nT r).1 (nI r')) 0 nT = cntF (mIn τ (nI r')) 0 nT) ∧ ∀ u r', r' < 12 → (mClear τ nT r).1 10 u = 100 + nI r' → τ 10 u = 100 + nI r' := by
  obtain ⟨hN, hP, hM, hT, hZ, hD, ⟨hW, hB, hA, hY⟩, hR, hV, hO, hQ, hS, hX⟩ := H
  have hfn := hN.2.1
  have aS : ∀ gs, (∀ g ∈ gs, g ≠ 16 ∧ g ≠ 17 ∧ g ≠ 7) → agr gs σ (fSend f nT r σ) := fun gs h g hg i => fSend_ne (h g hg)
  have aT : ∀ gs, 10 ∉ gs → agr gs τ (mClear τ nT r).1 := fun gs h g hg i => mClear_ne (fun z => h (z ▸ hg))
  have n10 : ∀ u, (mClear τ nT r).1 10 u = if u < nT ∧ mOut τ r u = true then -1 else τ 10 u := fun u => by
    unfold mClear
    rw [clr_10]
    simp
  have old : ∀ u, u < f → σ 16 u = -1 := fun u hu => by
    have h1 := (hO u (by omega)).2 hu
    rcases (hO u (by omega)).1 with ⟨a1, -, -⟩ | ⟨r', hr', -, ⟨-, a3⟩ | ⟨-, a3⟩⟩
    · exact a1
    · exact absurd (h1.symm.trans a3) (n_m1 r' hr')
    · exact absurd (h1.symm.trans a3) (q_m1 r' hr')
  have n16 : ∀ u, u < nT → fSend f nT r σ 16 u = if σ 16 u = nI r then -1 else σ 16 u := fun u hu => by
    unfold fSend
    rw [up_f (by decide), out_16]
    by_cases d : σ 16 u = nI r
    · have : f ≤ u := Nat.le_of_not_lt (fun z => n_m1 r hr ((old u z).symm.trans d))
      rw [if_pos d, if_pos ⟨by omega, d⟩]
    · rw [if_neg d, if_neg (fun z => d z.2)]
  have n17 : ∀ u, u < nT → fSend f nT r σ 17 u = if σ 16 u = nI r then 0 else σ 17 u := fun u hu => by
    unfold fSend
    rw [up_f (by decide), out_17]
    by_cases d : σ 16 u = nI r
    · have : f ≤ u := Nat.le_of_not_lt (fun z => n_m1 r hr ((old u z).symm.trans d))
      rw [if_pos d, if_pos ⟨by omega, d⟩]
    · rw [if_neg d, if_neg (fun z => d z.2)]
  have n7 : ∀ u, fSend f nT r σ 7 u = if u = r then 0 else σ 7 u := fun u => by
    unfold fSend
    simp only [up]
    rw [itrOut_ne (by decide)]
    simp
  have o10 : ∀ u, mOut τ r u = true → τ 10 u = nI r ∨ τ 10 u = 100 + nI r := fun u h => by
    unfold mOut at h
    simpa using h
  have cin : ∀ r', r' < 12 → r' ≠ r → cntF (mIn (mClear τ nT r).1 (nI r')) 0 nT = cntF (mIn τ (nI r')) 0 nT := fun r' hr' hne => by
    refine cnt_co _ _ (fun u _ hu => ?_)
    simp only [mIn, n10]
    by_cases d : u < nT ∧ mOut τ r u = true
    · rw [if_pos d]
      have a1 := n_m1 r' hr'
      have a2 : ¬ τ 10 u = nI r' := fun z => by
        rcases o10 u d.2 with y | y
        · exact hne (nIe (by omega) (by omega) (z.symm.trans y))
        · exact n_q hr' hr (z.symm.trans y)
      simp [a1, a2]
    · rw [if_neg d]
  have c0 : cntF (mIn (mClear τ nT r).1 (nI r)) 0 nT = 0 := by
    refine cnt_zero _ _ (fun u _ hu => ?_)
    simp only [mIn, n10, decide_eq_true_eq]
    by_cases d : u < nT ∧ mOut τ r u = true
    · rw [if_pos d]; exact n_m1 r hr
    · rw [if_neg d]
      exact fun z => d ⟨by omega, by unfold mOut; simp [z]⟩
  have h100 : ∀ u r', r' < 12 → (mClear τ nT r).1 10 u = 100 + nI r' → τ 10 u = 100 + nI r' := fun u r' hr' h => by
    rw [n10] at h
    by_cases d : u < nT ∧ mOut τ r u = true
    · rw [if_pos d] at h; exact absurd h (q_m1 r' hr')
    · rw [if_neg d] at h; exact h
  refine ⟨⟨hN.co (aS _ (by decide)) (aT _ (by decide)), hP.co (aS _ (by decide)) (aT _ (by decide)), hM.co (aS _ (by decide)) (aT _ (by decide)), hT.co (aS _ (by decide)) (aT _ (by decide)), hZ.co (aT _ (by decide)), hD.co (aT _ (by decide)),
      ⟨hW.co (aS _ (by decide)) (aT _ (by decide)), hB.co (aS _ (by decide)), hA.co (aS _ (by decide)) (aT _ (by decide)), hY.co (aS _ (by decide))⟩, hR.co (aS _ (by decide)) (aT _ (by decide)), fun r' hr' => ?_, fun u hu => ?_, fun r' hr' => ?_, hS.co (aS _ (by decide)), hX.co (aS _ (by decide))⟩, ?_, cin, h100⟩
  · rw [n7]
    by_cases d : r' = r
    · rw [if_pos d, d, c0]; rfl
    · rw [if_neg d, cin r' hr' d]; exact hV r' hr'
  · unfold plc
    rw [n16 u hu, n17 u hu, n10]
    by_cases d : σ 16 u = nI r
    · rw [if_pos d, if_pos d, if_pos ⟨hu, (out_iff hO hr hu).mpr d⟩]
      exact ⟨Or.inl ⟨rfl, rfl, rfl⟩, fun _ => rfl⟩
    · rw [if_neg d, if_neg d, if_neg (fun z => d ((out_iff hO hr hu).mp z.2))]
      exact hO u hu
  · obtain ⟨p1, p2, p3⟩ := hQ r' hr'
    have pa : ∀ x y, mAhead (mClear τ nT r).1 x y = mAhead τ x y := fun x y => mAhead.co (aT _ (by decide))
    by_cases d : r' = r
    · subst d
      rw [sq_s]
      refine ⟨List.nodup_nil, fun u => ⟨fun z => absurd z List.not_mem_nil, fun z => ?_⟩, List.Pairwise.nil⟩
      have h1 := h100 u r' hr' z.2
      have h2 := z.2
      rw [n10, if_pos ⟨z.1, by unfold mOut; simp [h1]⟩] at h2
      exact absurd h2 (q_m1 r' hr')
    · rw [sq_n d]
      refine ⟨p1, fun u => ?_, p3.imp (fun {x y} z => by rw [pa]; exact z)⟩
      rw [p2 u]
      constructor
      · intro z
        refine ⟨z.1, ?_⟩
        rw [n10, if_neg (fun y => ?_)]
        · exact z.2
        · rcases o10 u y.2 with w | w
          · exact n_q hr hr' (w.symm.trans z.2)
          · exact d (q_inj hr' hr (z.2.symm.trans w))
      · intro z
        exact ⟨z.1, h100 u r' hr' z.2⟩
  · unfold mClear
    rw [clr_2, Int32.zero_add, hV r hr, ← mQn_len hQ hr, nI_addN]
    congr 1
    unfold mQn
    rw [← cnt_or nT 0 (fun u _ _ z => by
      simp only [mIn, decide_eq_true_eq] at z
      exact n_q hr hr (z.1.symm.trans z.2))]
    rfl
end CLEAR
