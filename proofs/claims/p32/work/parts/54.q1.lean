/-! queues: places by counting -/
theorem cnt_mem : ∀ (n : Nat) (L : List Nat), L.Nodup → (∀ u ∈ L, u < n) → cntF (fun u => decide (u ∈ L)) 0 n = L.length
  | 0, L, _, h => by
    cases L with
    | nil => rfl
    | cons x q => exact absurd (h x List.mem_cons_self) (Nat.not_lt_zero x)
  | n + 1, L, hd, h => by
    rw [cnt_last, Nat.zero_add]
    by_cases c : n ∈ L
    · have e := cnt_mem n (L.erase n) (hd.erase n) (fun u hu => by
        obtain ⟨h1, h2⟩ := (hd.mem_erase_iff).mp hu
        have := h u h2
        omega)
      rw [cnt_co (p := fun u => decide (u ∈ L)) (q := fun u => decide (u ∈ L.erase n)) n 0 (fun i _ hi => by
        have : i ≠ n := by omega
        simp [hd.mem_erase_iff, this]), e, List.length_erase_of_mem c]
      have : 0 < L.length := List.length_pos_of_mem c
      simp [c]; omega
    · rw [cnt_mem n L hd (fun u hu => by
        have := h u hu
        have : u ≠ n := fun z => c (z ▸ hu)
        omega)]
      simp [c]
theorem fnd_uniq {p : Nat → Bool} {u : Nat} : ∀ (n a : Nat), a ≤ u → u < a + n → p u = true → (∀ x, a ≤ x → x < a + n → p x = true → x = u) → fndF p a n = nI u
  | 0, a, h1, h2, _, _ => by omega
  | n + 1, a, h1, h2, hp, h => by
    simp only [fndF]
    by_cases c : p a = true
    · rw [if_pos c, h a (Nat.le_refl _) (by omega) c]
    · rw [if_neg c]
      have : a ≠ u := fun z => c (z ▸ hp)
      exact fnd_uniq n (a + 1) (by omega) (by omega) hp (fun x h1 h2 => h x (by omega) (by omega))
theorem fnd_none {p : Nat → Bool} : ∀ (n a : Nat), (∀ x, a ≤ x → x < a + n → ¬ p x = true) → fndF p a n = -1
  | 0, _, _ => rfl
  | n + 1, a, h => by
    simp only [fndF]
    rw [if_neg (h a (Nat.le_refl _) (by omega))]
    exact fnd_none n (a + 1) (fun x h1 h2 => h x (by omega) (by omega))
theorem ahead_asym {τ : SG} {a b : Nat} (h : mAhead τ a b = true) : mAhead τ b a = false := by
  unfold mAhead at *
  by_cases c : decide (τ 4 a = 2) = decide (τ 4 b = 2)
  · rw [if_pos c] at h
    rw [if_pos c.symm]
    simp only [decide_eq_true_eq, decide_eq_false_iff_not] at *
    exact fun z => Int32.lt_irrefl (Int32.lt_trans h z)
  · rw [if_neg c] at h
    rw [if_neg (fun z => c z.symm)]
    cases hb : decide (τ 4 b = 2) with
    | false => rfl
    | true => exact absurd (h.trans hb.symm) c
section QUE
variable {τ : SG} {qs : Nat → List Nat} {nT r i u : Nat}
theorem ahd_iff (h : RQ qs τ nT) (hr : r < 12) (hi : (qs r)[i]? = some u) {w : Nat} (hw : w < nT) : mAhd τ r u w = true ↔ w ∈ (qs r).take i := by
  obtain ⟨h1, h2, h3⟩ := h r hr
  obtain ⟨hil, eu⟩ := List.getElem?_eq_some_iff.mp hi
  have pw := List.pairwise_iff_getElem.mp h3
  unfold mAhd
  simp only [Bool.and_eq_true, decide_eq_true_eq, Bool.not_eq_true', decide_eq_false_iff_not]
  constructor
  · rintro ⟨⟨a1, a2⟩, a3⟩
    have hm : w ∈ qs r := (h2 w).mpr ⟨hw, a1⟩
    obtain ⟨j, hj, ej⟩ := List.getElem_of_mem hm
    rcases Nat.lt_trichotomy j i with c | c | c
    · rw [← ej]
      exact List.mem_take_iff_getElem.mpr ⟨j, by omega, rfl⟩
    · subst c
      exact absurd (ej.symm.trans eu) a2
    · have := pw i j hil hj c
      rw [eu, ej] at this
      rw [ahead_asym this] at a3
      cases a3
  · intro hm
    obtain ⟨j, hj, ej⟩ := List.mem_take_iff_getElem.mp hm
    have hj2 : j < i := by omega
    have hj3 : j < (qs r).length := by omega
    have hm2 : w ∈ qs r := List.mem_of_mem_take hm
    have := pw j i hj3 hil hj2
    rw [ej, eu] at this
    refine ⟨⟨((h2 w).mp hm2).2, fun z => ?_⟩, this⟩
    have e2 : (qs r)[j]? = (qs r)[i]? := by rw [List.getElem?_eq_getElem hj3, List.getElem?_eq_getElem hil, ej, eu, z]
    have := (List.getElem?_inj hj3 h1).mp e2
    omega
theorem ahd_cnt (h : RQ qs τ nT) (hr : r < 12) (hi : (qs r)[i]? = some u) : cntF (mAhd τ r u) 0 nT = i := by
  obtain ⟨h1, h2, h3⟩ := h r hr
  obtain ⟨hil, eu⟩ := List.getElem?_eq_some_iff.mp hi
  rw [cnt_co (q := fun w => decide (w ∈ (qs r).take i)) nT 0 (fun w _ hw => by
    have := ahd_iff h hr hi (w := w) (by omega)
    cases c : mAhd τ r u w with
    | true => simp [this.mp c]
    | false =>
      have : ¬ w ∈ (qs r).take i := fun z => by rw [this.mpr z] at c; cases c
      simp [this]), cnt_mem nT _ (List.Nodup.sublist (List.take_sublist i _) h1) (fun u hu => ((h2 u).mp (List.mem_of_mem_take hu)).1), List.length_take]
  omega
theorem q_len (h : RQ qs τ nT) (hr : r < 12) : (qs r).length ≤ nT := by
  obtain ⟨h1, h2, h3⟩ := h r hr
  rw [← cnt_mem nT (qs r) h1 (fun u hu => ((h2 u).mp hu).1)]
  exact cntF_le _ _ _
/-- the reference's queue is the list -/
theorem mQ_at (h : RQ qs τ nT) (hn : nT ≤ 80) (hr : r < 12) (hi : (qs r)[i]? = some u) : mQ τ nT r (nI i) = nI u := by
  obtain ⟨h1, h2, h3⟩ := h r hr
  obtain ⟨hil, eu⟩ := List.getElem?_eq_some_iff.mp hi
  have hl := q_len h hr
  have hu : u ∈ qs r := List.mem_of_getElem? hi
  refine fnd_uniq nT 0 (Nat.zero_le _) (by have := ((h2 u).mp hu).1; omega) ?_ (fun x _ hx hp => ?_)
  · unfold mAt
    simp [((h2 u).mp hu).2, ahd_cnt h hr hi]
  · unfold mAt at hp
    simp only [Bool.and_eq_true, decide_eq_true_eq] at hp
    have hm : x ∈ qs r := (h2 x).mpr ⟨by omega, hp.1⟩
    obtain ⟨j, hj⟩ := List.getElem?_of_mem hm
    have e := hp.2
    rw [ahd_cnt h hr hj] at e
    obtain ⟨hjl, -⟩ := List.getElem?_eq_some_iff.mp hj
    have : j = i := nIe (by omega) (by omega) e
    subst this
    exact Option.some.inj (hj.symm.trans hi)
theorem mQ_no (h : RQ qs τ nT) (hn : nT ≤ 80) (hr : r < 12) {pp : Int32} (hp : ∀ j, j < (qs r).length → ¬ nI j = pp) : mQ τ nT r pp = -1 := by
  obtain ⟨h1, h2, h3⟩ := h r hr
  refine fnd_none nT 0 (fun x _ hx hq => ?_)
  unfold mAt at hq
  simp only [Bool.and_eq_true, decide_eq_true_eq] at hq
  have hm : x ∈ qs r := (h2 x).mpr ⟨by omega, hq.1⟩
  obtain ⟨j, hj⟩ := List.getElem?_of_mem hm
  obtain ⟨hjl, -⟩ := List.getElem?_eq_some_iff.mp hj
  have e := hq.2
  rw [ahd_cnt h hr hj] at e
  exact hp j hjl e
theorem mQn_len (h : RQ qs τ nT) (hr : r < 12) : mQn τ nT r = (qs r).length := by
  obtain ⟨h1, h2, h3⟩ := h r hr
  rw [← cnt_mem nT (qs r) h1 (fun u hu => ((h2 u).mp hu).1)]
  unfold mQn
  refine cnt_co _ _ (fun i _ hi => ?_)
  by_cases c : i ∈ qs r
  · simp [c, ((h2 i).mp c).2]
  · have : ¬ τ 10 i = 100 + nI r := fun z => c ((h2 i).mpr ⟨by omega, z⟩)
    simp [c, this]
end QUE
