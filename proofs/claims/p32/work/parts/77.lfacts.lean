/-! what the law's numbers say -/
section LFACTS
variable {μ τ : SG} {nT nW t w : Nat}
theorem lr_so (hR : LR μ τ nT nW) (ht : t < nT) : μ 3 t - μ 3 t / 4 * 4 = τ 4 t := by
  obtain ⟨so, ho, me, d, a1, a2, a3, a4, e, e4, -⟩ := hR.2.2.2.1 t ht
  rw [e, e4]
  show nI _ - nI _ / nI 4 * nI 4 = _
  rw [pk_rem (by omega) (by decide) (by decide)]
  congr 1
  omega
theorem lr_day (hR : LR μ τ nT nW) (ht : t < nT) : μ 3 t / 128 = τ 7 t := by
  obtain ⟨so, ho, me, d, a1, a2, a3, a4, e, e4, -, -, e7⟩ := hR.2.2.2.1 t ht
  rw [e, e7]
  show nI _ / nI 128 = _
  rw [pk_div (by omega) (by decide) (by decide)]
  congr 1
  omega
theorem lr_ho (hR : LR μ τ nT nW) (ht : t < nT) : ∃ ho, ho < 4 ∧ μ 3 t / 4 - μ 3 t / 4 / 4 * 4 = nI ho ∧ (τ 4 t = 0 → τ 5 t = nI ho) := by
  obtain ⟨so, ho, me, d, a1, a2, a3, a4, e, e4, e5, -⟩ := hR.2.2.2.1 t ht
  refine ⟨ho, a2, ?_, fun h => e5 ?_⟩
  · rw [e]
    show nI _ / nI 4 - nI _ / nI 4 / nI 4 * nI 4 = _
    rw [pk_div (by omega) (by decide) (by decide), pk_rem (by omega) (by decide) (by decide)]
    congr 1
    omega
  · rw [e4] at h
    exact nIe (by omega) (by decide) h
theorem lr_me (hR : LR μ τ nT nW) (ht : t < nT) {so9 : Nat} (h2 : 2 ≤ so9) (h3 : so9 < 4) (h : τ 4 t = nI so9) : μ 3 t / 16 - μ 3 t / 16 / 8 * 8 = τ 6 t := by
  obtain ⟨so, ho, me, d, a1, a2, a3, a4, e, e4, -, e6, -⟩ := hR.2.2.2.1 t ht
  rw [e4] at h
  have : so = so9 := nIe (by omega) (by omega) h
  rw [e6 (by omega), e]
  show nI _ / nI 16 - nI _ / nI 16 / nI 8 * nI 8 = _
  rw [pk_div (by omega) (by decide) (by decide), pk_rem (by omega) (by decide) (by decide)]
  congr 1
  omega
theorem lr_now (hR : LR μ τ nT nW) (ht : t < nT) : mNow τ t = true ↔ τ 7 t = τ 26 0 ∧ ¬ μ 4 t < 0 := by
  unfold mNow
  simp only [Bool.and_eq_true, decide_eq_true_eq]
  rcases hR.2.2.2.2.1 t ht with ⟨h1, h2, -⟩ | ⟨h1, h2⟩
  · exact ⟨fun z => ⟨z.1, h1⟩, fun z => ⟨z.1, h2⟩⟩
  · refine ⟨fun z => absurd (h2.symm.trans z.2) (by decide), fun z => ?_⟩
    rw [h1] at z
    exact absurd z.2 (by decide)
theorem lr_c (hR : LR μ τ nT nW) (ht : t < nT) (hn : mNow τ t = true) : μ 4 t = τ 8 t := by
  obtain ⟨-, h⟩ := (lr_now hR ht).mp hn
  rcases hR.2.2.2.2.1 t ht with ⟨h1, h2, h3⟩ | ⟨h1, h2⟩
  · exact h3.symm
  · rw [h1] at h
    exact absurd h (by decide)
theorem lr_s (hR : LR μ τ nT nW) (t : Nat) : μ 5 t = τ 13 t := (hR.2.2.2.2.2.1 t).1
theorem lr_s4 (hR : LR μ τ nT nW) (t : Nat) : ∃ s, s < 4096 ∧ τ 13 t = nI s := (hR.2.2.2.2.2.1 t).2
theorem lr_q (hR : LR μ τ nT nW) (t : Nat) : μ 7 t = τ 11 t := (hR.2.2.2.2.2.2.2.1 t).1
theorem lr_k (hR : LR μ τ nT nW) {r : Nat} (hr : r < 12) : μ 8 r = τ 14 r := hR.2.2.2.2.2.2.2.2.1 r hr
theorem lr_l (hR : LR μ τ nT nW) {k : Nat} (hk : k < 6) : μ 2 k = τ 2 k := hR.2.2.1 k hk
theorem lr_m (hR : LR μ τ nT nW) {j : Nat} (hj : j < 5) : μ 13 j = τ 24 j := hR.2.2.2.2.2.2.2.2.2.2.2.2 j hj
theorem lr_b (hR : LR μ τ nT nW) (w : Nat) : μ 10 w = τ 21 w ∧ μ 11 w = τ 22 w ∧ μ 12 w = τ 23 w := hR.2.2.2.2.2.2.2.2.2.2.2.1 w
theorem lr_p (hR : LR μ τ nT nW) {h : Nat} (hh : h < 4) : μ 1 h = τ 0 h := (hR.2.1.1 h hh).1
theorem lr_n0 (hR : LR μ τ nT nW) : μ 0 0 = nI nT := hR.1.1
theorem lr_n1 (hR : LR μ τ nT nW) : μ 0 1 = nI nW := hR.1.2.1
theorem lr_n60 (hR : LR μ τ nT nW) : nT ≤ 60 ∧ nW ≤ 10 := ⟨hR.1.2.2.1, hR.1.2.2.2.1⟩
theorem lr_n2 (hR : LR μ τ nT nW) : μ 0 2 = τ 26 0 := hR.1.2.2.2.2.1
theorem lr_n3 (hR : LR μ τ nT nW) : μ 0 3 = τ 1 0 := hR.1.2.2.2.2.2.1
theorem lr_n4 (hR : LR μ τ nT nW) : μ 0 4 = τ 12 0 := hR.1.2.2.2.2.2.2.1
theorem lr_n5 (hR : LR μ τ nT nW) : μ 0 5 = τ 25 0 := hR.1.2.2.2.2.2.2.2.1
theorem lr_nT (hR : LR μ τ nT nW) : τ 3 0 = nI nT := hR.1.2.2.2.2.2.2.2.2.1
theorem lr_nW (hR : LR μ τ nT nW) : τ 16 0 = nI nW := hR.1.2.2.2.2.2.2.2.2.2
/-- where a ticket is -/
theorem lr_pl (hR : LR μ τ nT nW) (ht : t < nT) : pw (μ 6 t) (τ 10 t) := hR.2.2.2.2.2.2.1.1 t ht
theorem pw_in {x y : Int32} (h : pw x y) {r : Nat} (hr : r < 12) : x = nI r + 1 ↔ y = nI r := by
  rw [nI_1]
  rcases h with ⟨rfl, rfl⟩ | ⟨b, hb, ⟨rfl, rfl⟩ | ⟨rfl, rfl⟩⟩
  · exact (by decide +kernel : ∀ r, r < 12 → ((0 : Int32) = nI (r + 1) ↔ (-1 : Int32) = nI r)) r hr
  · exact ⟨fun z => by rw [show b = r from by have := nIe (by omega) (by omega) z; omega], fun z => by rw [nIe (by omega) (by omega) z]⟩
  · exact ⟨fun z => by have := nIe (by omega) (by omega) z; omega, fun z => absurd z.symm (n_q hr hb)⟩
theorem pw_qu {x y : Int32} (h : pw x y) {r : Nat} (hr : r < 12) : x = nI r + 102 ↔ y = 100 + nI r := by
  rw [show nI r + 102 = nI (r + 102) from nI_addN r 102]
  rcases h with ⟨rfl, rfl⟩ | ⟨b, hb, ⟨rfl, rfl⟩ | ⟨rfl, rfl⟩⟩
  · exact (by decide +kernel : ∀ r, r < 12 → ((0 : Int32) = nI (r + 102) ↔ (-1 : Int32) = 100 + nI r)) r hr
  · exact ⟨fun z => by have := nIe (by omega) (by omega) z; omega, fun z => absurd z (n_q hb hr)⟩
  · exact ⟨fun z => by rw [show b = r from by have := nIe (by omega) (by omega) z; omega], fun z => by rw [q_inj hb hr z]⟩
theorem pw_0 {x y : Int32} (h : pw x y) : x = 0 ↔ y = -1 := by
  rcases h with ⟨rfl, rfl⟩ | ⟨b, hb, ⟨rfl, rfl⟩ | ⟨rfl, rfl⟩⟩
  · exact ⟨fun _ => rfl, fun _ => rfl⟩
  · exact (by decide +kernel : ∀ b, b < 12 → (nI (b + 1) = 0 ↔ nI b = -1)) b hb
  · exact (by decide +kernel : ∀ b, b < 12 → (nI (b + 102) = 0 ↔ 100 + nI b = -1)) b hb
/-- works -/
theorem lr_a (hR : LR μ τ nT nW) (hw : w < nW) : ∃ ho r le fe, ho < 4 ∧ r < 12 ∧ le < 2 ∧ fe ≤ 1000 ∧ μ 9 w = nI (ho + 4 * r + 64 * le + 128 * fe) ∧ τ 17 w = nI ho ∧ τ 18 w = nI r ∧ τ 19 w = nI le ∧ (le = 1 → τ 20 w = nI fe) := hR.2.2.2.2.2.2.2.2.2.2.1 w hw
theorem lr_aho (hR : LR μ τ nT nW) (hw : w < nW) : μ 9 w - μ 9 w / 4 * 4 = τ 17 w := by
  obtain ⟨ho, r, le, fe, a1, a2, a3, a4, e, e17, -⟩ := lr_a hR hw
  rw [e, e17]
  show nI _ - nI _ / nI 4 * nI 4 = _
  rw [pk_rem (by omega) (by decide) (by decide)]
  congr 1
  omega
theorem lr_ar (hR : LR μ τ nT nW) (hw : w < nW) : μ 9 w / 4 - μ 9 w / 4 / 16 * 16 = τ 18 w := by
  obtain ⟨ho, r, le, fe, a1, a2, a3, a4, e, -, e18, -⟩ := lr_a hR hw
  rw [e, e18]
  show nI _ / nI 4 - nI _ / nI 4 / nI 16 * nI 16 = _
  rw [pk_div (by omega) (by decide) (by decide), pk_rem (by omega) (by decide) (by decide)]
  congr 1
  omega
theorem lr_ale (hR : LR μ τ nT nW) (hw : w < nW) : μ 9 w / 64 - μ 9 w / 64 / 2 * 2 = τ 19 w := by
  obtain ⟨ho, r, le, fe, a1, a2, a3, a4, e, -, -, e19, -⟩ := lr_a hR hw
  rw [e, e19]
  show nI _ / nI 64 - nI _ / nI 64 / nI 2 * nI 2 = _
  rw [pk_div (by omega) (by decide) (by decide), pk_rem (by omega) (by decide) (by decide)]
  congr 1
  omega
theorem lr_afe (hR : LR μ τ nT nW) (hw : w < nW) (h : τ 19 w = 1) : μ 9 w / 128 = τ 20 w := by
  obtain ⟨ho, r, le, fe, a1, a2, a3, a4, e, -, -, e19, e20⟩ := lr_a hR hw
  rw [e19] at h
  rw [e20 (nIe (by omega) (by decide) h), e]
  show nI _ / nI 128 = _
  rw [pk_div (by omega) (by decide) (by decide)]
  congr 1
  omega
theorem lr_le01 (hR : LR μ τ nT nW) (hw : w < nW) : ¬ τ 19 w = 0 ↔ τ 19 w = 1 := by
  obtain ⟨ho, r, le, fe, a1, a2, a3, a4, e, -, -, e19, -⟩ := lr_a hR hw
  rw [e19]
  rcases (show le = 0 ∨ le = 1 by omega) with h | h <;> subst h <;> decide
end LFACTS
/-! the queue of the law: the least rank behind a rank -/
def QB (τ : SG) : Prop := ∀ t, ∃ q, q < 1000 ∧ τ 11 t = nI q
theorem lr_QB {μ τ : SG} {nT nW : Nat} (hR : LR μ τ nT nW) : QB τ := fun t => (hR.2.2.2.2.2.2.2.1 t).2
def rk (τ : SG) (t : Nat) : Int32 := (if τ 4 t = 2 then 0 else 100000) + τ 11 t
def rN (τ : SG) (t : Nat) : Nat := (if τ 4 t = 2 then 0 else 100000) + (τ 11 t).toNatClampNeg
def lQ1 (τ : SG) (r : Nat) (bh : Int32) (i : Nat) (x : Int32 × Int32) : Int32 × Int32 := if τ 10 i = 100 + nI r ∧ bh < rk τ i ∧ rk τ i < x.2 then (nI i, rk τ i) else x
def lQX (τ : SG) (r : Nat) (bh : Int32) (n : Nat) : Int32 × Int32 := itr (lQ1 τ r bh) 0 n (-1, 1000000)
def lQue (τ : SG) (n r : Nat) (bh : Int32) : Int32 := (lQX τ r bh n).1
def lRk (τ : SG) (x : Int32) : Int32 := if x < 0 then 900000 else rk τ x.toNatClampNeg
theorem itr_last {S : Type} {F : Nat → S → S} (n a : Nat) (x : S) : itr F a (n + 1) x = F (a + n) (itr F a n x) := itr_add n 1 a x
section LQUE
variable {τ : SG} {n r : Nat} {bh : Int32}
theorem rk_n (hq : QB τ) (t : Nat) : rk τ t = nI (rN τ t) ∧ rN τ t < 101000 := by
  obtain ⟨q, h1, h2⟩ := hq t
  unfold rk rN
  rw [h2, nI_clamp (by omega)]
  split
  · exact ⟨nI_addN 0 q, by omega⟩
  · exact ⟨nI_addN 100000 q, by omega⟩
theorem lQ_spec (hq : QB τ) (P : Nat → Prop) : ∀ n, (∀ i, i < n → ((τ 10 i = 100 + nI r ∧ bh < rk τ i) ↔ P i)) →
    ((∀ i, i < n → ¬ P i) ∧ lQX τ r bh n = (-1, 1000000)) ∨ ∃ u, u < n ∧ P u ∧ lQX τ r bh n = (nI u, nI (rN τ u)) ∧ (∀ i, i < n → P i → rN τ u ≤ rN τ i) ∧ ∀ i, i < u → P i → rN τ u < rN τ i
  | 0, _ => Or.inl ⟨fun i hi => absurd hi (Nat.not_lt_zero i), rfl⟩
  | n + 1, h => by
    have e : lQX τ r bh (n + 1) = lQ1 τ r bh n (lQX τ r bh n) := by
      unfold lQX
      rw [itr_last, Nat.zero_add]
    obtain ⟨k1, k2⟩ := rk_n hq n
    rw [e]
    unfold lQ1
    rcases lQ_spec hq P n (fun i hi => h i (by omega)) with ⟨a1, a2⟩ | ⟨u, u1, u2, u3, u4, u5⟩
    · rw [a2]
      by_cases c : P n
      · have c2 := (h n (Nat.lt_succ_self n)).mpr c
        rw [if_pos ⟨c2.1, c2.2, by rw [k1]; exact (nI_ltI (b := 1000000) (by omega) (by decide)).mpr (by omega)⟩]
        refine Or.inr ⟨n, Nat.lt_succ_self n, c, by rw [k1], fun i hi hp => ?_, fun i hi hp => absurd hp (a1 i hi)⟩
        by_cases d : i = n
        · rw [d]; exact Nat.le_refl _
        · exact absurd hp (a1 i (by omega))
      · rw [if_neg (fun z => c ((h n (Nat.lt_succ_self n)).mp ⟨z.1, z.2.1⟩))]
        refine Or.inl ⟨fun i hi hp => ?_, rfl⟩
        by_cases d : i = n
        · exact c (d ▸ hp)
        · exact a1 i (by omega) hp
    · rw [u3]
      obtain ⟨l1, l2⟩ := rk_n hq u
      by_cases c : P n ∧ rN τ n < rN τ u
      · have c2 := (h n (Nat.lt_succ_self n)).mpr c.1
        rw [if_pos ⟨c2.1, c2.2, by rw [k1]; exact (nI_ltI (by omega) (by omega)).mpr c.2⟩]
        refine Or.inr ⟨n, Nat.lt_succ_self n, c.1, by rw [k1], fun i hi hp => ?_, fun i hi hp => ?_⟩
        · by_cases d : i = n
          · rw [d]; exact Nat.le_refl _
          · have := u4 i (by omega) hp; omega
        · have := u4 i hi hp; omega
      · rw [if_neg (fun z => c ⟨(h n (Nat.lt_succ_self n)).mp ⟨z.1, z.2.1⟩, by
          have z2 := z.2.2
          rw [k1] at z2
          exact (nI_ltI (by omega) (by omega)).mp z2⟩)]
        refine Or.inr ⟨u, by omega, u2, rfl, fun i hi hp => ?_, u5⟩
        by_cases d : i = n
        · subst d
          exact Nat.le_of_not_lt (fun z => c ⟨hp, z⟩)
        · exact u4 i (by omega) hp
theorem ahead_rN (hq : QB τ) (u t : Nat) : mAhead τ u t = true ↔ rN τ u < rN τ t := by
  obtain ⟨q1, a1, a2⟩ := hq u
  obtain ⟨q2, b1, b2⟩ := hq t
  unfold mAhead rN
  rw [a2, b2, nI_clamp (by omega), nI_clamp (by omega)]
  have lt : nI q1 < nI q2 ↔ q1 < q2 := nI_ltI (by omega) (by omega)
  by_cases c1 : τ 4 u = 2
  · by_cases c2 : τ 4 t = 2
    · simp [c1, c2, lt]
    · simp [c1, c2]; omega
  · by_cases c2 : τ 4 t = 2
    · simp [c1, c2]; omega
    · simp [c1, c2, lt]
theorem fnd_first {p : Nat → Bool} {u : Nat} : ∀ (n a : Nat), a ≤ u → u < a + n → p u = true → (∀ x, a ≤ x → x < u → ¬ p x = true) → fndF p a n = nI u
  | 0, a, h1, h2, _, _ => by omega
  | n + 1, a, h1, h2, hp, h => by
    simp only [fndF]
    by_cases c : p a = true
    · rw [if_pos c]
      by_cases d : a = u
      · rw [d]
      · exact absurd c (h a (Nat.le_refl _) (by omega))
    · rw [if_neg c]
      have : a ≠ u := fun z => c (z ▸ hp)
      exact fnd_first n (a + 1) (by omega) (by omega) hp (fun x h1 h2 => h x (by omega) h2)
theorem lQue_0 (hq : QB τ) (hn : n ≤ 80) : lQue τ n r (-1) = mQ τ n r 0 := by
  have pos : ∀ i, (-1 : Int32) < rk τ i := fun i => by
    obtain ⟨k1, k2⟩ := rk_n hq i
    rw [k1, Int32.lt_iff_toInt_lt, nI_toInt (by omega)]
    have : (-1 : Int32).toInt = -1 := by decide
    omega
  unfold lQue mQ
  rcases lQ_spec (r := r) (bh := -1) hq (fun i => τ 10 i = 100 + nI r) n (fun i _ => ⟨fun z => z.1, fun z => ⟨z, pos i⟩⟩) with ⟨a1, a2⟩ | ⟨u, u1, u2, u3, u4, u5⟩
  · rw [a2]
    refine (fnd_none n 0 (fun x _ hx hp => ?_)).symm
    unfold mAt at hp
    simp only [Bool.and_eq_true, decide_eq_true_eq] at hp
    exact a1 x (by omega) hp.1
  · rw [u3]
    refine (fnd_first n 0 (Nat.zero_le _) (by omega) ?_ (fun x _ hx hp => ?_)).symm
    · unfold mAt
      rw [cnt_zero n 0 (fun i _ hi hp => ?_)]
      · simp [u2]; rfl
      · unfold mAhd at hp
        simp only [Bool.and_eq_true, decide_eq_true_eq] at hp
        have := (ahead_rN hq i u).mp hp.2
        have := u4 i (by omega) hp.1.1
        omega
    · unfold mAt at hp
      simp only [Bool.and_eq_true, decide_eq_true_eq] at hp
      have h0 := nIe (a := cntF (mAhd τ r x) 0 n) (b := 0) (by have := cntF_le (mAhd τ r x) n 0; omega) (by decide) hp.2
      have lt := u5 x hx hp.1
      have := cntF_lt (p := mAhd τ r x) (q := fun _ => false) n 0 u (Nat.zero_le _) (by omega) (by
        unfold mAhd
        have : ¬ u = x := by omega
        simp [u2, this, (ahead_rN hq u x).mpr lt]) rfl (fun i _ _ z => by cases z)
      omega
theorem lRk_n (hq : QB τ) {u : Nat} (hu : u < 2 ^ 31) : lRk τ (nI u) = nI (rN τ u) := by
  unfold lRk
  rw [if_neg (nI_pos hu), nI_clamp hu]
  exact (rk_n hq u).1
theorem lQue_1 {qs : Nat → List Nat} (hq : QB τ) (h : RQ qs τ n) (hn : n ≤ 80) (hr : r < 12) : lQue τ n r (lRk τ (mQ τ n r 0)) = mQ τ n r 1 := by
  obtain ⟨h1, h2, h3⟩ := h r hr
  have hl := q_len h hr
  cases e : qs r with
  | nil =>
    rw [mQ_no h hn hr (pp := 0) (fun j hj => by rw [e] at hj; exact absurd hj (Nat.not_lt_zero j)), mQ_no h hn hr (pp := 1) (fun j hj => by rw [e] at hj; exact absurd hj (Nat.not_lt_zero j))]
    unfold lQue
    rcases lQ_spec (r := r) (bh := lRk τ (-1)) hq (fun i => False) n (fun i hi => ⟨fun z => by
      have := (h2 i).mpr ⟨hi, z.1⟩
      rw [e] at this
      exact absurd this List.not_mem_nil, fun z => z.elim⟩) with ⟨a1, a2⟩ | ⟨u, u1, u2, -⟩
    · rw [a2]
    · exact u2.elim
  | cons t0 q =>
    have e0 : (qs r)[0]? = some t0 := by rw [e]; rfl
    have t0m : t0 ∈ qs r := by rw [e]; exact List.mem_cons_self
    have t0n : t0 < n := ((h2 t0).mp t0m).1
    rw [show mQ τ n r 0 = nI t0 from mQ_at (i := 0) h hn hr e0, lRk_n hq (by omega)]
    rw [e] at h1 h3
    obtain ⟨p1, p2⟩ := List.pairwise_cons.mp h3
    obtain ⟨n1, n2⟩ := List.nodup_cons.mp h1
    have key : ∀ i, i < n → ((τ 10 i = 100 + nI r ∧ nI (rN τ t0) < rk τ i) ↔ i ∈ q) := fun i hi => by
      obtain ⟨k1, k2⟩ := rk_n hq i
      obtain ⟨l1, l2⟩ := rk_n hq t0
      rw [k1, nI_ltI (by omega) (by omega)]
      constructor
      · intro z
        have hm : i ∈ qs r := (h2 i).mpr ⟨hi, z.1⟩
        rw [e] at hm
        rcases List.mem_cons.mp hm with d | d
        · rw [d] at z; omega
        · exact d
      · intro z
        exact ⟨((h2 i).mp (by rw [e]; exact List.mem_cons_of_mem _ z)).2, (ahead_rN hq t0 i).mp (p1 i z)⟩
    unfold lQue
    rcases lQ_spec (r := r) (bh := nI (rN τ t0)) hq (fun i => i ∈ q) n key with ⟨a1, a2⟩ | ⟨u, u1, u2, u3, u4, u5⟩
    · rw [a2]
      cases q with
      | nil =>
        refine (mQ_no h hn hr (pp := 1) (fun j hj => ?_)).symm
        rw [e] at hj
        have : j = 0 := by simp at hj; omega
        subst this
        decide
      | cons t1 q => exact absurd List.mem_cons_self (a1 t1 ((h2 t1).mp (by rw [e]; simp)).1)
    · rw [u3]
      cases q with
      | nil => exact absurd u2 List.not_mem_nil
      | cons t1 q =>
        have e1 : (qs r)[1]? = some t1 := by rw [e]; rfl
        rw [show mQ τ n r 1 = nI t1 from mQ_at (i := 1) h hn hr e1]
        obtain ⟨p3, p4⟩ := List.pairwise_cons.mp p2
        rcases List.mem_cons.mp u2 with d | d
        · rw [d]
        · have := (ahead_rN hq t1 u).mp (p3 u d)
          have := u4 t1 ((h2 t1).mp (by rw [e]; simp)).1 List.mem_cons_self
          omega
end LQUE
