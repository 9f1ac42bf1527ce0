/-! the money of a day is found again -/
def sumN (g : Nat → Int32) : Nat → Nat → Int32
  | _, 0 => 0
  | a, n + 1 => g a + sumN g (a + 1) n
theorem sum_co {g h : Nat → Int32} : ∀ (n a : Nat), (∀ i, a ≤ i → i < a + n → g i = h i) → sumN g a n = sumN h a n
  | 0, _, _ => rfl
  | n + 1, a, e => by
    simp only [sumN]
    rw [e a (Nat.le_refl _) (by omega), sum_co n (a + 1) (fun i h1 h2 => e i (by omega) (by omega))]
theorem ac3 (a b x : Int32) : x + a + b = x + (a + b) := Int32.add_assoc x a b
theorem sum_ch {g h : Nat → Int32} {k : Nat} : ∀ (n a : Nat), a ≤ k → k < a + n → (∀ i, a ≤ i → i < a + n → i ≠ k → g i = h i) → sumN g a n = sumN h a n + (g k - h k)
  | 0, a, h1, h2, _ => by omega
  | n + 1, a, h1, h2, e => by
    simp only [sumN]
    by_cases c : a = k
    · subst c
      rw [sum_co n (a + 1) (fun i h1 h2 => e i (by omega) (by omega) (by omega))]
      generalize sumN h (a + 1) n = w
      generalize g a = x
      generalize h a = y
      grind
    · rw [e a (Nat.le_refl _) (by omega) c, sum_ch n (a + 1) (by omega) (by omega) (fun i h1 h2 => e i (by omega) (by omega))]
      exact (Int32.add_assoc _ _ _).symm
theorem sum_add {g : Nat → Int32} : ∀ (m n a : Nat), sumN g a (m + n) = sumN g a m + sumN g (a + m) n
  | 0, n, a => by rw [Nat.zero_add]; exact (Int32.zero_add _).symm
  | m + 1, n, a => by
    rw [show m + 1 + n = (m + n) + 1 by omega]
    simp only [sumN]
    rw [sum_add m n (a + 1), show a + 1 + m = a + (m + 1) by omega]
    exact (Int32.add_assoc _ _ _).symm
theorem sum_cnt {p : Nat → Bool} {x : Int32} : ∀ (n a : Nat), sumN (fun k => if p k = true then x else 0) a n = nI (cntF p a n) * x
  | 0, _ => (Int32.zero_mul).symm
  | n + 1, a => by
    simp only [sumN, cntF]
    rw [sum_cnt n (a + 1), ← nI_addN]
    by_cases c : p a = true
    · rw [if_pos c, if_pos c, Int32.add_mul, show nI 1 = 1 from rfl, Int32.one_mul]
    · rw [if_neg c, if_neg c, show nI 0 = 0 from rfl, Int32.zero_add, Int32.zero_add]
/-- what the group gets of an amount that no room shares -/
def p1 (hh : Int32) : Int32 := if hh = -1 then 200 else 0
theorem part_0 (am hh : Int32) : fPart am 0 hh = if hh = -1 then am else 0 := by
  have e0 : popc 0 = 0 := by decide
  unfold fPart fEach
  rw [e0, if_pos rfl, Int32.zero_mul, Int32.sub_zero, Int32.zero_mul]
theorem part_a (a hh : Int32) : fPart (a * 200) 0 hh = a * p1 hh := by
  rw [part_0]
  unfold p1
  split
  · rfl
  · exact Int32.mul_zero.symm
theorem part_1 (hh : Int32) : fPart 200 0 hh = p1 hh := part_0 200 hh
def mtk (σ : SG) (i : Nat) : Bool := decide (σ 10 i = 2) && decide (σ 14 i = 0)
def gT (σ : SG) (hh : Int32) (i : Nat) : Int32 := if σ 14 i = 0 then fPart (σ 13 i) (σ 15 i) hh else 0
def gM (σ : SG) (hh : Int32) (i : Nat) : Int32 := if mtk σ i = true then fPart 200 (σ 15 i) hh else 0
def gV (σ : SG) (hh : Int32) (a n : Nat) (k : Nat) : Int32 := if fBel (σ 9 k) (σ 25 0) = true then fPart 200 (fSeen σ (nI k) a n) hh else 0
section MONEY
variable {σ0 σ τ : SG} {nT nW f D : Nat} {hh : Int32}
theorem br_sum : ∀ (n a : Nat) (x : Int32), itr (fBr1 σ hh) a n x = x + sumN (gT σ hh) a n
  | 0, _, x => (Int32.add_zero x).symm
  | n + 1, a, x => by
    show itr (fBr1 σ hh) (a + 1) n (fBr1 σ hh a x) = _
    rw [br_sum n (a + 1)]
    simp only [sumN]
    unfold fBr1 gT
    split
    · exact Int32.add_assoc _ _ _
    · rw [Int32.zero_add]
theorem bm_sum : ∀ (n a : Nat) (x : Int32 × Int32), itr (fBm1 σ hh) a n x = (x.1 - nI (cntF (mtk σ) a n), x.2 + sumN (gM σ hh) a n)
  | 0, _, x => by
    show x = (x.1 - 0, x.2 + 0)
    rw [Int32.sub_zero, Int32.add_zero]
  | n + 1, a, x => by
    show itr (fBm1 σ hh) (a + 1) n (fBm1 σ hh a x) = _
    rw [bm_sum n (a + 1)]
    simp only [sumN, cntF]
    rw [← nI_addN]
    by_cases c : mtk σ a = true
    · have c2 : σ 10 a = 2 ∧ σ 14 a = 0 := by unfold mtk at c; simpa using c
      unfold fBm1 gM
      rw [if_pos c2, if_pos c, if_pos c]
      show (x.1 + (-1) - nI (cntF (mtk σ) (a + 1) n), _) = (x.1 - (1 + nI (cntF (mtk σ) (a + 1) n)), _)
      generalize nI (cntF (mtk σ) (a + 1) n) = w
      refine Prod.ext ?_ ?_
      · show x.1 + (-1) - w = x.1 - (1 + w)
        generalize x.1 = z
        grind
      · exact Int32.add_assoc _ _ _
    · have c2 : ¬ (σ 10 a = 2 ∧ σ 14 a = 0) := fun z => c (by unfold mtk; simp [z])
      unfold fBm1 gM
      rw [if_neg c2, if_neg c, if_neg c, Int32.zero_add, show nI 0 = 0 from rfl, Int32.zero_add]
theorem brT_eq : fBrT σ hh f = sumN (gT σ hh) 0 f := by
  unfold fBrT
  rw [br_sum, Int32.zero_add]
theorem brM_eq : fBrM σ hh f = sumN (gM σ hh) 0 f + (fDw σ - nI (cntF (mtk σ) 0 f)) * p1 hh := by
  unfold fBrM fBmL
  rw [bm_sum, part_a, Int32.zero_add]
theorem shT_1 {j : Nat} (hj : j < 5) : ∀ (n a : Nat) (σ : SG), itr fShT a n σ 1 j = σ 1 j + sumN (gT σ (nI j - 1)) a n ∧ ∀ g, g ≠ 1 → ∀ i, itr fShT a n σ g i = σ g i
  | 0, _, σ => ⟨(Int32.add_zero _).symm, fun _ _ _ => rfl⟩
  | n + 1, a, σ => by
    show itr fShT (a + 1) n (fShT a σ) 1 j = _ ∧ ∀ g, g ≠ 1 → ∀ i, itr fShT (a + 1) n (fShT a σ) g i = σ g i
    obtain ⟨i1, i2⟩ := shT_1 hj n (a + 1) (fShT a σ)
    have hne : ∀ g, g ≠ 1 → ∀ i, fShT a σ g i = σ g i := fun g hg i => by
      unfold fShT
      split
      · exact shr_ne hg σ
      · rfl
    refine ⟨?_, fun g hg i => (i2 g hg i).trans (hne g hg i)⟩
    rw [i1]
    simp only [sumN]
    rw [sum_co (g := gT (fShT a σ) (nI j - 1)) (h := gT σ (nI j - 1)) n (a + 1) (fun i _ _ => by
      unfold gT
      rw [hne 14 (by decide), hne 13 (by decide), hne 15 (by decide)])]
    rw [show fShT a σ 1 j = σ 1 j + gT σ (nI j - 1) a from by
      unfold fShT gT
      split
      · unfold fShare
        rw [shr_1, if_pos (by omega)]
      · exact (Int32.add_zero _).symm]
    exact Int32.add_assoc _ _ _
theorem seenC {σ σ' : SG} (h : ∀ g, g ≠ 1 → ∀ i, σ' g i = σ g i) {mm : Int32} : ∀ (n a : Nat), fSeen σ' mm a n = fSeen σ mm a n
  | 0, _ => rfl
  | n + 1, a => by
    simp only [fSeen]
    rw [seenC h n (a + 1), h 15 (by decide), show pOf σ' mm 2 a = pOf σ mm 2 a from by
      unfold pOf
      rw [h 14 (by decide), h 10 (by decide), h 12 (by decide)]]
theorem shM_1 {j : Nat} (hj : j < 5) : ∀ (n a : Nat) (σ : SG), itr (fShM f nT) a n σ 1 j = σ 1 j + sumN (gV σ (nI j - 1) f (nT - f)) a n ∧ ∀ g, g ≠ 1 → ∀ i, itr (fShM f nT) a n σ g i = σ g i
  | 0, _, σ => ⟨(Int32.add_zero _).symm, fun _ _ _ => rfl⟩
  | n + 1, a, σ => by
    show itr (fShM f nT) (a + 1) n (fShM f nT a σ) 1 j = _ ∧ ∀ g, g ≠ 1 → ∀ i, itr (fShM f nT) (a + 1) n (fShM f nT a σ) g i = σ g i
    obtain ⟨i1, i2⟩ := shM_1 hj n (a + 1) (fShM f nT a σ)
    have hne : ∀ g, g ≠ 1 → ∀ i, fShM f nT a σ g i = σ g i := fun g hg i => by
      unfold fShM
      split
      · exact shr_ne hg σ
      · rfl
    refine ⟨?_, fun g hg i => (i2 g hg i).trans (hne g hg i)⟩
    rw [i1]
    simp only [sumN]
    rw [sum_co (g := gV (fShM f nT a σ) (nI j - 1) f (nT - f)) (h := gV σ (nI j - 1) f (nT - f)) n (a + 1) (fun i _ _ => by
      unfold gV
      rw [hne 9 (by decide), hne 25 (by decide), seenC hne])]
    rw [show fShM f nT a σ 1 j = σ 1 j + gV σ (nI j - 1) f (nT - f) a from by
      unfold fShM gV
      by_cases c : fBel (σ 9 a) (σ 25 0) = true
      · rw [if_pos c, if_pos c]
        unfold fShare
        rw [shr_1, if_pos (by omega)]
      · rw [if_neg c, if_neg c]
        exact (Int32.add_zero _).symm]
    exact Int32.add_assoc _ _ _
theorem seen_none {mm : Int32} : ∀ (n a : Nat), (∀ i, a ≤ i → i < a + n → ¬ pOf σ mm 2 i = true) → fSeen σ mm a n = 0
  | 0, _, _ => rfl
  | n + 1, a, h => by
    simp only [fSeen]
    rw [if_neg (h a (Nat.le_refl _) (by omega))]
    exact seen_none n (a + 1) (fun i h1 h2 => h i (by omega) (by omega))
/-- what the memberships share today -/
theorem day_sum (hX : RX σ nT f) : ∀ (n a : Nat), f ≤ a → a + n ≤ nT → sumN (gV σ hh a n) 0 6 = sumN (gM σ hh) a n + (nI (cntF (fun k => fBel (σ 9 k) (σ 25 0)) 0 6) - nI (cntF (mtk σ) a n)) * p1 hh
  | 0, a, _, _ => by
    rw [sum_co (h := fun k => if fBel (σ 9 k) (σ 25 0) = true then p1 hh else 0) 6 0 (fun i _ _ => by
      unfold gV
      rw [show fSeen σ (nI i) a 0 = 0 from rfl, part_1]), sum_cnt]
    show _ = 0 + (nI _ - nI 0) * p1 hh
    rw [Int32.zero_add, show nI 0 = 0 from rfl, Int32.sub_zero]
  | n + 1, a, h1, h2 => by
    have ih := day_sum hX n (a + 1) (by omega) (by omega)
    have ec : cntF (mtk σ) a (n + 1) = (if mtk σ a = true then 1 else 0) + cntF (mtk σ) (a + 1) n := rfl
    rw [sumN.eq_2 (gM σ hh) a n, ec, ← nI_addN]
    by_cases c : mtk σ a = true
    · have c2 : σ 10 a = 2 ∧ σ 14 a = 0 := by unfold mtk at c; simpa using c
      obtain ⟨k0, k1, k2, k3⟩ := hX.1 a h1 (by omega) c2.1
      rw [if_pos c]
      rw [sum_ch (g := gV σ hh a (n + 1)) (h := gV σ hh (a + 1) n) (k := k0) 6 0 (Nat.zero_le _) (by omega) (fun i _ hi6 hi => ?_), ih]
      · have e1 : gV σ hh a (n + 1) k0 = gM σ hh a := by
          unfold gV gM
          rw [if_pos k3, if_pos c]
          simp only [fSeen]
          rw [if_pos (pOf_iff.mpr ⟨c2.2, c2.1, k2⟩)]
        have e2 : gV σ hh (a + 1) n k0 = p1 hh := by
          unfold gV
          rw [if_pos k3, seen_none n (a + 1) (fun i b1 b2 hp => ?_), part_1]
          obtain ⟨w1, w2, w3⟩ := pOf_iff.mp hp
          have := hX.2 a i h1 (by omega) (by omega) (by omega) c2.1 w2 c2.2 w1 (k2.trans w3.symm)
          omega
        rw [e1, e2, show nI 1 = 1 from rfl]
        generalize gM σ hh a = x
        generalize sumN (gM σ hh) (a + 1) n = y
        generalize nI (cntF (fun k => fBel (σ 9 k) (σ 25 0)) 0 6) = v
        generalize nI (cntF (mtk σ) (a + 1) n) = w
        generalize p1 hh = q
        grind
      · have hne : ¬ pOf σ (nI i) 2 a = true := fun z => by
          obtain ⟨-, -, w3⟩ := pOf_iff.mp z
          have e := k2.symm.trans w3
          exact hi (nIe (by omega) (by omega) e).symm
        unfold gV
        simp only [fSeen]
        rw [if_neg hne]
    · rw [if_neg c]
      have e0 : gM σ hh a = 0 := if_neg c
      rw [sum_co (g := gV σ hh a (n + 1)) (h := gV σ hh (a + 1) n) 6 0 (fun i _ _ => by
        have hne : ¬ pOf σ (nI i) 2 a = true := fun z => by
          obtain ⟨w1, w2, -⟩ := pOf_iff.mp z
          exact c (by unfold mtk; simp [w1, w2])
        unfold gV
        simp only [fSeen]
        rw [if_neg hne]), ih, e0, show nI 0 = 0 from rfl, Int32.zero_add, Int32.zero_add]
theorem ended_step {ms ld : Int32} (hD : D ≤ 2000) : fEnded ms ld (nI D + 1) = fEnded ms ld (nI D) + (if fBel ld (nI D) = true then 1 else 0) := by
  rw [nI_1]
  unfold fEnded fLeft fBel
  have hd : (nI D).toInt = D := nI_toInt (by omega)
  have hd1 : (nI (D + 1)).toInt = D + 1 := nI_toInt (by omega)
  by_cases c : nI D ≤ ld
  · by_cases c1 : nI (D + 1) ≤ ld
    · simp only [c, c1, decide_true, if_true]
      rw [← nI_1]
      generalize nI D = d
      grind
    · have e : ld = nI D := by
        rw [Int32.le_iff_toInt_le] at c c1
        apply Int32.toInt_inj.mp
        omega
      simp only [c, c1, decide_true, decide_false, if_true]
      rw [e]
      generalize nI D = d
      simp
  · have c1 : ¬ nI (D + 1) ≤ ld := fun z => c (by
      rw [Int32.le_iff_toInt_le] at z ⊢
      omega)
    simp [c, c1]
theorem dw_sum : fDw σ = sumN (fun k => fEnded (σ 8 k) (σ 9 k) (σ 25 0)) 0 6 := by
  have h : ∀ (n a : Nat) (x : Int32), itr (fDw1 σ) a n x = x + sumN (fun k => fEnded (σ 8 k) (σ 9 k) (σ 25 0)) a n := by
    intro n
    induction n with
    | zero => intro a x; exact (Int32.add_zero x).symm
    | succ n ih =>
      intro a x
      show itr (fDw1 σ) (a + 1) n (fDw1 σ a x) = _
      rw [ih]
      simp only [sumN]
      unfold fDw1
      exact Int32.add_assoc _ _ _
  unfold fDw
  rw [h, Int32.zero_add]
theorem sum_plus {g h : Nat → Int32} : ∀ (n a : Nat), sumN (fun i => g i + h i) a n = sumN g a n + sumN h a n
  | 0, _ => (Int32.add_zero 0).symm
  | n + 1, a => by
    simp only [sumN]
    rw [sum_plus n (a + 1)]
    generalize sumN g (a + 1) n = x
    generalize sumN h (a + 1) n = y
    grind
end MONEY
