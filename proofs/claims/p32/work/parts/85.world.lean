/-! THE LAW'S WORLD: the class, the law's arrays -/
def AxL (B : Nat) (al : Nat → Nat) (q : Nat) : Prop := B ≤ q ∧ ¬ McL al q
def LINV (G : GE) (B a0 : Nat) (al : Nat → Nat) (N : Nat) (H : Heap) : Prop := ∃ (τ μ : SG) (nT nW : Nat), CST G (AxL B al) a0 τ nT nW N H ∧ PL G (fun q => B ≤ q) al μ 14 H ∧ LR μ τ nT nW ∧ thr τ 0 = τ
theorem CST.th {G : GE} {A : Nat → Prop} {a0 nT nW N : Nat} {τ : SG} {H : Heap} {k : Int32} (h : CST G A a0 τ nT nW N H) : CST G A a0 (thr τ k) nT nW N H := by
  obtain ⟨ad, σ, qs, f, D, ea, hP, hR, hI⟩ := h
  exact ⟨ad, σ, qs, f, D, ea, hP, hR.th, hI.th⟩
theorem CST.offL {G : GE} {B a0 nT nW N f : Nat} {al : Nat → Nat} {τ : SG} {H H1 : Heap} (h : CST G (AxL B al) a0 τ nT nW N H) (hf : f < 14) (hz : H1.size = H.size) (oq : ∀ q, q ≠ al f → H1[q]? = H[q]?) : CST G (AxL B al) a0 τ nT nW N H1 :=
  h.kept (A1 := fun q => q = al f) ⟨Nat.le_of_eq hz.symm, fun q _ hne => oq q hne⟩ (fun q hq _ e => hq.2 ⟨f, hf, e⟩)
theorem CST.K {G : GE} {A : Nat → Prop} {a0 nT nW N : Nat} {τ : SG} {H : Heap} (h : CST G A a0 τ nT nW N H) : ∃ K, K ≤ N ∧ τ 12 0 = nI K := by
  obtain ⟨ad, σ, qs, f, D, ea, hP, hR, hI⟩ := h
  obtain ⟨K, h1, h2, -⟩ := hR.c.1
  exact ⟨K, h1, h2⟩
theorem CST.D {G : GE} {A : Nat → Prop} {a0 nT nW N : Nat} {τ : SG} {H : Heap} (h : CST G A a0 τ nT nW N H) : ∃ D, D ≤ 2000 ∧ τ 26 0 = nI D := by
  obtain ⟨ad, σ, qs, f, D, ea, hP, hR, hI⟩ := h
  exact ⟨D, hR.1.2.2.2.2.2.2.2.2.1, hR.1.2.2.2.2.2.2.2.1⟩
theorem CST.Z {G : GE} {A : Nat → Prop} {a0 nT nW N : Nat} {τ : SG} {H : Heap} (h : CST G A a0 τ nT nW N H) : τ 9 nT = 0 ∧ τ 19 nW = 0 := by
  obtain ⟨ad, σ, qs, f, D, ea, hP, hR, hI⟩ := h
  exact ⟨(hR.2.2.2.2.1.1 nT (Nat.le_refl _)).1, (hR.2.2.2.2.1.2 nW (Nat.le_refl _)).1⟩
theorem AxL.new {G : GE} {A : Nat → Prop} {B : Nat} {al : Nat → Nat} {μ : SG} {H : Heap} (hP : PL G A al μ 14 H) (hB : B ≤ H.size) (q : Nat) (hq : H.size ≤ q) : AxL B al q :=
  ⟨Nat.le_trans hB hq, fun z => by have := hP.lt z; omega⟩
theorem LINV.of {G : GE} {B a0 N nT nW nT' nW' : Nat} {al : Nat → Nat} {τ μ : SG} {H : Heap} (hC : CST G (AxL B al) a0 τ nT' nW' N H) (hP : PL G (fun q => B ≤ q) al μ 14 H) (hR : LR μ τ nT nW) : LINV G B a0 al N H :=
  ⟨thr τ 0, μ, nT, nW, (hC.nT (by have := lr_n60 hR; omega) (by have := lr_n60 hR; omega) (lr_nT hR) (lr_nW hR)).th, hP, hR.th, thr_thr⟩
theorem j29 (x : Int32) : x + 30 - 1 = x + 29 := by grind
theorem dres0 {k x : Int32} (h : k = 0) : dres k x = x := by rw [h]; rfl
theorem dres1 {k x : Int32} (h : k = 1) : dres k x = -11 := by rw [h]; rfl
theorem dres2 {k x : Int32} (h : k = 2) : dres k x = -13 := by rw [h]; rfl
theorem dresL0 {k x : Int32} (h : k = 0) : dresL k x = x := by rw [h]; rfl
theorem dresL3 {k x : Int32} (h : k = 3) : dresL k x = -13 := by rw [h]; rfl
theorem LR.make {μ τ : SG} {nT nW : Nat} {so ho me d : Nat} {co xh xm : Int32} (hso : so < 4) (hho : ho < 4) (hme : me < 8) (hd : d ≤ 2000) (e5 : so = 0 → xh = nI ho) (e6 : 2 ≤ so → xm = nI me) (e26 : τ 26 0 = nI d) (hco : ¬ co < 0) (h9 : τ 9 nT = 0) (hn : nT < 60) (hR : LR μ τ nT nW) : LR (up (up (up (up μ 3 nT (nI (so + 4 * ho + 16 * me + 128 * d))) 4 nT co) 0 5 (τ 25 0 + co)) 0 0 (nI (nT + 1))) (mMake τ nT (nI so) xh xm co) (nT + 1) nW := by
  obtain ⟨hYN, hYP, hYM, hYT, hYC, hYS, hYW, hYQ, hYK, hYD, hYA, hYB, hYV⟩ := hR
  exact ⟨by
      obtain ⟨n0, n1, n60, n10, n2, n3, n4, n5, m3, m16⟩ := hYN
      unfold mMake
      exact ⟨by simp [up], by simp [up]; exact n1, by omega, n10, by simp [up]; exact n2, by simp [up]; exact n3, by simp [up]; exact n4, by simp [up], by simp [up], by simp [up]; exact m16⟩,
    hYP.co (by simp [agr, up]) (by simp [up]) (by simp [agr, up, mMake]),
    hYM.co (by simp [agr, up]) (by simp [agr, up, mMake]),
    fun t ht => by
      unfold mMake
      by_cases c : t = nT
      · subst c
        exact ⟨so, ho, me, d, hso, hho, hme, hd, by simp [up], by simp [up], fun z => by simp [up]; exact e5 z, fun z => by simp [up]; exact e6 z, by simp [up]; exact e26⟩
      · have q := hYT t (by omega); simpa [up, c] using q,
    fun t ht => by
      unfold mMake
      by_cases c : t = nT
      · subst c
        refine Or.inl ⟨?_, ?_, ?_⟩
        · rw [up_f (by decide), up_f (by decide), up_s]; exact hco
        · simp [up]; exact h9
        · simp [up]
      · rw [up_f (by decide), up_f (by decide), up_i c]
        simp only [up, c]
        simp
        have := hYC t (by omega)
        simpa using this,
    hYS.co (by simp [agr, up]) (by simp [agr, up, mMake]),
    ⟨fun t ht => by
      unfold mMake
      by_cases c : t = nT
      · subst c
        simp [up]
        exact Or.inl ⟨hYW.2 t (Nat.le_refl _), rfl⟩
      · simp [up, c]
        exact hYW.1 t (by omega), fun t ht => by simp [up]; exact hYW.2 t (by omega)⟩,
    hYQ.co (by simp [agr, up]) (by simp [agr, up, mMake]),
    hYK.co (by simp [agr, up]) (by simp [agr, up, mMake]),
    hYD.co (by simp [up]) (by simp [agr, up, mMake]),
    hYA.co (by simp [agr, up]) (by simp [agr, up, mMake]),
    hYB.co (by simp [agr, up]) (by simp [agr, up, mMake]),
    hYV.co (by simp [agr, up]) (by simp [agr, up, mMake])⟩
theorem LR.work {μ τ : SG} {nT nW : Nat} {r : Nat} (hr : r < 12) (h19 : τ 19 nW = 0) (hn : nW < 10) (hR : LR μ τ nT nW) : LR (up (up (up μ 9 nW (nI (r / 3) + 4 * nI r)) 11 nW 20) 0 1 (nI (nW + 1))) (up (up (up (up τ 17 nW (nI (r / 3))) 18 nW (nI r)) 22 nW 20) 16 0 (nI (nW + 1))) nT (nW + 1) := by
  obtain ⟨hYN, hYP, hYM, hYT, hYC, hYS, hYW, hYQ, hYK, hYD, hYA, hYB, hYV⟩ := hR
  exact ⟨by
      obtain ⟨n0, n1, n60, n10, n2, n3, n4, n5, m3, m16⟩ := hYN
      exact ⟨by simp [up]; exact n0, by simp [up], n60, by omega, by simp [up]; exact n2, by simp [up]; exact n3, by simp [up]; exact n4, by simp [up]; exact n5, by simp [up]; exact m3, by simp [up]⟩,
    hYP.co (by simp [agr, up]) (by simp [up]) (by simp [agr, up, thr]),
    hYM.co (by simp [agr, up]) (by simp [agr, up, thr]),
    hYT.co (by simp [agr, up]) (by simp [agr, up, thr]),
    hYC.co (by simp [agr, up]) (by simp [agr, up, thr]),
    hYS.co (by simp [agr, up]) (by simp [agr, up, thr]),
    hYW.co (by simp [agr, up]) (by simp [agr, up, thr]),
    hYQ.co (by simp [agr, up]) (by simp [agr, up, thr]),
    hYK.co (by simp [agr, up]) (by simp [agr, up, thr]),
    hYD.co (by simp [up]) (by simp [agr, up, thr]),
    fun w hw => by
      by_cases c : w = nW
      · subst c
        refine ⟨r / 3, r, 0, 0, by omega, hr, by decide, by decide, ?_, by simp [up], by simp [up], ?_, fun z => absurd z (by decide)⟩
        · simp [up]
          show nI (r / 3) + nI 4 * nI r = _
          rw [pk_mul, nI_addN]
        · simp [up]; exact h19
      · have q := hYA w (by omega); simpa [up, c] using q,
    fun w => by
      have q := hYB w
      by_cases c : w = nW
      · subst c; simp [up, q]
      · simp [up, c]; exact q,
    hYV.co (by simp [agr, up]) (by simp [agr, up, thr])⟩
theorem code_hang {c b r : Nat} : nI (c + 4 * b) + 4 * (nI r - nI b) = nI (c + 4 * r) := by
  show _ + nI 4 * (nI r - nI b) = _
  rw [← nI_addN c, ← nI_addN c, ← pk_mul 4 b, ← pk_mul 4 r]
  generalize nI c = x
  generalize nI b = y
  generalize nI r = z
  generalize nI 4 = w
  grind
theorem LR.hang {μ τ : SG} {nT nW : Nat} {u b r : Nat} (hu : u < nW) (hr : r < 12) (hb9 : b < 12) (eb : τ 18 u = nI b) (hR : LR μ τ nT nW) : LR (up μ 9 u (μ 9 u + 4 * (nI r - nI b))) (up τ 18 u (nI r)) nT nW := by
  obtain ⟨hYN, hYP, hYM, hYT, hYC, hYS, hYW, hYQ, hYK, hYD, hYA, hYB, hYV⟩ := hR
  exact ⟨hYN.co (fun i hi => by simp [up] <;> omega) (by simp [agr, up, thr]),
    hYP.co (by simp [agr, up]) (by simp [up]) (by simp [agr, up, thr]),
    hYM.co (by simp [agr, up]) (by simp [agr, up, thr]),
    hYT.co (by simp [agr, up]) (by simp [agr, up, thr]),
    hYC.co (by simp [agr, up]) (by simp [agr, up, thr]),
    hYS.co (by simp [agr, up]) (by simp [agr, up, thr]),
    hYW.co (by simp [agr, up]) (by simp [agr, up, thr]),
    hYQ.co (by simp [agr, up]) (by simp [agr, up, thr]),
    hYK.co (by simp [agr, up]) (by simp [agr, up, thr]),
    hYD.co (by simp [up]) (by simp [agr, up, thr]),
    fun w hw => by
      by_cases c : w = u
      · subst c
        obtain ⟨ho, b2, le, fe, a1, a2, a3, a4, e, e17, e18, e19, e20⟩ := hYA w hw
        have eb2 : b = b2 := by
          have h3 := eb.symm.trans e18
          exact nIe (by omega) (by omega) h3
        subst eb2
        refine ⟨ho, r, le, fe, a1, hr, a3, a4, ?_, by simp [up]; exact e17, by simp [up], by simp [up]; exact e19, fun z => by simp [up]; exact e20 z⟩
        rw [up_s, e, show ho + 4 * b + 64 * le + 128 * fe = (ho + 64 * le + 128 * fe) + 4 * b by omega, code_hang]
        congr 1
        omega
      · have q := hYA w hw; simpa [up, c] using q,
    hYB.co (by simp [agr, up]) (by simp [agr, up, thr]),
    hYV.co (by simp [agr, up]) (by simp [agr, up, thr])⟩
theorem LR.lend {μ τ : SG} {nT nW : Nat} {u r fe : Nat} (hu : u < nW) (hr : r < 12) (hfe : fe ≤ 1000) (hR : LR μ τ nT nW) : LR (up (up μ 10 u 0) 9 u (τ 17 u + 4 * nI r + 64 + 128 * nI fe)) (up (up (up (up τ 19 u 1) 18 u (nI r)) 20 u (nI fe)) 21 u 0) nT nW := by
  obtain ⟨hYN, hYP, hYM, hYT, hYC, hYS, hYW, hYQ, hYK, hYD, hYA, hYB, hYV⟩ := hR
  exact ⟨hYN.co (fun i hi => by simp [up] <;> omega) (by simp [agr, up, thr]),
    hYP.co (by simp [agr, up]) (by simp [up]) (by simp [agr, up, thr]),
    hYM.co (by simp [agr, up]) (by simp [agr, up, thr]),
    hYT.co (by simp [agr, up]) (by simp [agr, up, thr]),
    hYC.co (by simp [agr, up]) (by simp [agr, up, thr]),
    hYS.co (by simp [agr, up]) (by simp [agr, up, thr]),
    hYW.co (by simp [agr, up]) (by simp [agr, up, thr]),
    hYQ.co (by simp [agr, up]) (by simp [agr, up, thr]),
    hYK.co (by simp [agr, up]) (by simp [agr, up, thr]),
    hYD.co (by simp [up]) (by simp [agr, up, thr]),
    fun w hw => by
      by_cases c : w = u
      · subst c
        obtain ⟨ho, b2, le, fe2, a1, a2, a3, a4, e, e17, -⟩ := hYA w hw
        refine ⟨ho, r, 1, fe, a1, hr, by decide, hfe, ?_, by simp [up]; exact e17, by simp [up], by simp [up]; rfl, fun z => by simp [up]⟩
        rw [up_s, e17]
        show nI ho + nI 4 * nI r + nI 64 + nI 128 * nI fe = _
        rw [pk_mul, pk_mul, nI_addN, nI_addN, nI_addN]
      · have q := hYA w hw; simpa [up, c] using q,
    fun w => by
      have q := hYB w
      by_cases c : w = u
      · subst c; simp [up, q]
      · simp [up, c]; exact q,
    hYV.co (by simp [agr, up]) (by simp [agr, up, thr])⟩
theorem LR.bring {μ τ : SG} {nT nW : Nat} {u r : Nat} (hu : u < nW) (hr : r < 12) (hR : LR μ τ nT nW) : LR (up μ 9 u (τ 17 u + 4 * nI r)) (up (up τ 19 u 0) 18 u (nI r)) nT nW := by
  obtain ⟨hYN, hYP, hYM, hYT, hYC, hYS, hYW, hYQ, hYK, hYD, hYA, hYB, hYV⟩ := hR
  exact ⟨hYN.co (fun i hi => by simp [up] <;> omega) (by simp [agr, up, thr]),
    hYP.co (by simp [agr, up]) (by simp [up]) (by simp [agr, up, thr]),
    hYM.co (by simp [agr, up]) (by simp [agr, up, thr]),
    hYT.co (by simp [agr, up]) (by simp [agr, up, thr]),
    hYC.co (by simp [agr, up]) (by simp [agr, up, thr]),
    hYS.co (by simp [agr, up]) (by simp [agr, up, thr]),
    hYW.co (by simp [agr, up]) (by simp [agr, up, thr]),
    hYQ.co (by simp [agr, up]) (by simp [agr, up, thr]),
    hYK.co (by simp [agr, up]) (by simp [agr, up, thr]),
    hYD.co (by simp [up]) (by simp [agr, up, thr]),
    fun w hw => by
      by_cases c : w = u
      · subst c
        obtain ⟨ho, b2, le, fe2, a1, a2, a3, a4, e, e17, -⟩ := hYA w hw
        refine ⟨ho, r, 0, 0, a1, hr, by decide, by decide, ?_, by simp [up]; exact e17, by simp [up], by simp [up]; rfl, fun z => absurd z (by decide)⟩
        rw [up_s, e17]
        show nI ho + nI 4 * nI r = _
        rw [pk_mul, nI_addN]
        exact congrArg nI (by omega)
      · have q := hYA w hw; simpa [up, c] using q,
    hYB.co (by simp [agr, up]) (by simp [agr, up, thr]),
    hYV.co (by simp [agr, up]) (by simp [agr, up, thr])⟩
/-! closing, and not: the bits -/
theorem mBit_tb {s i : Nat} (hs : s < 4096) (hi : i < 12) : mBit (nI s) i = if s.testBit i = true then 1 else 0 := by
  rw [mBit_n hs hi, Nat.testBit_eq_decide_div_mod_eq]
  have h2 : s / 2 ^ i % 2 < 2 := Nat.mod_lt _ (by decide)
  rcases (show s / 2 ^ i % 2 = 0 ∨ s / 2 ^ i % 2 = 1 by omega) with h | h <;> rw [h] <;> rfl
theorem cl_or {s r i : Nat} (hs : s < 4096) (hr : r < 12) (hi : i < 12) : mBit (nI (s ||| 2 ^ r)) i = if i = r then 1 else mBit (nI s) i := by
  rw [mBit_tb (bit_or hs hr).2 hi, mBit_tb hs hi, Nat.testBit_or, Nat.testBit_two_pow]
  by_cases c : i = r
  · subst c; simp
  · have : ¬ r = i := fun z => c z.symm
    simp [c, this]
theorem op_mask : ∀ r, r < 12 → ((1 : Int32) <<< (nI r &&& 31)) ^^^ (-1) = nI (4294967295 - 2 ^ r) := by decide +kernel
theorem op_bit : ∀ r, r < 12 → ∀ i, i < 12 → (4294967295 - 2 ^ r).testBit i = !(decide (i = r)) := by decide +kernel
theorem op_and {s r : Nat} (hs : s < 4096) (hr : r < 12) : nI s &&& (((1 : Int32) <<< (nI r &&& 31)) ^^^ (-1)) = nI (s &&& (4294967295 - 2 ^ r)) ∧ s &&& (4294967295 - 2 ^ r) < 4096 := by
  rw [op_mask r hr, nI_and]
  exact ⟨rfl, Nat.lt_of_le_of_lt Nat.and_le_left hs⟩
theorem op_bits {s r i : Nat} (hs : s < 4096) (hr : r < 12) (hi : i < 12) : mBit (nI (s &&& (4294967295 - 2 ^ r))) i = if i = r then 0 else mBit (nI s) i := by
  rw [mBit_tb (op_and hs hr).2 hi, mBit_tb hs hi, Nat.testBit_and, op_bit r hr i hi]
  by_cases c : i = r
  · simp [c]
  · simp [c]
theorem clr_up {r : Nat} {x : Int32} : ∀ (n a : Nat) (y : SG × Int32), itr (mClrP r) a n (up y.1 15 r x, y.2) = (up (itr (mClrP r) a n y).1 15 r x, (itr (mClrP r) a n y).2)
  | 0, _, _ => rfl
  | n + 1, a, y => by
    show itr (mClrP r) (a + 1) n (mClrP r a (up y.1 15 r x, y.2)) = (up (itr (mClrP r) (a + 1) n (mClrP r a y)).1 15 r x, (itr (mClrP r) (a + 1) n (mClrP r a y)).2)
    rw [← clr_up n (a + 1) (mClrP r a y)]
    congr 1
    unfold mClrP
    have e : mOut (up y.1 15 r x) r a = mOut y.1 r a := by
      unfold mOut
      rw [up_f (by decide)]
    show (if mOut (up y.1 15 r x) r a = true then (up (up y.1 15 r x) 10 a (-1), y.2 + 1) else (up y.1 15 r x, y.2)) = _
    rw [e]
    by_cases c : mOut y.1 r a = true
    · rw [if_pos c, if_pos c]
      refine Prod.ext ?_ rfl
      funext g j
      unfold up
      by_cases c1 : g = 10
      · subst c1; simp
      · simp [c1]
    · rw [if_neg c, if_neg c]
theorem clear_up {τ : SG} {n r : Nat} {x : Int32} : mClear (up τ 15 r x) n r = (up (mClear τ n r).1 15 r x, (mClear τ n r).2) := clr_up n 0 (τ, 0)
section LCLOSE
variable {μ τ : SG} {nT nW r : Nat}
theorem LR.shut (hR : LR μ τ nT nW) (hr : r < 12) : ∃ s, s < 4096 ∧ μ 0 6 = nI s ∧ nI s ||| ((1 : Int32) <<< (nI r &&& 31)) = nI (s ||| 2 ^ r) ∧ LR (up μ 0 6 (nI (s ||| 2 ^ r))) (up τ 15 r 1) nT nW := by
  obtain ⟨s, hs, e6, hD⟩ := hR.2.2.2.2.2.2.2.2.2.1
  refine ⟨s, hs, e6, (bit_or hs hr).1, hR.n6 (bit_or hs hr).2 (fun i hi => ?_)⟩
  rw [cl_or hs hr hi, hD i hi]
theorem LR.unsh (hR : LR μ τ nT nW) (hr : r < 12) : ∃ s, s < 4096 ∧ μ 0 6 = nI s ∧ nI s &&& (((1 : Int32) <<< (nI r &&& 31)) ^^^ (-1)) = nI (s &&& (4294967295 - 2 ^ r)) ∧ LR (up μ 0 6 (nI (s &&& (4294967295 - 2 ^ r)))) (up τ 15 r 0) nT nW := by
  obtain ⟨s, hs, e6, hD⟩ := hR.2.2.2.2.2.2.2.2.2.1
  refine ⟨s, hs, e6, (op_and hs hr).1, hR.n6 (op_and hs hr).2 (fun i hi => ?_)⟩
  rw [op_bits hs hr hi, hD i hi]
theorem lr_cl (hR : LR μ τ nT nW) (hr : r < 12) : (μ 0 6 >>> (nI r &&& 31)) &&& 1 = τ 15 r := by
  obtain ⟨s, hs, e6, hD⟩ := hR.2.2.2.2.2.2.2.2.2.1
  rw [e6, hD r hr]
  rfl
end LCLOSE
