/-! THE LAW'S MUSEUMS: what its arrays hold (m f i), against the numbers (t) of the mathematics. Arrays: 0 n 1 p 2 l 3 t 4 c 5 s 6 w 7 q 8 k 9 a 10 b 11 h 12 v 13 m -/
def YN (μ τ : SG) (nT nW : Nat) : Prop := μ 0 0 = nI nT ∧ μ 0 1 = nI nW ∧ nT ≤ 60 ∧ nW ≤ 10 ∧ μ 0 2 = τ 26 0 ∧ μ 0 3 = τ 1 0 ∧ μ 0 4 = τ 12 0 ∧ μ 0 5 = τ 25 0 ∧ τ 3 0 = nI nT ∧ τ 16 0 = nI nW
def YP (μ τ : SG) : Prop := (∀ h, h < 4 → μ 1 h = τ 0 h ∧ ∃ p, p ≤ 10000 ∧ μ 1 h = nI p) ∧ ∃ p, p ≤ 10000 ∧ μ 0 3 = nI p
def YM (μ τ : SG) : Prop := ∀ k, k < 6 → μ 2 k = τ 2 k
def YT (μ τ : SG) (nT : Nat) : Prop := ∀ t, t < nT → ∃ so ho me d, so < 4 ∧ ho < 4 ∧ me < 8 ∧ d ≤ 2000 ∧ μ 3 t = nI (so + 4 * ho + 16 * me + 128 * d) ∧ τ 4 t = nI so ∧ (so = 0 → τ 5 t = nI ho) ∧ (2 ≤ so → τ 6 t = nI me) ∧ τ 7 t = nI d
def YC (μ τ : SG) (nT : Nat) : Prop := ∀ t, t < nT → (¬ μ 4 t < 0 ∧ τ 9 t = 0 ∧ τ 8 t = μ 4 t) ∨ (μ 4 t = -1 ∧ τ 9 t = 1)
def YS (μ τ : SG) : Prop := ∀ t, μ 5 t = τ 13 t ∧ ∃ s, s < 4096 ∧ τ 13 t = nI s
def pw (x y : Int32) : Prop := (x = 0 ∧ y = -1) ∨ ∃ r, r < 12 ∧ ((x = nI (r + 1) ∧ y = nI r) ∨ (x = nI (r + 102) ∧ y = 100 + nI r))
def YW (μ τ : SG) (nT : Nat) : Prop := (∀ t, t < nT → pw (μ 6 t) (τ 10 t)) ∧ ∀ t, nT ≤ t → μ 6 t = 0
def YQ (μ τ : SG) : Prop := ∀ t, μ 7 t = τ 11 t ∧ ∃ q, q < 1000 ∧ τ 11 t = nI q
def YK (μ τ : SG) : Prop := ∀ r, r < 12 → μ 8 r = τ 14 r
def YD (μ τ : SG) : Prop := ∃ s, s < 4096 ∧ μ 0 6 = nI s ∧ ∀ r, r < 12 → τ 15 r = mBit (nI s) r
def YA (μ τ : SG) (nW : Nat) : Prop := ∀ w, w < nW → ∃ ho r le fe, ho < 4 ∧ r < 12 ∧ le < 2 ∧ fe ≤ 1000 ∧ μ 9 w = nI (ho + 4 * r + 64 * le + 128 * fe) ∧ τ 17 w = nI ho ∧ τ 18 w = nI r ∧ τ 19 w = nI le ∧ (le = 1 → τ 20 w = nI fe)
def YB (μ τ : SG) : Prop := ∀ w, μ 10 w = τ 21 w ∧ μ 11 w = τ 22 w ∧ μ 12 w = τ 23 w
def YV (μ τ : SG) : Prop := ∀ j, j < 5 → μ 13 j = τ 24 j
def LR (μ τ : SG) (nT nW : Nat) : Prop := YN μ τ nT nW ∧ YP μ τ ∧ YM μ τ ∧ YT μ τ nT ∧ YC μ τ nT ∧ YS μ τ ∧ YW μ τ nT ∧ YQ μ τ ∧ YK μ τ ∧ YD μ τ ∧ YA μ τ nW ∧ YB μ τ ∧ YV μ τ
section LCO
variable {μ μ' τ τ' : SG} {nT nW : Nat}
theorem YN.co (h : YN μ τ nT nW) (a : ∀ i, i < 6 → μ' 0 i = μ 0 i) (b : agr [1, 3, 12, 16, 25, 26] τ τ') : YN μ' τ' nT nW := by
  unfold YN at *
  rw [a 0 (by decide), a 1 (by decide), a 2 (by decide), a 3 (by decide), a 4 (by decide), a 5 (by decide), b.at (g := 26) (by simp), b.at (g := 1) (by simp), b.at (g := 12) (by simp), b.at (g := 25) (by simp), b.at (g := 3) (by simp), b.at (g := 16) (by simp)]
  exact h
theorem YP.co (h : YP μ τ) (a : agr [1] μ μ') (a3 : μ' 0 3 = μ 0 3) (b : agr [0] τ τ') : YP μ' τ' := by
  obtain ⟨h1, h2⟩ := h
  exact ⟨fun x hx => by rw [b.at (by simp), a.at (by simp)]; exact h1 x hx, by rw [a3]; exact h2⟩
theorem YM.co (h : YM μ τ) (a : agr [2] μ μ') (b : agr [2] τ τ') : YM μ' τ' := fun k hk => by rw [b.at (by simp), a.at (by simp)]; exact h k hk
theorem YT.co (h : YT μ τ nT) (a : agr [3] μ μ') (b : agr [4, 5, 6, 7] τ τ') : YT μ' τ' nT := fun t ht => by
  rw [a.at (g := 3) (by simp), b.at (g := 4) (by simp), b.at (g := 5) (by simp), b.at (g := 6) (by simp), b.at (g := 7) (by simp)]
  exact h t ht
theorem YC.co (h : YC μ τ nT) (a : agr [4] μ μ') (b : agr [8, 9] τ τ') : YC μ' τ' nT := fun t ht => by
  rw [a.at (g := 4) (by simp), b.at (g := 8) (by simp), b.at (g := 9) (by simp)]
  exact h t ht
theorem YS.co (h : YS μ τ) (a : agr [5] μ μ') (b : agr [13] τ τ') : YS μ' τ' := fun t => by rw [a.at (by simp), b.at (by simp)]; exact h t
theorem YW.co (h : YW μ τ nT) (a : agr [6] μ μ') (b : agr [10] τ τ') : YW μ' τ' nT := by
  obtain ⟨h1, h2⟩ := h
  exact ⟨fun t ht => by rw [a.at (by simp), b.at (by simp)]; exact h1 t ht, fun t ht => by rw [a.at (by simp)]; exact h2 t ht⟩
theorem YQ.co (h : YQ μ τ) (a : agr [7] μ μ') (b : agr [11] τ τ') : YQ μ' τ' := fun t => by rw [a.at (by simp), b.at (by simp)]; exact h t
theorem YK.co (h : YK μ τ) (a : agr [8] μ μ') (b : agr [14] τ τ') : YK μ' τ' := fun r hr => by rw [a.at (by simp), b.at (by simp)]; exact h r hr
theorem YD.co (h : YD μ τ) (a6 : μ' 0 6 = μ 0 6) (b : agr [15] τ τ') : YD μ' τ' := by
  obtain ⟨s, h1, h2, h3⟩ := h
  exact ⟨s, h1, by rw [a6]; exact h2, fun r hr => by rw [b.at (by simp)]; exact h3 r hr⟩
theorem YA.co (h : YA μ τ nW) (a : agr [9] μ μ') (b : agr [17, 18, 19, 20] τ τ') : YA μ' τ' nW := fun t ht => by
  rw [a.at (g := 9) (by simp), b.at (g := 17) (by simp), b.at (g := 18) (by simp), b.at (g := 19) (by simp), b.at (g := 20) (by simp)]
  exact h t ht
theorem YB.co (h : YB μ τ) (a : agr [10, 11, 12] μ μ') (b : agr [21, 22, 23] τ τ') : YB μ' τ' := fun t => by
  rw [a.at (g := 10) (by simp), a.at (g := 11) (by simp), a.at (g := 12) (by simp), b.at (g := 21) (by simp), b.at (g := 22) (by simp), b.at (g := 23) (by simp)]
  exact h t
theorem YV.co (h : YV μ τ) (a : agr [13] μ μ') (b : agr [24] τ τ') : YV μ' τ' := fun j hj => by rw [a.at (by simp), b.at (by simp)]; exact h j hj
end LCO
theorem LR.th {μ τ : SG} {nT nW : Nat} {k : Int32} (hR : LR μ τ nT nW) : LR μ (thr τ k) nT nW := by
  obtain ⟨hYN, hYP, hYM, hYT, hYC, hYS, hYW, hYQ, hYK, hYD, hYA, hYB, hYV⟩ := hR
  exact ⟨hYN.co (fun _ _ => rfl) (by simp [agr, up, thr]),
    hYP.co agr.rf rfl (by simp [agr, up, thr]),
    hYM.co agr.rf (by simp [agr, up, thr]),
    hYT.co agr.rf (by simp [agr, up, thr]),
    hYC.co agr.rf (by simp [agr, up, thr]),
    hYS.co agr.rf (by simp [agr, up, thr]),
    hYW.co agr.rf (by simp [agr, up, thr]),
    hYQ.co agr.rf (by simp [agr, up, thr]),
    hYK.co agr.rf (by simp [agr, up, thr]),
    hYD.co rfl (by simp [agr, up, thr]),
    hYA.co agr.rf (by simp [agr, up, thr]),
    hYB.co agr.rf (by simp [agr, up, thr]),
    hYV.co agr.rf (by simp [agr, up, thr])⟩
theorem LR.s5 {μ τ : SG} {nT nW : Nat} {t s : Nat} (hs : s < 4096) (hR : LR μ τ nT nW) : LR (up μ 5 t (nI s)) (up τ 13 t (nI s)) nT nW := by
  obtain ⟨hYN, hYP, hYM, hYT, hYC, hYS, hYW, hYQ, hYK, hYD, hYA, hYB, hYV⟩ := hR
  exact ⟨hYN.co (fun i hi => by simp [up] <;> omega) (by simp [agr, up, thr]),
    hYP.co (by simp [agr, up]) (by simp [up]) (by simp [agr, up, thr]),
    hYM.co (by simp [agr, up]) (by simp [agr, up, thr]),
    hYT.co (by simp [agr, up]) (by simp [agr, up, thr]),
    hYC.co (by simp [agr, up]) (by simp [agr, up, thr]),
    fun u => by
      by_cases c : u = t
      · subst c; rw [up_s, up_s]; exact ⟨rfl, s, hs, rfl⟩
      · simp [up, c]; exact hYS u,
    hYW.co (by simp [agr, up]) (by simp [agr, up, thr]),
    hYQ.co (by simp [agr, up]) (by simp [agr, up, thr]),
    hYK.co (by simp [agr, up]) (by simp [agr, up, thr]),
    hYD.co (by simp [up]) (by simp [agr, up, thr]),
    hYA.co (by simp [agr, up]) (by simp [agr, up, thr]),
    hYB.co (by simp [agr, up]) (by simp [agr, up, thr]),
    hYV.co (by simp [agr, up]) (by simp [agr, up, thr])⟩
theorem LR.w6 {μ τ : SG} {nT nW : Nat} {t : Nat} {x y : Int32} (ht : t < nT) (hp : pw x y) (hR : LR μ τ nT nW) : LR (up μ 6 t x) (up τ 10 t y) nT nW := by
  obtain ⟨hYN, hYP, hYM, hYT, hYC, hYS, hYW, hYQ, hYK, hYD, hYA, hYB, hYV⟩ := hR
  exact ⟨hYN.co (fun i hi => by simp [up] <;> omega) (by simp [agr, up, thr]),
    hYP.co (by simp [agr, up]) (by simp [up]) (by simp [agr, up, thr]),
    hYM.co (by simp [agr, up]) (by simp [agr, up, thr]),
    hYT.co (by simp [agr, up]) (by simp [agr, up, thr]),
    hYC.co (by simp [agr, up]) (by simp [agr, up, thr]),
    hYS.co (by simp [agr, up]) (by simp [agr, up, thr]),
    ⟨fun u hu => by
      by_cases c : u = t
      · subst c; rw [up_s, up_s]; exact hp
      · simp [up, c]; exact hYW.1 u hu, fun u hu => by
      have c : ¬ u = t := by omega
      simp [up, c]; exact hYW.2 u hu⟩,
    hYQ.co (by simp [agr, up]) (by simp [agr, up, thr]),
    hYK.co (by simp [agr, up]) (by simp [agr, up, thr]),
    hYD.co (by simp [up]) (by simp [agr, up, thr]),
    hYA.co (by simp [agr, up]) (by simp [agr, up, thr]),
    hYB.co (by simp [agr, up]) (by simp [agr, up, thr]),
    hYV.co (by simp [agr, up]) (by simp [agr, up, thr])⟩
theorem LR.b10 {μ τ : SG} {nT nW : Nat} {t : Nat} {x : Int32} (hR : LR μ τ nT nW) : LR (up μ 10 t x) (up τ 21 t x) nT nW := by
  obtain ⟨hYN, hYP, hYM, hYT, hYC, hYS, hYW, hYQ, hYK, hYD, hYA, hYB, hYV⟩ := hR
  exact ⟨hYN.co (fun i hi => by simp [up] <;> omega) (by simp [agr, up, thr]),
    hYP.co (by simp [agr, up]) (by simp [up]) (by simp [agr, up, thr]),
    hYM.co (by simp [agr, up]) (by simp [agr, up, thr]),
    hYT.co (by simp [agr, up]) (by simp [agr, up, thr]),
    hYC.co (by simp [agr, up]) (by simp [agr, up, thr]),
    hYS.co (by simp [agr, up]) (by simp [agr, up, thr]),
    hYW.co (by simp [agr, up]) (by simp [agr, up, thr]),
    hYQ.co (by simp [agr, up]) (by simp [agr, up, thr]),
    hYK.co (by simp [agr, up]) (by simp [agr, up, thr]),
    hYD.co (by simp [up]) (by simp [agr, up, thr]),
    hYA.co (by simp [agr, up]) (by simp [agr, up, thr]),
    fun u => by
      by_cases c : u = t
      · subst c; have q := hYB u; simp [up, q]
      · simp [up, c]; exact hYB u,
    hYV.co (by simp [agr, up]) (by simp [agr, up, thr])⟩
theorem LR.h11 {μ τ : SG} {nT nW : Nat} {t : Nat} {x : Int32} (hR : LR μ τ nT nW) : LR (up μ 11 t x) (up τ 22 t x) nT nW := by
  obtain ⟨hYN, hYP, hYM, hYT, hYC, hYS, hYW, hYQ, hYK, hYD, hYA, hYB, hYV⟩ := hR
  exact ⟨hYN.co (fun i hi => by simp [up] <;> omega) (by simp [agr, up, thr]),
    hYP.co (by simp [agr, up]) (by simp [up]) (by simp [agr, up, thr]),
    hYM.co (by simp [agr, up]) (by simp [agr, up, thr]),
    hYT.co (by simp [agr, up]) (by simp [agr, up, thr]),
    hYC.co (by simp [agr, up]) (by simp [agr, up, thr]),
    hYS.co (by simp [agr, up]) (by simp [agr, up, thr]),
    hYW.co (by simp [agr, up]) (by simp [agr, up, thr]),
    hYQ.co (by simp [agr, up]) (by simp [agr, up, thr]),
    hYK.co (by simp [agr, up]) (by simp [agr, up, thr]),
    hYD.co (by simp [up]) (by simp [agr, up, thr]),
    hYA.co (by simp [agr, up]) (by simp [agr, up, thr]),
    fun u => by
      by_cases c : u = t
      · subst c; have q := hYB u; simp [up, q]
      · simp [up, c]; exact hYB u,
    hYV.co (by simp [agr, up]) (by simp [agr, up, thr])⟩
theorem LR.v12 {μ τ : SG} {nT nW : Nat} {t : Nat} {x : Int32} (hR : LR μ τ nT nW) : LR (up μ 12 t x) (up τ 23 t x) nT nW := by
  obtain ⟨hYN, hYP, hYM, hYT, hYC, hYS, hYW, hYQ, hYK, hYD, hYA, hYB, hYV⟩ := hR
  exact ⟨hYN.co (fun i hi => by simp [up] <;> omega) (by simp [agr, up, thr]),
    hYP.co (by simp [agr, up]) (by simp [up]) (by simp [agr, up, thr]),
    hYM.co (by simp [agr, up]) (by simp [agr, up, thr]),
    hYT.co (by simp [agr, up]) (by simp [agr, up, thr]),
    hYC.co (by simp [agr, up]) (by simp [agr, up, thr]),
    hYS.co (by simp [agr, up]) (by simp [agr, up, thr]),
    hYW.co (by simp [agr, up]) (by simp [agr, up, thr]),
    hYQ.co (by simp [agr, up]) (by simp [agr, up, thr]),
    hYK.co (by simp [agr, up]) (by simp [agr, up, thr]),
    hYD.co (by simp [up]) (by simp [agr, up, thr]),
    hYA.co (by simp [agr, up]) (by simp [agr, up, thr]),
    fun u => by
      by_cases c : u = t
      · subst c; have q := hYB u; simp [up, q]
      · simp [up, c]; exact hYB u,
    hYV.co (by simp [agr, up]) (by simp [agr, up, thr])⟩
theorem LR.m13 {μ τ : SG} {nT nW : Nat} {t : Nat} {x : Int32} (hR : LR μ τ nT nW) : LR (up μ 13 t x) (up τ 24 t x) nT nW := by
  obtain ⟨hYN, hYP, hYM, hYT, hYC, hYS, hYW, hYQ, hYK, hYD, hYA, hYB, hYV⟩ := hR
  exact ⟨hYN.co (fun i hi => by simp [up] <;> omega) (by simp [agr, up, thr]),
    hYP.co (by simp [agr, up]) (by simp [up]) (by simp [agr, up, thr]),
    hYM.co (by simp [agr, up]) (by simp [agr, up, thr]),
    hYT.co (by simp [agr, up]) (by simp [agr, up, thr]),
    hYC.co (by simp [agr, up]) (by simp [agr, up, thr]),
    hYS.co (by simp [agr, up]) (by simp [agr, up, thr]),
    hYW.co (by simp [agr, up]) (by simp [agr, up, thr]),
    hYQ.co (by simp [agr, up]) (by simp [agr, up, thr]),
    hYK.co (by simp [agr, up]) (by simp [agr, up, thr]),
    hYD.co (by simp [up]) (by simp [agr, up, thr]),
    hYA.co (by simp [agr, up]) (by simp [agr, up, thr]),
    hYB.co (by simp [agr, up]) (by simp [agr, up, thr]),
    fun u hu => by
      by_cases c : u = t
      · subst c; simp [up]
      · simp [up, c]; exact hYV u hu⟩
theorem LR.k8 {μ τ : SG} {nT nW : Nat} {t : Nat} {x : Int32} (hR : LR μ τ nT nW) : LR (up μ 8 t x) (up τ 14 t x) nT nW := by
  obtain ⟨hYN, hYP, hYM, hYT, hYC, hYS, hYW, hYQ, hYK, hYD, hYA, hYB, hYV⟩ := hR
  exact ⟨hYN.co (fun i hi => by simp [up] <;> omega) (by simp [agr, up, thr]),
    hYP.co (by simp [agr, up]) (by simp [up]) (by simp [agr, up, thr]),
    hYM.co (by simp [agr, up]) (by simp [agr, up, thr]),
    hYT.co (by simp [agr, up]) (by simp [agr, up, thr]),
    hYC.co (by simp [agr, up]) (by simp [agr, up, thr]),
    hYS.co (by simp [agr, up]) (by simp [agr, up, thr]),
    hYW.co (by simp [agr, up]) (by simp [agr, up, thr]),
    hYQ.co (by simp [agr, up]) (by simp [agr, up, thr]),
    fun u hu => by
      by_cases c : u = t
      · subst c; simp [up]
      · simp [up, c]; exact hYK u hu,
    hYD.co (by simp [up]) (by simp [agr, up, thr]),
    hYA.co (by simp [agr, up]) (by simp [agr, up, thr]),
    hYB.co (by simp [agr, up]) (by simp [agr, up, thr]),
    hYV.co (by simp [agr, up]) (by simp [agr, up, thr])⟩
theorem LR.l2 {μ τ : SG} {nT nW : Nat} {t : Nat} {x : Int32} (hR : LR μ τ nT nW) : LR (up μ 2 t x) (up τ 2 t x) nT nW := by
  obtain ⟨hYN, hYP, hYM, hYT, hYC, hYS, hYW, hYQ, hYK, hYD, hYA, hYB, hYV⟩ := hR
  exact ⟨hYN.co (fun i hi => by simp [up] <;> omega) (by simp [agr, up, thr]),
    hYP.co (by simp [agr, up]) (by simp [up]) (by simp [agr, up, thr]),
    fun u hu => by
      by_cases c : u = t
      · subst c; simp [up]
      · simp [up, c]; exact hYM u hu,
    hYT.co (by simp [agr, up]) (by simp [agr, up, thr]),
    hYC.co (by simp [agr, up]) (by simp [agr, up, thr]),
    hYS.co (by simp [agr, up]) (by simp [agr, up, thr]),
    hYW.co (by simp [agr, up]) (by simp [agr, up, thr]),
    hYQ.co (by simp [agr, up]) (by simp [agr, up, thr]),
    hYK.co (by simp [agr, up]) (by simp [agr, up, thr]),
    hYD.co (by simp [up]) (by simp [agr, up, thr]),
    hYA.co (by simp [agr, up]) (by simp [agr, up, thr]),
    hYB.co (by simp [agr, up]) (by simp [agr, up, thr]),
    hYV.co (by simp [agr, up]) (by simp [agr, up, thr])⟩
theorem LR.q7 {μ τ : SG} {nT nW : Nat} {t q : Nat} (hq : q < 1000) (hR : LR μ τ nT nW) : LR (up μ 7 t (nI q)) (up τ 11 t (nI q)) nT nW := by
  obtain ⟨hYN, hYP, hYM, hYT, hYC, hYS, hYW, hYQ, hYK, hYD, hYA, hYB, hYV⟩ := hR
  exact ⟨hYN.co (fun i hi => by simp [up] <;> omega) (by simp [agr, up, thr]),
    hYP.co (by simp [agr, up]) (by simp [up]) (by simp [agr, up, thr]),
    hYM.co (by simp [agr, up]) (by simp [agr, up, thr]),
    hYT.co (by simp [agr, up]) (by simp [agr, up, thr]),
    hYC.co (by simp [agr, up]) (by simp [agr, up, thr]),
    hYS.co (by simp [agr, up]) (by simp [agr, up, thr]),
    hYW.co (by simp [agr, up]) (by simp [agr, up, thr]),
    fun u => by
      by_cases c : u = t
      · subst c; rw [up_s, up_s]; exact ⟨rfl, q, hq, rfl⟩
      · simp [up, c]; exact hYQ u,
    hYK.co (by simp [agr, up]) (by simp [agr, up, thr]),
    hYD.co (by simp [up]) (by simp [agr, up, thr]),
    hYA.co (by simp [agr, up]) (by simp [agr, up, thr]),
    hYB.co (by simp [agr, up]) (by simp [agr, up, thr]),
    hYV.co (by simp [agr, up]) (by simp [agr, up, thr])⟩
theorem LR.n4 {μ τ : SG} {nT nW : Nat} {x : Int32} (hR : LR μ τ nT nW) : LR (up μ 0 4 x) (up τ 12 0 x) nT nW := by
  obtain ⟨hYN, hYP, hYM, hYT, hYC, hYS, hYW, hYQ, hYK, hYD, hYA, hYB, hYV⟩ := hR
  exact ⟨by
      obtain ⟨n0, n1, n60, n10, n2, n3, n4, n5, m3, m16⟩ := hYN
      exact ⟨by simp [up]; exact n0, by simp [up]; exact n1, n60, n10, by simp [up]; exact n2, by simp [up]; exact n3, by simp [up], by simp [up]; exact n5, by simp [up]; exact m3, by simp [up]; exact m16⟩,
    hYP.co (by simp [agr, up]) (by simp [up]) (by simp [agr, up, thr]),
    hYM.co (by simp [agr, up]) (by simp [agr, up, thr]),
    hYT.co (by simp [agr, up]) (by simp [agr, up, thr]),
    hYC.co (by simp [agr, up]) (by simp [agr, up, thr]),
    hYS.co (by simp [agr, up]) (by simp [agr, up, thr]),
    hYW.co (by simp [agr, up]) (by simp [agr, up, thr]),
    hYQ.co (by simp [agr, up]) (by simp [agr, up, thr]),
    hYK.co (by simp [agr, up]) (by simp [agr, up, thr]),
    hYD.co (by simp [up]) (by simp [agr, up, thr]),
    hYA.co (by simp [agr, up]) (by simp [agr, up, thr]),
    hYB.co (by simp [agr, up]) (by simp [agr, up, thr]),
    hYV.co (by simp [agr, up]) (by simp [agr, up, thr])⟩
theorem LR.n5 {μ τ : SG} {nT nW : Nat} {x : Int32} (hR : LR μ τ nT nW) : LR (up μ 0 5 x) (up τ 25 0 x) nT nW := by
  obtain ⟨hYN, hYP, hYM, hYT, hYC, hYS, hYW, hYQ, hYK, hYD, hYA, hYB, hYV⟩ := hR
  exact ⟨by
      obtain ⟨n0, n1, n60, n10, n2, n3, n4, n5, m3, m16⟩ := hYN
      exact ⟨by simp [up]; exact n0, by simp [up]; exact n1, n60, n10, by simp [up]; exact n2, by simp [up]; exact n3, by simp [up]; exact n4, by simp [up], by simp [up]; exact m3, by simp [up]; exact m16⟩,
    hYP.co (by simp [agr, up]) (by simp [up]) (by simp [agr, up, thr]),
    hYM.co (by simp [agr, up]) (by simp [agr, up, thr]),
    hYT.co (by simp [agr, up]) (by simp [agr, up, thr]),
    hYC.co (by simp [agr, up]) (by simp [agr, up, thr]),
    hYS.co (by simp [agr, up]) (by simp [agr, up, thr]),
    hYW.co (by simp [agr, up]) (by simp [agr, up, thr]),
    hYQ.co (by simp [agr, up]) (by simp [agr, up, thr]),
    hYK.co (by simp [agr, up]) (by simp [agr, up, thr]),
    hYD.co (by simp [up]) (by simp [agr, up, thr]),
    hYA.co (by simp [agr, up]) (by simp [agr, up, thr]),
    hYB.co (by simp [agr, up]) (by simp [agr, up, thr]),
    hYV.co (by simp [agr, up]) (by simp [agr, up, thr])⟩
theorem LR.n2 {μ τ : SG} {nT nW : Nat} {x : Int32} (hR : LR μ τ nT nW) : LR (up μ 0 2 x) (up τ 26 0 x) nT nW := by
  obtain ⟨hYN, hYP, hYM, hYT, hYC, hYS, hYW, hYQ, hYK, hYD, hYA, hYB, hYV⟩ := hR
  exact ⟨by
      obtain ⟨n0, n1, n60, n10, n2, n3, n4, n5, m3, m16⟩ := hYN
      exact ⟨by simp [up]; exact n0, by simp [up]; exact n1, n60, n10, by simp [up], by simp [up]; exact n3, by simp [up]; exact n4, by simp [up]; exact n5, by simp [up]; exact m3, by simp [up]; exact m16⟩,
    hYP.co (by simp [agr, up]) (by simp [up]) (by simp [agr, up, thr]),
    hYM.co (by simp [agr, up]) (by simp [agr, up, thr]),
    hYT.co (by simp [agr, up]) (by simp [agr, up, thr]),
    hYC.co (by simp [agr, up]) (by simp [agr, up, thr]),
    hYS.co (by simp [agr, up]) (by simp [agr, up, thr]),
    hYW.co (by simp [agr, up]) (by simp [agr, up, thr]),
    hYQ.co (by simp [agr, up]) (by simp [agr, up, thr]),
    hYK.co (by simp [agr, up]) (by simp [agr, up, thr]),
    hYD.co (by simp [up]) (by simp [agr, up, thr]),
    hYA.co (by simp [agr, up]) (by simp [agr, up, thr]),
    hYB.co (by simp [agr, up]) (by simp [agr, up, thr]),
    hYV.co (by simp [agr, up]) (by simp [agr, up, thr])⟩
theorem LR.n3 {μ τ : SG} {nT nW : Nat} {p : Nat} (hp : p ≤ 10000) (hR : LR μ τ nT nW) : LR (up μ 0 3 (nI p)) (up τ 1 0 (nI p)) nT nW := by
  obtain ⟨hYN, hYP, hYM, hYT, hYC, hYS, hYW, hYQ, hYK, hYD, hYA, hYB, hYV⟩ := hR
  exact ⟨by
      obtain ⟨n0, n1, n60, n10, n2, n3, n4, n5, m3, m16⟩ := hYN
      exact ⟨by simp [up]; exact n0, by simp [up]; exact n1, n60, n10, by simp [up]; exact n2, by simp [up], by simp [up]; exact n4, by simp [up]; exact n5, by simp [up]; exact m3, by simp [up]; exact m16⟩,
    ⟨fun h hh => by simp [up]; exact hYP.1 h hh, p, hp, up_s⟩,
    hYM.co (by simp [agr, up]) (by simp [agr, up, thr]),
    hYT.co (by simp [agr, up]) (by simp [agr, up, thr]),
    hYC.co (by simp [agr, up]) (by simp [agr, up, thr]),
    hYS.co (by simp [agr, up]) (by simp [agr, up, thr]),
    hYW.co (by simp [agr, up]) (by simp [agr, up, thr]),
    hYQ.co (by simp [agr, up]) (by simp [agr, up, thr]),
    hYK.co (by simp [agr, up]) (by simp [agr, up, thr]),
    hYD.co (by simp [up]) (by simp [agr, up, thr]),
    hYA.co (by simp [agr, up]) (by simp [agr, up, thr]),
    hYB.co (by simp [agr, up]) (by simp [agr, up, thr]),
    hYV.co (by simp [agr, up]) (by simp [agr, up, thr])⟩
theorem LR.p1 {μ τ : SG} {nT nW : Nat} {t p : Nat} (hp : p ≤ 10000) (hR : LR μ τ nT nW) : LR (up μ 1 t (nI p)) (up τ 0 t (nI p)) nT nW := by
  obtain ⟨hYN, hYP, hYM, hYT, hYC, hYS, hYW, hYQ, hYK, hYD, hYA, hYB, hYV⟩ := hR
  exact ⟨hYN.co (fun i hi => by simp [up] <;> omega) (by simp [agr, up, thr]),
    ⟨fun h hh => by
      by_cases c : h = t
      · subst c; rw [up_s, up_s]; exact ⟨rfl, p, hp, rfl⟩
      · simp [up, c]; exact hYP.1 h hh, by simp [up]; exact hYP.2⟩,
    hYM.co (by simp [agr, up]) (by simp [agr, up, thr]),
    hYT.co (by simp [agr, up]) (by simp [agr, up, thr]),
    hYC.co (by simp [agr, up]) (by simp [agr, up, thr]),
    hYS.co (by simp [agr, up]) (by simp [agr, up, thr]),
    hYW.co (by simp [agr, up]) (by simp [agr, up, thr]),
    hYQ.co (by simp [agr, up]) (by simp [agr, up, thr]),
    hYK.co (by simp [agr, up]) (by simp [agr, up, thr]),
    hYD.co (by simp [up]) (by simp [agr, up, thr]),
    hYA.co (by simp [agr, up]) (by simp [agr, up, thr]),
    hYB.co (by simp [agr, up]) (by simp [agr, up, thr]),
    hYV.co (by simp [agr, up]) (by simp [agr, up, thr])⟩
theorem LR.c4 {μ τ : SG} {nT nW : Nat} {t : Nat} (hR : LR μ τ nT nW) : LR (up μ 4 t (-1)) (up τ 9 t 1) nT nW := by
  obtain ⟨hYN, hYP, hYM, hYT, hYC, hYS, hYW, hYQ, hYK, hYD, hYA, hYB, hYV⟩ := hR
  exact ⟨hYN.co (fun i hi => by simp [up] <;> omega) (by simp [agr, up, thr]),
    hYP.co (by simp [agr, up]) (by simp [up]) (by simp [agr, up, thr]),
    hYM.co (by simp [agr, up]) (by simp [agr, up, thr]),
    hYT.co (by simp [agr, up]) (by simp [agr, up, thr]),
    fun u hu => by
      by_cases c : u = t
      · subst c; rw [up_s, up_s]; exact Or.inr ⟨rfl, rfl⟩
      · rw [up_i c, up_i c, up_i c]; exact hYC u hu,
    hYS.co (by simp [agr, up]) (by simp [agr, up, thr]),
    hYW.co (by simp [agr, up]) (by simp [agr, up, thr]),
    hYQ.co (by simp [agr, up]) (by simp [agr, up, thr]),
    hYK.co (by simp [agr, up]) (by simp [agr, up, thr]),
    hYD.co (by simp [up]) (by simp [agr, up, thr]),
    hYA.co (by simp [agr, up]) (by simp [agr, up, thr]),
    hYB.co (by simp [agr, up]) (by simp [agr, up, thr]),
    hYV.co (by simp [agr, up]) (by simp [agr, up, thr])⟩
theorem LR.n6 {μ τ : SG} {nT nW : Nat} {r s : Nat} {x : Int32} (hs : s < 4096) (hb : ∀ i, i < 12 → (if i = r then x else τ 15 i) = mBit (nI s) i) (hR : LR μ τ nT nW) : LR (up μ 0 6 (nI s)) (up τ 15 r x) nT nW := by
  obtain ⟨hYN, hYP, hYM, hYT, hYC, hYS, hYW, hYQ, hYK, hYD, hYA, hYB, hYV⟩ := hR
  exact ⟨hYN.co (fun i hi => by simp [up] <;> omega) (by simp [agr, up, thr]),
    hYP.co (by simp [agr, up]) (by simp [up]) (by simp [agr, up, thr]),
    hYM.co (by simp [agr, up]) (by simp [agr, up, thr]),
    hYT.co (by simp [agr, up]) (by simp [agr, up, thr]),
    hYC.co (by simp [agr, up]) (by simp [agr, up, thr]),
    hYS.co (by simp [agr, up]) (by simp [agr, up, thr]),
    hYW.co (by simp [agr, up]) (by simp [agr, up, thr]),
    hYQ.co (by simp [agr, up]) (by simp [agr, up, thr]),
    hYK.co (by simp [agr, up]) (by simp [agr, up, thr]),
    ⟨s, hs, up_s, fun i hi => by rw [← hb i hi]; simp [up]⟩,
    hYA.co (by simp [agr, up]) (by simp [agr, up, thr]),
    hYB.co (by simp [agr, up]) (by simp [agr, up, thr]),
    hYV.co (by simp [agr, up]) (by simp [agr, up, thr])⟩
