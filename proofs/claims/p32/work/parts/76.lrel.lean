/-! THE LAW'S MUSEUMS: what its arrays hold (m f i), against the numbers (t) of the mathematics. Arrays: 0 n 1 p 2 l 3 t 4 c 5 s 6 w 7 q 8 k 9 a 10 b 11 h 12 v 13 m -/
def LN (μ τ : SG) (nT nW : Nat) : Prop := μ 0 0 = nI nT ∧ μ 0 1 = nI nW ∧ nT ≤ 60 ∧ nW ≤ 10 ∧ μ 0 2 = τ 26 0 ∧ μ 0 3 = τ 1 0 ∧ μ 0 4 = τ 12 0 ∧ μ 0 5 = τ 25 0 ∧ τ 3 0 = nI nT ∧ τ 16 0 = nI nW
def LP (μ τ : SG) : Prop := (∀ h, h < 4 → μ 1 h = τ 0 h ∧ ∃ p, p ≤ 10000 ∧ μ 1 h = nI p) ∧ ∃ p, p ≤ 10000 ∧ μ 0 3 = nI p
def LM (μ τ : SG) : Prop := ∀ k, k < 6 → μ 2 k = τ 2 k
def LT (μ τ : SG) (nT : Nat) : Prop := ∀ t, t < nT → ∃ so ho me d, so < 4 ∧ ho < 4 ∧ me < 8 ∧ d ≤ 2000 ∧ μ 3 t = nI (so + 4 * ho + 16 * me + 128 * d) ∧ τ 4 t = nI so ∧ (so = 0 → τ 5 t = nI ho) ∧ (2 ≤ so → τ 6 t = nI me) ∧ τ 7 t = nI d
def LC (μ τ : SG) (nT : Nat) : Prop := ∀ t, t < nT → (¬ μ 4 t < 0 ∧ τ 9 t = 0 ∧ τ 8 t = μ 4 t) ∨ (μ 4 t = -1 ∧ τ 9 t = 1)
def LS (μ τ : SG) : Prop := ∀ t, μ 5 t = τ 13 t ∧ ∃ s, s < 4096 ∧ τ 13 t = nI s
def pw (x y : Int32) : Prop := (x = 0 ∧ y = -1) ∨ ∃ r, r < 12 ∧ ((x = nI (r + 1) ∧ y = nI r) ∨ (x = nI (r + 102) ∧ y = 100 + nI r))
def LW (μ τ : SG) (nT : Nat) : Prop := (∀ t, t < nT → pw (μ 6 t) (τ 10 t)) ∧ ∀ t, nT ≤ t → μ 6 t = 0
def LQ (μ τ : SG) : Prop := ∀ t, μ 7 t = τ 11 t ∧ ∃ q, q < 1000 ∧ τ 11 t = nI q
def LK (μ τ : SG) : Prop := ∀ r, r < 12 → μ 8 r = τ 14 r
def LD (μ τ : SG) : Prop := ∃ s, s < 4096 ∧ μ 0 6 = nI s ∧ ∀ r, r < 12 → τ 15 r = mBit (nI s) r
def LA (μ τ : SG) (nW : Nat) : Prop := ∀ w, w < nW → ∃ ho r le fe, ho < 4 ∧ r < 12 ∧ le < 2 ∧ fe ≤ 1000 ∧ μ 9 w = nI (ho + 4 * r + 64 * le + 128 * fe) ∧ τ 17 w = nI ho ∧ τ 18 w = nI r ∧ τ 19 w = nI le ∧ (le = 1 → τ 20 w = nI fe)
def LB (μ τ : SG) : Prop := ∀ w, μ 10 w = τ 21 w ∧ μ 11 w = τ 22 w ∧ μ 12 w = τ 23 w
def LV (μ τ : SG) : Prop := ∀ j, j < 5 → μ 13 j = τ 24 j
def LR (μ τ : SG) (nT nW : Nat) : Prop := LN μ τ nT nW ∧ LP μ τ ∧ LM μ τ ∧ LT μ τ nT ∧ LC μ τ nT ∧ LS μ τ ∧ LW μ τ nT ∧ LQ μ τ ∧ LK μ τ ∧ LD μ τ ∧ LA μ τ nW ∧ LB μ τ ∧ LV μ τ
section LCO
variable {μ μ' τ τ' : SG} {nT nW : Nat}
theorem LN.co (h : LN μ τ nT nW) (a : ∀ i, i < 6 → μ' 0 i = μ 0 i) (b : agr [1, 3, 12, 16, 25, 26] τ τ') : LN μ' τ' nT nW := by
  unfold LN at *
  rw [a 0 (by decide), a 1 (by decide), a 2 (by decide), a 3 (by decide), a 4 (by decide), a 5 (by decide), b.at (g := 26) (by simp), b.at (g := 1) (by simp), b.at (g := 12) (by simp), b.at (g := 25) (by simp), b.at (g := 3) (by simp), b.at (g := 16) (by simp)]
  exact h
theorem LP.co (h : LP μ τ) (a : agr [1] μ μ') (a3 : μ' 0 3 = μ 0 3) (b : agr [0] τ τ') : LP μ' τ' := by
  obtain ⟨h1, h2⟩ := h
  exact ⟨fun x hx => by rw [b.at (by simp), a.at (by simp)]; exact h1 x hx, by rw [a3]; exact h2⟩
theorem LM.co (h : LM μ τ) (a : agr [2] μ μ') (b : agr [2] τ τ') : LM μ' τ' := fun k hk => by rw [b.at (by simp), a.at (by simp)]; exact h k hk
theorem LT.co (h : LT μ τ nT) (a : agr [3] μ μ') (b : agr [4, 5, 6, 7] τ τ') : LT μ' τ' nT := fun t ht => by
  rw [a.at (g := 3) (by simp), b.at (g := 4) (by simp), b.at (g := 5) (by simp), b.at (g := 6) (by simp), b.at (g := 7) (by simp)]
  exact h t ht
theorem LC.co (h : LC μ τ nT) (a : agr [4] μ μ') (b : agr [8, 9] τ τ') : LC μ' τ' nT := fun t ht => by
  rw [a.at (g := 4) (by simp), b.at (g := 8) (by simp), b.at (g := 9) (by simp)]
  exact h t ht
theorem LS.co (h : LS μ τ) (a : agr [5] μ μ') (b : agr [13] τ τ') : LS μ' τ' := fun t => by rw [a.at (by simp), b.at (by simp)]; exact h t
theorem LW.co (h : LW μ τ nT) (a : agr [6] μ μ') (b : agr [10] τ τ') : LW μ' τ' nT := by
  obtain ⟨h1, h2⟩ := h
  exact ⟨fun t ht => by rw [a.at (by simp), b.at (by simp)]; exact h1 t ht, fun t ht => by rw [a.at (by simp)]; exact h2 t ht⟩
theorem LQ.co (h : LQ μ τ) (a : agr [7] μ μ') (b : agr [11] τ τ') : LQ μ' τ' := fun t => by rw [a.at (by simp), b.at (by simp)]; exact h t
theorem LK.co (h : LK μ τ) (a : agr [8] μ μ') (b : agr [14] τ τ') : LK μ' τ' := fun r hr => by rw [a.at (by simp), b.at (by simp)]; exact h r hr
theorem LD.co (h : LD μ τ) (a6 : μ' 0 6 = μ 0 6) (b : agr [15] τ τ') : LD μ' τ' := by
  obtain ⟨s, h1, h2, h3⟩ := h
  exact ⟨s, h1, by rw [a6]; exact h2, fun r hr => by rw [b.at (by simp)]; exact h3 r hr⟩
theorem LA.co (h : LA μ τ nW) (a : agr [9] μ μ') (b : agr [17, 18, 19, 20] τ τ') : LA μ' τ' nW := fun t ht => by
  rw [a.at (g := 9) (by simp), b.at (g := 17) (by simp), b.at (g := 18) (by simp), b.at (g := 19) (by simp), b.at (g := 20) (by simp)]
  exact h t ht
theorem LB.co (h : LB μ τ) (a : agr [10, 11, 12] μ μ') (b : agr [21, 22, 23] τ τ') : LB μ' τ' := fun t => by
  rw [a.at (g := 10) (by simp), a.at (g := 11) (by simp), a.at (g := 12) (by simp), b.at (g := 21) (by simp), b.at (g := 22) (by simp), b.at (g := 23) (by simp)]
  exact h t
theorem LV.co (h : LV μ τ) (a : agr [13] μ μ') (b : agr [24] τ τ') : LV μ' τ' := fun j hj => by rw [a.at (by simp), b.at (by simp)]; exact h j hj
end LCO
theorem LR.th {μ τ : SG} {nT nW : Nat} {k : Int32} (hR : LR μ τ nT nW) : LR μ (thr τ k) nT nW := by
  obtain ⟨hLN, hLP, hLM, hLT, hLC, hLS, hLW, hLQ, hLK, hLD, hLA, hLB, hLV⟩ := hR
  exact ⟨hLN.co (fun _ _ => rfl) (by simp [agr, up, thr]),
    hLP.co agr.rf rfl (by simp [agr, up, thr]),
    hLM.co agr.rf (by simp [agr, up, thr]),
    hLT.co agr.rf (by simp [agr, up, thr]),
    hLC.co agr.rf (by simp [agr, up, thr]),
    hLS.co agr.rf (by simp [agr, up, thr]),
    hLW.co agr.rf (by simp [agr, up, thr]),
    hLQ.co agr.rf (by simp [agr, up, thr]),
    hLK.co agr.rf (by simp [agr, up, thr]),
    hLD.co rfl (by simp [agr, up, thr]),
    hLA.co agr.rf (by simp [agr, up, thr]),
    hLB.co agr.rf (by simp [agr, up, thr]),
    hLV.co agr.rf (by simp [agr, up, thr])⟩
theorem LR.s5 {μ τ : SG} {nT nW : Nat} {t s : Nat} (hs : s < 4096) (hR : LR μ τ nT nW) : LR (up μ 5 t (nI s)) (up τ 13 t (nI s)) nT nW := by
  obtain ⟨hLN, hLP, hLM, hLT, hLC, hLS, hLW, hLQ, hLK, hLD, hLA, hLB, hLV⟩ := hR
  exact ⟨hLN.co (fun i hi => by simp [up] <;> omega) (by simp [agr, up, thr]),
    hLP.co (by simp [agr, up]) (by simp [up]) (by simp [agr, up, thr]),
    hLM.co (by simp [agr, up]) (by simp [agr, up, thr]),
    hLT.co (by simp [agr, up]) (by simp [agr, up, thr]),
    hLC.co (by simp [agr, up]) (by simp [agr, up, thr]),
    fun u => by
      by_cases c : u = t
      · subst c; rw [up_s, up_s]; exact ⟨rfl, s, hs, rfl⟩
      · simp [up, c]; exact hLS u,
    hLW.co (by simp [agr, up]) (by simp [agr, up, thr]),
    hLQ.co (by simp [agr, up]) (by simp [agr, up, thr]),
    hLK.co (by simp [agr, up]) (by simp [agr, up, thr]),
    hLD.co (by simp [up]) (by simp [agr, up, thr]),
    hLA.co (by simp [agr, up]) (by simp [agr, up, thr]),
    hLB.co (by simp [agr, up]) (by simp [agr, up, thr]),
    hLV.co (by simp [agr, up]) (by simp [agr, up, thr])⟩
theorem LR.w6 {μ τ : SG} {nT nW : Nat} {t : Nat} {x y : Int32} (ht : t < nT) (hp : pw x y) (hR : LR μ τ nT nW) : LR (up μ 6 t x) (up τ 10 t y) nT nW := by
  obtain ⟨hLN, hLP, hLM, hLT, hLC, hLS, hLW, hLQ, hLK, hLD, hLA, hLB, hLV⟩ := hR
  exact ⟨hLN.co (fun i hi => by simp [up] <;> omega) (by simp [agr, up, thr]),
    hLP.co (by simp [agr, up]) (by simp [up]) (by simp [agr, up, thr]),
    hLM.co (by simp [agr, up]) (by simp [agr, up, thr]),
    hLT.co (by simp [agr, up]) (by simp [agr, up, thr]),
    hLC.co (by simp [agr, up]) (by simp [agr, up, thr]),
    hLS.co (by simp [agr, up]) (by simp [agr, up, thr]),
    ⟨fun u hu => by
      by_cases c : u = t
      · subst c; rw [up_s, up_s]; exact hp
      · simp [up, c]; exact hLW.1 u hu, fun u hu => by
      have c : ¬ u = t := by omega
      simp [up, c]; exact hLW.2 u hu⟩,
    hLQ.co (by simp [agr, up]) (by simp [agr, up, thr]),
    hLK.co (by simp [agr, up]) (by simp [agr, up, thr]),
    hLD.co (by simp [up]) (by simp [agr, up, thr]),
    hLA.co (by simp [agr, up]) (by simp [agr, up, thr]),
    hLB.co (by simp [agr, up]) (by simp [agr, up, thr]),
    hLV.co (by simp [agr, up]) (by simp [agr, up, thr])⟩
theorem LR.b10 {μ τ : SG} {nT nW : Nat} {t : Nat} {x : Int32} (hR : LR μ τ nT nW) : LR (up μ 10 t x) (up τ 21 t x) nT nW := by
  obtain ⟨hLN, hLP, hLM, hLT, hLC, hLS, hLW, hLQ, hLK, hLD, hLA, hLB, hLV⟩ := hR
  exact ⟨hLN.co (fun i hi => by simp [up] <;> omega) (by simp [agr, up, thr]),
    hLP.co (by simp [agr, up]) (by simp [up]) (by simp [agr, up, thr]),
    hLM.co (by simp [agr, up]) (by simp [agr, up, thr]),
    hLT.co (by simp [agr, up]) (by simp [agr, up, thr]),
    hLC.co (by simp [agr, up]) (by simp [agr, up, thr]),
    hLS.co (by simp [agr, up]) (by simp [agr, up, thr]),
    hLW.co (by simp [agr, up]) (by simp [agr, up, thr]),
    hLQ.co (by simp [agr, up]) (by simp [agr, up, thr]),
    hLK.co (by simp [agr, up]) (by simp [agr, up, thr]),
    hLD.co (by simp [up]) (by simp [agr, up, thr]),
    hLA.co (by simp [agr, up]) (by simp [agr, up, thr]),
    fun u => by
      by_cases c : u = t
      · subst c; simp [up]
      · simp [up, c]; exact hLB u,
    hLV.co (by simp [agr, up]) (by simp [agr, up, thr])⟩
theorem LR.h11 {μ τ : SG} {nT nW : Nat} {t : Nat} {x : Int32} (hR : LR μ τ nT nW) : LR (up μ 11 t x) (up τ 22 t x) nT nW := by
  obtain ⟨hLN, hLP, hLM, hLT, hLC, hLS, hLW, hLQ, hLK, hLD, hLA, hLB, hLV⟩ := hR
  exact ⟨hLN.co (fun i hi => by simp [up] <;> omega) (by simp [agr, up, thr]),
    hLP.co (by simp [agr, up]) (by simp [up]) (by simp [agr, up, thr]),
    hLM.co (by simp [agr, up]) (by simp [agr, up, thr]),
    hLT.co (by simp [agr, up]) (by simp [agr, up, thr]),
    hLC.co (by simp [agr, up]) (by simp [agr, up, thr]),
    hLS.co (by simp [agr, up]) (by simp [agr, up, thr]),
    hLW.co (by simp [agr, up]) (by simp [agr, up, thr]),
    hLQ.co (by simp [agr, up]) (by simp [agr, up, thr]),
    hLK.co (by simp [agr, up]) (by simp [agr, up, thr]),
    hLD.co (by simp [up]) (by simp [agr, up, thr]),
    hLA.co (by simp [agr, up]) (by simp [agr, up, thr]),
    fun u => by
      by_cases c : u = t
      · subst c; simp [up]
      · simp [up, c]; exact hLB u,
    hLV.co (by simp [agr, up]) (by simp [agr, up, thr])⟩
theorem LR.v12 {μ τ : SG} {nT nW : Nat} {t : Nat} {x : Int32} (hR : LR μ τ nT nW) : LR (up μ 12 t x) (up τ 23 t x) nT nW := by
  obtain ⟨hLN, hLP, hLM, hLT, hLC, hLS, hLW, hLQ, hLK, hLD, hLA, hLB, hLV⟩ := hR
  exact ⟨hLN.co (fun i hi => by simp [up] <;> omega) (by simp [agr, up, thr]),
    hLP.co (by simp [agr, up]) (by simp [up]) (by simp [agr, up, thr]),
    hLM.co (by simp [agr, up]) (by simp [agr, up, thr]),
    hLT.co (by simp [agr, up]) (by simp [agr, up, thr]),
    hLC.co (by simp [agr, up]) (by simp [agr, up, thr]),
    hLS.co (by simp [agr, up]) (by simp [agr, up, thr]),
    hLW.co (by simp [agr, up]) (by simp [agr, up, thr]),
    hLQ.co (by simp [agr, up]) (by simp [agr, up, thr]),
    hLK.co (by simp [agr, up]) (by simp [agr, up, thr]),
    hLD.co (by simp [up]) (by simp [agr, up, thr]),
    hLA.co (by simp [agr, up]) (by simp [agr, up, thr]),
    fun u => by
      by_cases c : u = t
      · subst c; simp [up]
      · simp [up, c]; exact hLB u,
    hLV.co (by simp [agr, up]) (by simp [agr, up, thr])⟩
theorem LR.m13 {μ τ : SG} {nT nW : Nat} {t : Nat} {x : Int32} (hR : LR μ τ nT nW) : LR (up μ 13 t x) (up τ 24 t x) nT nW := by
  obtain ⟨hLN, hLP, hLM, hLT, hLC, hLS, hLW, hLQ, hLK, hLD, hLA, hLB, hLV⟩ := hR
  exact ⟨hLN.co (fun i hi => by simp [up] <;> omega) (by simp [agr, up, thr]),
    hLP.co (by simp [agr, up]) (by simp [up]) (by simp [agr, up, thr]),
    hLM.co (by simp [agr, up]) (by simp [agr, up, thr]),
    hLT.co (by simp [agr, up]) (by simp [agr, up, thr]),
    hLC.co (by simp [agr, up]) (by simp [agr, up, thr]),
    hLS.co (by simp [agr, up]) (by simp [agr, up, thr]),
    hLW.co (by simp [agr, up]) (by simp [agr, up, thr]),
    hLQ.co (by simp [agr, up]) (by simp [agr, up, thr]),
    hLK.co (by simp [agr, up]) (by simp [agr, up, thr]),
    hLD.co (by simp [up]) (by simp [agr, up, thr]),
    hLA.co (by simp [agr, up]) (by simp [agr, up, thr]),
    hLB.co (by simp [agr, up]) (by simp [agr, up, thr]),
    fun u hu => by
      by_cases c : u = t
      · subst c; simp [up]
      · simp [up, c]; exact hLV u hu⟩
theorem LR.k8 {μ τ : SG} {nT nW : Nat} {t : Nat} {x : Int32} (hR : LR μ τ nT nW) : LR (up μ 8 t x) (up τ 14 t x) nT nW := by
  obtain ⟨hLN, hLP, hLM, hLT, hLC, hLS, hLW, hLQ, hLK, hLD, hLA, hLB, hLV⟩ := hR
  exact ⟨hLN.co (fun i hi => by simp [up] <;> omega) (by simp [agr, up, thr]),
    hLP.co (by simp [agr, up]) (by simp [up]) (by simp [agr, up, thr]),
    hLM.co (by simp [agr, up]) (by simp [agr, up, thr]),
    hLT.co (by simp [agr, up]) (by simp [agr, up, thr]),
    hLC.co (by simp [agr, up]) (by simp [agr, up, thr]),
    hLS.co (by simp [agr, up]) (by simp [agr, up, thr]),
    hLW.co (by simp [agr, up]) (by simp [agr, up, thr]),
    hLQ.co (by simp [agr, up]) (by simp [agr, up, thr]),
    fun u hu => by
      by_cases c : u = t
      · subst c; simp [up]
      · simp [up, c]; exact hLK u hu,
    hLD.co (by simp [up]) (by simp [agr, up, thr]),
    hLA.co (by simp [agr, up]) (by simp [agr, up, thr]),
    hLB.co (by simp [agr, up]) (by simp [agr, up, thr]),
    hLV.co (by simp [agr, up]) (by simp [agr, up, thr])⟩
theorem LR.l2 {μ τ : SG} {nT nW : Nat} {t : Nat} {x : Int32} (hR : LR μ τ nT nW) : LR (up μ 2 t x) (up τ 2 t x) nT nW := by
  obtain ⟨hLN, hLP, hLM, hLT, hLC, hLS, hLW, hLQ, hLK, hLD, hLA, hLB, hLV⟩ := hR
  exact ⟨hLN.co (fun i hi => by simp [up] <;> omega) (by simp [agr, up, thr]),
    hLP.co (by simp [agr, up]) (by simp [up]) (by simp [agr, up, thr]),
    fun u hu => by
      by_cases c : u = t
      · subst c; simp [up]
      · simp [up, c]; exact hLM u hu,
    hLT.co (by simp [agr, up]) (by simp [agr, up, thr]),
    hLC.co (by simp [agr, up]) (by simp [agr, up, thr]),
    hLS.co (by simp [agr, up]) (by simp [agr, up, thr]),
    hLW.co (by simp [agr, up]) (by simp [agr, up, thr]),
    hLQ.co (by simp [agr, up]) (by simp [agr, up, thr]),
    hLK.co (by simp [agr, up]) (by simp [agr, up, thr]),
    hLD.co (by simp [up]) (by simp [agr, up, thr]),
    hLA.co (by simp [agr, up]) (by simp [agr, up, thr]),
    hLB.co (by simp [agr, up]) (by simp [agr, up, thr]),
    hLV.co (by simp [agr, up]) (by simp [agr, up, thr])⟩
theorem LR.q7 {μ τ : SG} {nT nW : Nat} {t q : Nat} (hq : q < 1000) (hR : LR μ τ nT nW) : LR (up μ 7 t (nI q)) (up τ 11 t (nI q)) nT nW := by
  obtain ⟨hLN, hLP, hLM, hLT, hLC, hLS, hLW, hLQ, hLK, hLD, hLA, hLB, hLV⟩ := hR
  exact ⟨hLN.co (fun i hi => by simp [up] <;> omega) (by simp [agr, up, thr]),
    hLP.co (by simp [agr, up]) (by simp [up]) (by simp [agr, up, thr]),
    hLM.co (by simp [agr, up]) (by simp [agr, up, thr]),
    hLT.co (by simp [agr, up]) (by simp [agr, up, thr]),
    hLC.co (by simp [agr, up]) (by simp [agr, up, thr]),
    hLS.co (by simp [agr, up]) (by simp [agr, up, thr]),
    hLW.co (by simp [agr, up]) (by simp [agr, up, thr]),
    fun u => by
      by_cases c : u = t
      · subst c; rw [up_s, up_s]; exact ⟨rfl, q, hq, rfl⟩
      · simp [up, c]; exact hLQ u,
    hLK.co (by simp [agr, up]) (by simp [agr, up, thr]),
    hLD.co (by simp [up]) (by simp [agr, up, thr]),
    hLA.co (by simp [agr, up]) (by simp [agr, up, thr]),
    hLB.co (by simp [agr, up]) (by simp [agr, up, thr]),
    hLV.co (by simp [agr, up]) (by simp [agr, up, thr])⟩
theorem LR.n4 {μ τ : SG} {nT nW : Nat} {x : Int32} (hR : LR μ τ nT nW) : LR (up μ 0 4 x) (up τ 12 0 x) nT nW := by
  obtain ⟨hLN, hLP, hLM, hLT, hLC, hLS, hLW, hLQ, hLK, hLD, hLA, hLB, hLV⟩ := hR
  exact ⟨by
      obtain ⟨n0, n1, n60, n10, n2, n3, n4, n5, m3, m16⟩ := hLN
      exact ⟨by simp [up]; exact n0, by simp [up]; exact n1, n60, n10, by simp [up]; exact n2, by simp [up]; exact n3, by simp [up], by simp [up]; exact n5, by simp [up]; exact m3, by simp [up]; exact m16⟩,
    hLP.co (by simp [agr, up]) (by simp [up]) (by simp [agr, up, thr]),
    hLM.co (by simp [agr, up]) (by simp [agr, up, thr]),
    hLT.co (by simp [agr, up]) (by simp [agr, up, thr]),
    hLC.co (by simp [agr, up]) (by simp [agr, up, thr]),
    hLS.co (by simp [agr, up]) (by simp [agr, up, thr]),
    hLW.co (by simp [agr, up]) (by simp [agr, up, thr]),
    hLQ.co (by simp [agr, up]) (by simp [agr, up, thr]),
    hLK.co (by simp [agr, up]) (by simp [agr, up, thr]),
    hLD.co (by simp [up]) (by simp [agr, up, thr]),
    hLA.co (by simp [agr, up]) (by simp [agr, up, thr]),
    hLB.co (by simp [agr, up]) (by simp [agr, up, thr]),
    hLV.co (by simp [agr, up]) (by simp [agr, up, thr])⟩
theorem LR.n5 {μ τ : SG} {nT nW : Nat} {x : Int32} (hR : LR μ τ nT nW) : LR (up μ 0 5 x) (up τ 25 0 x) nT nW := by
  obtain ⟨hLN, hLP, hLM, hLT, hLC, hLS, hLW, hLQ, hLK, hLD, hLA, hLB, hLV⟩ := hR
  exact ⟨by
      obtain ⟨n0, n1, n60, n10, n2, n3, n4, n5, m3, m16⟩ := hLN
      exact ⟨by simp [up]; exact n0, by simp [up]; exact n1, n60, n10, by simp [up]; exact n2, by simp [up]; exact n3, by simp [up]; exact n4, by simp [up], by simp [up]; exact m3, by simp [up]; exact m16⟩,
    hLP.co (by simp [agr, up]) (by simp [up]) (by simp [agr, up, thr]),
    hLM.co (by simp [agr, up]) (by simp [agr, up, thr]),
    hLT.co (by simp [agr, up]) (by simp [agr, up, thr]),
    hLC.co (by simp [agr, up]) (by simp [agr, up, thr]),
    hLS.co (by simp [agr, up]) (by simp [agr, up, thr]),
    hLW.co (by simp [agr, up]) (by simp [agr, up, thr]),
    hLQ.co (by simp [agr, up]) (by simp [agr, up, thr]),
    hLK.co (by simp [agr, up]) (by simp [agr, up, thr]),
    hLD.co (by simp [up]) (by simp [agr, up, thr]),
    hLA.co (by simp [agr, up]) (by simp [agr, up, thr]),
    hLB.co (by simp [agr, up]) (by simp [agr, up, thr]),
    hLV.co (by simp [agr, up]) (by simp [agr, up, thr])⟩
theorem LR.n2 {μ τ : SG} {nT nW : Nat} {x : Int32} (hR : LR μ τ nT nW) : LR (up μ 0 2 x) (up τ 26 0 x) nT nW := by
  obtain ⟨hLN, hLP, hLM, hLT, hLC, hLS, hLW, hLQ, hLK, hLD, hLA, hLB, hLV⟩ := hR
  exact ⟨by
      obtain ⟨n0, n1, n60, n10, n2, n3, n4, n5, m3, m16⟩ := hLN
      exact ⟨by simp [up]; exact n0, by simp [up]; exact n1, n60, n10, by simp [up], by simp [up]; exact n3, by simp [up]; exact n4, by simp [up]; exact n5, by simp [up]; exact m3, by simp [up]; exact m16⟩,
    hLP.co (by simp [agr, up]) (by simp [up]) (by simp [agr, up, thr]),
    hLM.co (by simp [agr, up]) (by simp [agr, up, thr]),
    hLT.co (by simp [agr, up]) (by simp [agr, up, thr]),
    hLC.co (by simp [agr, up]) (by simp [agr, up, thr]),
    hLS.co (by simp [agr, up]) (by simp [agr, up, thr]),
    hLW.co (by simp [agr, up]) (by simp [agr, up, thr]),
    hLQ.co (by simp [agr, up]) (by simp [agr, up, thr]),
    hLK.co (by simp [agr, up]) (by simp [agr, up, thr]),
    hLD.co (by simp [up]) (by simp [agr, up, thr]),
    hLA.co (by simp [agr, up]) (by simp [agr, up, thr]),
    hLB.co (by simp [agr, up]) (by simp [agr, up, thr]),
    hLV.co (by simp [agr, up]) (by simp [agr, up, thr])⟩
theorem LR.n3 {μ τ : SG} {nT nW : Nat} {p : Nat} (hp : p ≤ 10000) (hR : LR μ τ nT nW) : LR (up μ 0 3 (nI p)) (up τ 1 0 (nI p)) nT nW := by
  obtain ⟨hLN, hLP, hLM, hLT, hLC, hLS, hLW, hLQ, hLK, hLD, hLA, hLB, hLV⟩ := hR
  exact ⟨by
      obtain ⟨n0, n1, n60, n10, n2, n3, n4, n5, m3, m16⟩ := hLN
      exact ⟨by simp [up]; exact n0, by simp [up]; exact n1, n60, n10, by simp [up]; exact n2, by simp [up], by simp [up]; exact n4, by simp [up]; exact n5, by simp [up]; exact m3, by simp [up]; exact m16⟩,
    ⟨fun h hh => by simp [up]; exact hLP.1 h hh, p, hp, up_s⟩,
    hLM.co (by simp [agr, up]) (by simp [agr, up, thr]),
    hLT.co (by simp [agr, up]) (by simp [agr, up, thr]),
    hLC.co (by simp [agr, up]) (by simp [agr, up, thr]),
    hLS.co (by simp [agr, up]) (by simp [agr, up, thr]),
    hLW.co (by simp [agr, up]) (by simp [agr, up, thr]),
    hLQ.co (by simp [agr, up]) (by simp [agr, up, thr]),
    hLK.co (by simp [agr, up]) (by simp [agr, up, thr]),
    hLD.co (by simp [up]) (by simp [agr, up, thr]),
    hLA.co (by simp [agr, up]) (by simp [agr, up, thr]),
    hLB.co (by simp [agr, up]) (by simp [agr, up, thr]),
    hLV.co (by simp [agr, up]) (by simp [agr, up, thr])⟩
theorem LR.p1 {μ τ : SG} {nT nW : Nat} {t p : Nat} (hp : p ≤ 10000) (hR : LR μ τ nT nW) : LR (up μ 1 t (nI p)) (up τ 0 t (nI p)) nT nW := by
  obtain ⟨hLN, hLP, hLM, hLT, hLC, hLS, hLW, hLQ, hLK, hLD, hLA, hLB, hLV⟩ := hR
  exact ⟨hLN.co (fun i hi => by simp [up] <;> omega) (by simp [agr, up, thr]),
    ⟨fun h hh => by
      by_cases c : h = t
      · subst c; rw [up_s, up_s]; exact ⟨rfl, p, hp, rfl⟩
      · simp [up, c]; exact hLP.1 h hh, by simp [up]; exact hLP.2⟩,
    hLM.co (by simp [agr, up]) (by simp [agr, up, thr]),
    hLT.co (by simp [agr, up]) (by simp [agr, up, thr]),
    hLC.co (by simp [agr, up]) (by simp [agr, up, thr]),
    hLS.co (by simp [agr, up]) (by simp [agr, up, thr]),
    hLW.co (by simp [agr, up]) (by simp [agr, up, thr]),
    hLQ.co (by simp [agr, up]) (by simp [agr, up, thr]),
    hLK.co (by simp [agr, up]) (by simp [agr, up, thr]),
    hLD.co (by simp [up]) (by simp [agr, up, thr]),
    hLA.co (by simp [agr, up]) (by simp [agr, up, thr]),
    hLB.co (by simp [agr, up]) (by simp [agr, up, thr]),
    hLV.co (by simp [agr, up]) (by simp [agr, up, thr])⟩
theorem LR.c4 {μ τ : SG} {nT nW : Nat} {t : Nat} (hR : LR μ τ nT nW) : LR (up μ 4 t (-1)) (up τ 9 t 1) nT nW := by
  obtain ⟨hLN, hLP, hLM, hLT, hLC, hLS, hLW, hLQ, hLK, hLD, hLA, hLB, hLV⟩ := hR
  exact ⟨hLN.co (fun i hi => by simp [up] <;> omega) (by simp [agr, up, thr]),
    hLP.co (by simp [agr, up]) (by simp [up]) (by simp [agr, up, thr]),
    hLM.co (by simp [agr, up]) (by simp [agr, up, thr]),
    hLT.co (by simp [agr, up]) (by simp [agr, up, thr]),
    fun u hu => by
      by_cases c : u = t
      · subst c; rw [up_s, up_s]; exact Or.inr ⟨rfl, rfl⟩
      · simp [up, c]; exact hLC u hu,
    hLS.co (by simp [agr, up]) (by simp [agr, up, thr]),
    hLW.co (by simp [agr, up]) (by simp [agr, up, thr]),
    hLQ.co (by simp [agr, up]) (by simp [agr, up, thr]),
    hLK.co (by simp [agr, up]) (by simp [agr, up, thr]),
    hLD.co (by simp [up]) (by simp [agr, up, thr]),
    hLA.co (by simp [agr, up]) (by simp [agr, up, thr]),
    hLB.co (by simp [agr, up]) (by simp [agr, up, thr]),
    hLV.co (by simp [agr, up]) (by simp [agr, up, thr])⟩
theorem LR.n6 {μ τ : SG} {nT nW : Nat} {r s : Nat} {x : Int32} (hs : s < 4096) (hb : ∀ i, i < 12 → (if i = r then x else τ 15 i) = mBit (nI s) i) (hR : LR μ τ nT nW) : LR (up μ 0 6 (nI s)) (up τ 15 r x) nT nW := by
  obtain ⟨hLN, hLP, hLM, hLT, hLC, hLS, hLW, hLQ, hLK, hLD, hLA, hLB, hLV⟩ := hR
  exact ⟨hLN.co (fun i hi => by simp [up] <;> omega) (by simp [agr, up, thr]),
    hLP.co (by simp [agr, up]) (by simp [up]) (by simp [agr, up, thr]),
    hLM.co (by simp [agr, up]) (by simp [agr, up, thr]),
    hLT.co (by simp [agr, up]) (by simp [agr, up, thr]),
    hLC.co (by simp [agr, up]) (by simp [agr, up, thr]),
    hLS.co (by simp [agr, up]) (by simp [agr, up, thr]),
    hLW.co (by simp [agr, up]) (by simp [agr, up, thr]),
    hLQ.co (by simp [agr, up]) (by simp [agr, up, thr]),
    hLK.co (by simp [agr, up]) (by simp [agr, up, thr]),
    ⟨s, hs, up_s, fun i hi => by rw [← hb i hi]; simp [up]⟩,
    hLA.co (by simp [agr, up]) (by simp [agr, up, thr]),
    hLB.co (by simp [agr, up]) (by simp [agr, up, thr]),
    hLV.co (by simp [agr, up]) (by simp [agr, up, thr])⟩
