/-! THE RELATION between the class's numbers (s, qs, nT, nW, f) and the reference's (t) -/
/-- s' is s at the fields gs -/
def agr (gs : List Nat) (σ σ' : SG) : Prop := ∀ g ∈ gs, ∀ i, σ' g i = σ g i
theorem agr.at {gs : List Nat} {σ σ' : SG} (h : agr gs σ σ') {g i : Nat} (hg : g ∈ gs) : σ' g i = σ g i := h g hg i
theorem agr.sub {gs hs : List Nat} {σ σ' : SG} (h : agr gs σ σ') (hh : ∀ g ∈ hs, g ∈ gs) : agr hs σ σ' := fun g hg i => h g (hh g hg) i
theorem agr.rf {gs : List Nat} {σ : SG} : agr gs σ σ := fun _ _ _ => rfl
theorem agr.tr {gs : List Nat} {σ σ' σ'' : SG} (h : agr gs σ σ') (h' : agr gs σ' σ'') : agr gs σ σ'' := fun g hg i => (h' g hg i).trans (h g hg i)
def RN (σ τ : SG) (nT nW f D : Nat) : Prop := σ 26 0 = nI f ∧ f ≤ nT ∧ nT ≤ 80 ∧ τ 3 0 = nI nT ∧ τ 16 0 = nI nW ∧ nW ≤ 12 ∧ σ 25 0 = nI D ∧ τ 26 0 = nI D ∧ D ≤ 2000 ∧ σ 27 0 = τ 25 0
def RP (σ τ : SG) : Prop := τ 1 0 = σ 0 0 ∧ ∀ h, h < 4 → τ 0 h = σ 0 (h + 1)
def RM (σ τ : SG) : Prop := ∀ k, k < 6 → τ 2 k = σ 9 k
def RT (σ τ : SG) (nT : Nat) : Prop := ∀ t, t < nT → τ 4 t = σ 10 t ∧ τ 5 t = σ 11 t ∧ τ 6 t = σ 12 t ∧ τ 8 t = σ 13 t ∧ τ 9 t = σ 14 t ∧ τ 13 t = σ 15 t
def RZ (τ : SG) (nT nW : Nat) : Prop := (∀ t, nT ≤ t → τ 9 t = 0 ∧ τ 13 t = 0) ∧ ∀ w, nW ≤ w → τ 19 w = 0 ∧ τ 20 w = 0 ∧ τ 21 w = 0 ∧ τ 23 w = 0
def RD (τ : SG) (nT f D : Nat) : Prop := (∀ t, t < f → ∃ d, d < D ∧ τ 7 t = nI d) ∧ ∀ t, f ≤ t → t < nT → τ 7 t = nI D
def RW (σ τ : SG) (nW : Nat) : Prop := ∀ w, w < nW → τ 17 w = σ 18 w ∧ τ 18 w = σ 19 w ∧ τ 19 w = σ 20 w ∧ τ 20 w = σ 21 w ∧ τ 21 w = σ 22 w ∧ τ 22 w = σ 23 w ∧ τ 23 w = σ 24 w
def RB (σ : SG) (nW : Nat) : Prop := ∀ w, w < nW → (∃ h, h < 4 ∧ σ 18 w = nI h) ∧ (∃ b, b < 12 ∧ σ 19 w = nI b) ∧ ∃ fe, fe ≤ 1000 ∧ σ 21 w = nI fe
def RA (σ τ : SG) : Prop := τ 24 4 = σ 1 0 ∧ ∀ h, h < 4 → τ 24 h = σ 1 (h + 1)
def RR (σ τ : SG) : Prop := ∀ r, r < 12 → τ 14 r = σ 5 r ∧ τ 15 r = σ 6 r ∧ ∃ c, c ≤ 20 ∧ σ 5 r = nI c
def RV (σ τ : SG) (nT : Nat) : Prop := ∀ r, r < 12 → σ 7 r = nI (cntF (mIn τ (nI r)) 0 nT)
def plc (σ τ : SG) (t : Nat) : Prop := (σ 16 t = -1 ∧ σ 17 t = 0 ∧ τ 10 t = -1) ∨ ∃ r, r < 12 ∧ σ 16 t = nI r ∧ ((σ 17 t = 0 ∧ τ 10 t = nI r) ∨ (σ 17 t = 1 ∧ τ 10 t = 100 + nI r))
def RO (σ τ : SG) (nT f : Nat) : Prop := ∀ t, t < nT → plc σ τ t ∧ (t < f → τ 10 t = -1)
def RQ (qs : Nat → List Nat) (τ : SG) (nT : Nat) : Prop := ∀ r, r < 12 → (qs r).Nodup ∧ (∀ t, t ∈ qs r ↔ t < nT ∧ τ 10 t = 100 + nI r) ∧ (qs r).Pairwise (fun a b => mAhead τ a b = true)
def RC (τ : SG) (nT N : Nat) : Prop := ∃ K, K ≤ N ∧ τ 12 0 = nI K ∧ ∀ t r, t < nT → r < 12 → τ 10 t = 100 + nI r → ∃ q, q < K ∧ τ 11 t = nI q
def RF (σ : SG) (qs : Nat → List Nat) (τ : SG) (nT : Nat) : Prop := ∀ r c, r < 12 → c ≤ 1000 → qs r ≠ [] → σ 5 r = nI c → c ≤ cntF (mIn τ (nI r)) 0 nT
def RS (σ : SG) (nT : Nat) : Prop := ∀ t, t < nT → ((σ 10 t = 0 ∧ ∃ h, h < 4 ∧ σ 11 t = nI h) ∨ (σ 10 t ≠ 0 ∧ σ 11 t = -1)) ∧ ∃ s, s < 4096 ∧ σ 15 t = nI s
def RX (σ : SG) (nT f : Nat) : Prop := (∀ t, f ≤ t → t < nT → σ 10 t = 2 → ∃ k, k < 6 ∧ σ 12 t = nI k ∧ fBel (σ 9 k) (σ 25 0) = true) ∧ ∀ t u, f ≤ t → t < nT → f ≤ u → u < nT → σ 10 t = 2 → σ 10 u = 2 → σ 14 t = 0 → σ 14 u = 0 → σ 12 t = σ 12 u → t = u
def RY (σ : SG) (f : Nat) : Prop := ∀ j, j < 5 → σ 1 j = σ 2 j + σ 3 j + σ 4 j + fBrT σ (nI j - 1) f + fBrM σ (nI j - 1) f
/-- all of it: D the day, N a bound for those that came -/
def RR0 (σ : SG) (qs : Nat → List Nat) (nT nW f : Nat) (τ : SG) (D N : Nat) : Prop :=
  RN σ τ nT nW f D ∧ RP σ τ ∧ RM σ τ ∧ RT σ τ nT ∧ RZ τ nT nW ∧ RD τ nT f D ∧ RW σ τ nW ∧ RB σ nW ∧ RA σ τ ∧ RR σ τ ∧ RV σ τ nT ∧ RO σ τ nT f ∧ RQ qs τ nT ∧ RC τ nT N ∧ RF σ qs τ nT ∧ RS σ nT ∧ RX σ nT f ∧ RY σ f
section RCONG
variable {σ σ' τ τ' : SG} {qs : Nat → List Nat} {nT nW f D N : Nat}
theorem RN.co (h : RN σ τ nT nW f D) (a : agr [25, 26, 27] σ σ') (b : agr [3, 16, 25, 26] τ τ') : RN σ' τ' nT nW f D := by
  unfold RN at *
  rw [a.at (g := 26) (by simp), a.at (g := 25) (by simp), a.at (g := 27) (by simp), b.at (g := 3) (by simp), b.at (g := 16) (by simp), b.at (g := 26) (by simp), b.at (g := 25) (by simp)]
  exact h
theorem RP.co (h : RP σ τ) (a : agr [0] σ σ') (b : agr [0, 1] τ τ') : RP σ' τ' := by
  obtain ⟨h1, h2⟩ := h
  exact ⟨by rw [b.at (by simp), a.at (by simp)]; exact h1, fun x hx => by rw [b.at (by simp), a.at (by simp)]; exact h2 x hx⟩
theorem RM.co (h : RM σ τ) (a : agr [9] σ σ') (b : agr [2] τ τ') : RM σ' τ' := fun k hk => by rw [b.at (by simp), a.at (by simp)]; exact h k hk
theorem RT.co (h : RT σ τ nT) (a : agr [10, 11, 12, 13, 14, 15] σ σ') (b : agr [4, 5, 6, 8, 9, 13] τ τ') : RT σ' τ' nT := fun t ht => by
  rw [a.at (g := 10) (by simp), a.at (g := 11) (by simp), a.at (g := 12) (by simp), a.at (g := 13) (by simp), a.at (g := 14) (by simp), a.at (g := 15) (by simp), b.at (g := 4) (by simp), b.at (g := 5) (by simp), b.at (g := 6) (by simp), b.at (g := 8) (by simp), b.at (g := 9) (by simp), b.at (g := 13) (by simp)]
  exact h t ht
theorem RZ.co (h : RZ τ nT nW) (b : agr [9, 13, 19, 20, 21, 23] τ τ') : RZ τ' nT nW := by
  obtain ⟨h1, h2⟩ := h
  exact ⟨fun t ht => by rw [b.at (g := 9) (by simp), b.at (g := 13) (by simp)]; exact h1 t ht, fun w hw => by rw [b.at (g := 19) (by simp), b.at (g := 20) (by simp), b.at (g := 21) (by simp), b.at (g := 23) (by simp)]; exact h2 w hw⟩
theorem RD.co (h : RD τ nT f D) (b : agr [7] τ τ') : RD τ' nT f D := by
  obtain ⟨h1, h2⟩ := h
  exact ⟨fun t ht => by rw [b.at (g := 7) (by simp)]; exact h1 t ht, fun t ht hn => by rw [b.at (g := 7) (by simp)]; exact h2 t ht hn⟩
theorem RW.co (h : RW σ τ nW) (a : agr [18, 19, 20, 21, 22, 23, 24] σ σ') (b : agr [17, 18, 19, 20, 21, 22, 23] τ τ') : RW σ' τ' nW := fun t ht => by
  rw [a.at (g := 18) (by simp), a.at (g := 19) (by simp), a.at (g := 20) (by simp), a.at (g := 21) (by simp), a.at (g := 22) (by simp), a.at (g := 23) (by simp), a.at (g := 24) (by simp), b.at (g := 17) (by simp), b.at (g := 18) (by simp), b.at (g := 19) (by simp), b.at (g := 20) (by simp), b.at (g := 21) (by simp), b.at (g := 22) (by simp), b.at (g := 23) (by simp)]
  exact h t ht
theorem RB.co (h : RB σ nW) (a : agr [18, 19, 21] σ σ') : RB σ' nW := fun w hw => by
  rw [a.at (g := 18) (by simp), a.at (g := 19) (by simp), a.at (g := 21) (by simp)]
  exact h w hw
theorem RA.co (h : RA σ τ) (a : agr [1] σ σ') (b : agr [24] τ τ') : RA σ' τ' := by
  obtain ⟨h1, h2⟩ := h
  exact ⟨by rw [b.at (by simp), a.at (by simp)]; exact h1, fun x hx => by rw [b.at (by simp), a.at (by simp)]; exact h2 x hx⟩
theorem RR.co (h : RR σ τ) (a : agr [5, 6] σ σ') (b : agr [14, 15] τ τ') : RR σ' τ' := fun r hr => by
  rw [a.at (g := 5) (by simp), a.at (g := 6) (by simp), b.at (g := 14) (by simp), b.at (g := 15) (by simp)]
  exact h r hr
theorem mIn.co {rr : Int32} (b : agr [10] τ τ') : mIn τ' rr = mIn τ rr := funext fun t => by
  unfold mIn
  rw [b.at (by simp)]
theorem mAhead.co {u t : Nat} (b : agr [4, 11] τ τ') : mAhead τ' u t = mAhead τ u t := by
  unfold mAhead
  rw [b.at (g := 4) (i := u) (by simp), b.at (g := 4) (i := t) (by simp), b.at (g := 11) (i := u) (by simp), b.at (g := 11) (i := t) (by simp)]
theorem RV.co (h : RV σ τ nT) (a : agr [7] σ σ') (b : agr [10] τ τ') : RV σ' τ' nT := fun r hr => by
  rw [a.at (g := 7) (by simp), mIn.co b]
  exact h r hr
theorem RO.co (h : RO σ τ nT f) (a : agr [16, 17] σ σ') (b : agr [10] τ τ') : RO σ' τ' nT f := fun t ht => by
  unfold plc
  rw [a.at (g := 16) (by simp), a.at (g := 17) (by simp), b.at (g := 10) (by simp)]
  exact h t ht
theorem RQ.co (h : RQ qs τ nT) (b : agr [4, 10, 11] τ τ') : RQ qs τ' nT := fun r hr => by
  obtain ⟨h1, h2, h3⟩ := h r hr
  exact ⟨h1, fun t => by rw [b.at (g := 10) (by simp)]; exact h2 t, h3.imp (fun {x y} q => by rw [mAhead.co (b.sub (by simp))]; exact q)⟩
theorem RC.co (h : RC τ nT N) (b : agr [10, 11, 12] τ τ') : RC τ' nT N := by
  obtain ⟨K, h1, h2, h3⟩ := h
  refine ⟨K, h1, by rw [b.at (by simp)]; exact h2, fun t r ht hr => ?_⟩
  rw [b.at (g := 10) (by simp), b.at (g := 11) (by simp)]
  exact h3 t r ht hr
theorem RF.co (h : RF σ qs τ nT) (a : agr [5] σ σ') (b : agr [10] τ τ') : RF σ' qs τ' nT := fun r c => by
  rw [a.at (g := 5) (by simp), mIn.co b]
  exact h r c
theorem RS.co (h : RS σ nT) (a : agr [10, 11, 15] σ σ') : RS σ' nT := fun t => by
  rw [a.at (g := 10) (by simp), a.at (g := 11) (by simp), a.at (g := 15) (by simp)]
  exact h t
theorem RX.co (h : RX σ nT f) (a : agr [9, 10, 12, 14, 25] σ σ') : RX σ' nT f := by
  obtain ⟨h1, h2⟩ := h
  refine ⟨fun t a1 a2 => ?_, fun t u a1 a2 a3 a4 => ?_⟩
  · rw [a.at (g := 10) (by simp), a.at (g := 12) (by simp), a.at (g := 25) (by simp)]
    intro a3
    obtain ⟨k, b1, b2, b3⟩ := h1 t a1 a2 a3
    exact ⟨k, b1, b2, by rw [a.at (g := 9) (by simp)]; exact b3⟩
  · rw [a.at (g := 10) (i := t) (by simp), a.at (g := 10) (i := u) (by simp), a.at (g := 12) (i := t) (by simp), a.at (g := 12) (i := u) (by simp), a.at (g := 14) (i := t) (by simp), a.at (g := 14) (i := u) (by simp)]
    exact h2 t u a1 a2 a3 a4
theorem itr_co {S : Type} {F F' : Nat → S → S} : ∀ (n a : Nat) (x : S), (∀ i, a ≤ i → i < a + n → ∀ y, F' i y = F i y) → itr F' a n x = itr F a n x
  | 0, _, _, _ => rfl
  | n + 1, a, x, h => by
    show itr F' (a + 1) n (F' a x) = itr F (a + 1) n (F a x)
    rw [h a (Nat.le_refl _) (by omega)]
    exact itr_co n (a + 1) _ (fun i h1 h2 => h i (by omega) (by omega))
theorem fBrT.co {hh : Int32} (e : ∀ i, i < f → σ' 14 i = σ 14 i ∧ σ' 13 i = σ 13 i ∧ σ' 15 i = σ 15 i) : fBrT σ' hh f = fBrT σ hh f := by
  unfold fBrT
  refine itr_co _ _ _ (fun i _ hi y => ?_)
  obtain ⟨e1, e2, e3⟩ := e i (by omega)
  unfold fBr1
  rw [e1, e2, e3]
theorem fDw.co (a : agr [8, 9, 25] σ σ') : fDw σ' = fDw σ := by
  unfold fDw
  refine itr_co _ _ _ (fun i _ hi y => ?_)
  unfold fDw1
  rw [a.at (g := 8) (by simp), a.at (g := 9) (by simp), a.at (g := 25) (by simp)]
theorem fBmL.co {hh : Int32} (e : ∀ i, i < f → σ' 10 i = σ 10 i ∧ σ' 14 i = σ 14 i ∧ σ' 15 i = σ 15 i) (ed : fDw σ' = fDw σ) : fBmL σ' hh f = fBmL σ hh f := by
  unfold fBmL
  rw [ed]
  refine itr_co _ _ _ (fun i _ hi y => ?_)
  obtain ⟨e1, e2, e3⟩ := e i (by omega)
  unfold fBm1
  rw [e1, e2, e3]
theorem fBrM.co {hh : Int32} (e : ∀ i, i < f → σ' 10 i = σ 10 i ∧ σ' 14 i = σ 14 i ∧ σ' 15 i = σ 15 i) (ed : fDw σ' = fDw σ) : fBrM σ' hh f = fBrM σ hh f := by
  unfold fBrM
  rw [fBmL.co e ed]
/-- money: fields of old tickets alone count -/
theorem RY.co2 (h : RY σ f) (a : agr [1, 2, 3, 4] σ σ') (e : ∀ i, i < f → σ' 10 i = σ 10 i ∧ σ' 13 i = σ 13 i ∧ σ' 14 i = σ 14 i ∧ σ' 15 i = σ 15 i) (ed : fDw σ' = fDw σ) : RY σ' f := fun j hj => by
  rw [a.at (g := 1) (by simp), a.at (g := 2) (by simp), a.at (g := 3) (by simp), a.at (g := 4) (by simp), fBrT.co (fun i hi => ⟨(e i hi).2.2.1, (e i hi).2.1, (e i hi).2.2.2⟩), fBrM.co (fun i hi => ⟨(e i hi).1, (e i hi).2.2.1, (e i hi).2.2.2⟩) ed]
  exact h j hj
theorem RY.co (h : RY σ f) (a : agr [1, 2, 3, 4, 8, 9, 10, 13, 14, 15, 25] σ σ') : RY σ' f :=
  h.co2 (a.sub (by simp)) (fun i _ => ⟨a.at (by simp), a.at (by simp), a.at (by simp), a.at (by simp)⟩) (fDw.co (a.sub (by simp)))
/-- a booking: what is kept and one of the three -/
theorem RY.book (h : RY σ f) {g j0 : Nat} {x : Int32} (hg : g = 2 ∨ g = 3 ∨ g = 4) : RY (fBook σ g j0 x) f := fun j hj => by
  have hne : ∀ g', (g' ≠ 1 ∧ g' ≠ 2 ∧ g' ≠ 3 ∧ g' ≠ 4) → ∀ i, fBook σ g j0 x g' i = σ g' i := fun g' q i => by
    have : g' ≠ g := by omega
    simp [fBook, up, q.1, this]
  rw [fBrT.co (fun i _ => ⟨hne 14 (by decide) i, hne 13 (by decide) i, hne 15 (by decide) i⟩), fBrM.co (fun i _ => ⟨hne 10 (by decide) i, hne 14 (by decide) i, hne 15 (by decide) i⟩) (fDw.co (fun g' hg' i => hne g' (by simp at hg'; omega) i))]
  have h1 := h j hj
  have ac : ∀ a b x : Int32, a + b + x = a + x + b := fun a b x => by rw [Int32.add_assoc, Int32.add_comm b x, ← Int32.add_assoc]
  by_cases c : j = j0
  · subst c
    rcases hg with rfl | rfl | rfl
    · simp only [fBook, up, h1]
      simp
      simp only [ac _ _ x]
    · simp only [fBook, up, h1]
      simp
      simp only [← Int32.add_assoc, ac _ _ x]
    · simp only [fBook, up, h1]
      simp
      simp only [← Int32.add_assoc, ac _ _ x]
  · have e : ∀ g', fBook σ g j0 x g' j = σ g' j := fun g' => by simp [fBook, up, c]
    rw [e, e, e, e]
    exact h1
end RCONG
