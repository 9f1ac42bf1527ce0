/-! THE CLASS AS A PICTURE: s f i is what the field f holds at the object i; fields: tills 0 ticketPrice 1 kept 2 fees 3 sales 4 gifts; rooms 5 cap 6 isClosed 7 visitors; members 8 memberships 9 lastDay; tickets 10 sort 11 house 12 member 13 cost 14 isVoid 15 seenRooms 16 room 17 isWaiting; works 18 house 19 room 20 isLent 21 fee 22 loanFees 23 share 24 timesSeen; the class 25 today 26 firstOfToday 27 paidIn. Queues: qs r; tickets 0 .. nT - 1, works 0 .. nW - 1.
Kinds of cells: 0 the object; 1 2 3 its arrays of tills, rooms, members; 4 Till 5 Room 6 Member 7 list (0 .. 11 queues, 12 tickets, 13 works) 8 a list's array 9 Work 10 Ticket -/
def lsX (ad : Nat → Nat → Nat) (qs : Nat → List Nat) (nT nW i : Nat) : List Nat := if i < 12 then (qs i).map (ad 10) else if i = 12 then (List.range nT).map (ad 10) else (List.range nW).map (ad 9)
/-- the kind of a field -/
def fk (f : Nat) : Nat := if f < 5 then 4 else if f < 8 then 5 else if f < 10 then 6 else if f < 18 then 10 else if f < 25 then 9 else 0
def ceO (G : GE) (ad : Nat → Nat → Nat) (σ : SG) : Nat → Nat → va_E := fun k i => match k with
  | 0 => .inr (7, [.ref (ad 1 0), .ref (ad 2 0), .ref (ad 3 0), .ref (ad 7 12), .ref (ad 7 13), .int (σ 25 i), .int (σ 26 i), .int (σ 27 i)])
  | 1 => rArr (G.2.1 4) 5 (rfs 5 (ad 4))
  | 2 => rArr (G.2.1 3) 12 (rfs 12 (ad 5))
  | 3 => rArr (G.2.1 2) 6 (rfs 6 (ad 6))
  | 4 => .inr (5, [.int (σ 0 i), .int (σ 1 i), .int (σ 2 i), .int (σ 3 i), .int (σ 4 i)])
  | 5 => .inr (3, [.int (nI i), .int (nI (i / 3)), .int (σ 5 i), .int (σ 6 i), .int (σ 7 i), .ref (ad 7 i)])
  | 6 => .inr (2, [.int (σ 8 i), .int (σ 9 i)])
  | 9 => .inr (6, [.int (nI i), .int (σ 18 i), .int (σ 19 i), .int (σ 20 i), .int (σ 21 i), .int (σ 22 i), .int (σ 23 i), .int (σ 24 i)])
  | 10 => .inr (4, [.int (nI i), .int (σ 10 i), .int (σ 11 i), .int (σ 12 i), .int (σ 13 i), .int (σ 14 i), .int (σ 15 i), .int (σ 16 i), .int (σ 17 i)])
  | _ => .inr (0, [])
def ceX (G : GE) (ad : Nat → Nat → Nat) (ba bc : Nat → Nat) (bm : Nat → Int32) (σ : SG) (qs : Nat → List Nat) (nT nW : Nat) : Nat → Nat → va_E := fun k i =>
  if k = 7 then .inr (1, [.int (bm i), .ref (if bc i = 0 then G.2.2.1 else ba i), .int (nI (lsX ad qs nT nW i).length)]) else if k = 8 then rArr (G.2.1 5) (bc i) (fun j => (lsX ad qs nT nW i)[j]?) else ceO G ad σ k i
def dmO (nT nW : Nat) (k i : Nat) : Prop := (k < 4 ∧ i = 0) ∨ (k = 4 ∧ i < 5) ∨ (k = 5 ∧ i < 12) ∨ (k = 6 ∧ i < 6) ∨ (k = 9 ∧ i < nW) ∨ (k = 10 ∧ i < nT)
def dmX (nT nW : Nat) (bc : Nat → Nat) (k i : Nat) : Prop := if k = 7 then i < 14 else if k = 8 then i < 14 ∧ bc i ≠ 0 else dmO nT nW k i
def adB (ad : Nat → Nat → Nat) (ba : Nat → Nat) : Nat → Nat → Nat := fun k i => if k = 8 then ba i else ad k i
def LST (ad : Nat → Nat → Nat) (bc : Nat → Nat) (qs : Nat → List Nat) (nT nW : Nat) : Prop := nT ≤ 80 ∧ nW ≤ 12 ∧ (∀ i, i < 14 → (lsX ad qs nT nW i).length ≤ bc i ∧ bc i ≤ 200) ∧ ∀ r, r < 12 → ∀ t ∈ qs r, t < nT
def PX (G : GE) (A : Nat → Prop) (ad : Nat → Nat → Nat) (σ : SG) (qs : Nat → List Nat) (nT nW : Nat) (H : Heap) : Prop :=
  ∃ (ba bc : Nat → Nat) (bm : Nat → Int32), FAM G.1 mcl (adB ad ba) (dmX nT nW bc) (ceX G ad ba bc bm σ qs nT nW) A H ∧ LST ad bc qs nT nW
section PXS
variable {G : GE} {A : Nat → Prop} {ad : Nat → Nat → Nat} {σ : SG} {qs : Nat → List Nat} {nT nW : Nat} {H H1 : Heap} {k i : Nat}
theorem dmO_ne (h : dmO nT nW k i) : k ≠ 7 ∧ k ≠ 8 := by unfold dmO at h; omega
theorem PX.obj (h : PX G A ad σ qs nT nW H) (hd : dmO nT nW k i) : va_at G.1 mcl (ad k i, ceO G ad σ k i) H ∧ A (ad k i) := by
  obtain ⟨ba, bc, bm, h, -⟩ := h
  obtain ⟨n7, n8⟩ := dmO_ne hd
  have hd' : dmX nT nW bc k i := by unfold dmX; rw [if_neg n7, if_neg n8]; exact hd
  have h1 := h.1 k i hd'
  have h2 := h.2.2 k i hd'
  simp only [adB, if_neg n8, ceX, if_neg n7] at h1 h2
  exact ⟨h1, h2⟩
theorem PX.old (h : PX G A ad σ qs nT nW H) (k : KF (fun q => H.size ≤ q) H H1) : PX G A ad σ qs nT nW H1 := by
  obtain ⟨ba, bc, bm, h, h2⟩ := h
  exact ⟨ba, bc, bm, h.old k, h2⟩
theorem PX.kept {A1 : Nat → Prop} (h : PX G A ad σ qs nT nW H) (k : KF A1 H H1) (hA : ∀ q, A q → q < H.size → ¬ A1 q) : PX G A ad σ qs nT nW H1 := by
  obtain ⟨ba, bc, bm, h, h2⟩ := h
  exact ⟨ba, bc, bm, h.kept k (fun k i hd => hA _ (h.2.2 k i hd) (h.1 k i hd).lt), h2⟩
theorem PX.mono {B : Nat → Prop} (h : PX G A ad σ qs nT nW H) (hB : ∀ q, A q → q < H.size → B q) : PX G B ad σ qs nT nW H := by
  obtain ⟨ba, bc, bm, h, h2⟩ := h
  exact ⟨ba, bc, bm, ⟨h.1, h.2.1, fun k i hd => hB _ (h.2.2 k i hd) (h.1 k i hd).lt⟩, h2⟩
theorem ceO_up {f : Nat} {v : Int32} {k' i' : Nat} (hf : fk f = k) (h : ¬ (k' = k ∧ i' = i)) : ceO G ad (up σ f i v) k' i' = ceO G ad σ k' i' := by
  have u : ∀ g, fk g = k' → up σ f i v g i' = σ g i' := fun g hg => if_neg fun ⟨e1, e2⟩ => h ⟨by rw [← hg, e1, hf], e2⟩
  match k', u with
  | 0, u => simp only [ceO]; rw [u 25 rfl, u 26 rfl, u 27 rfl]
  | 1, u => rfl
  | 2, u => rfl
  | 3, u => rfl
  | 4, u => simp only [ceO]; rw [u 0 rfl, u 1 rfl, u 2 rfl, u 3 rfl, u 4 rfl]
  | 5, u => simp only [ceO]; rw [u 5 rfl, u 6 rfl, u 7 rfl]
  | 6, u => simp only [ceO]; rw [u 8 rfl, u 9 rfl]
  | 7, u => rfl
  | 8, u => rfl
  | 9, u => simp only [ceO]; rw [u 18 rfl, u 19 rfl, u 20 rfl, u 21 rfl, u 22 rfl, u 23 rfl, u 24 rfl]
  | 10, u => simp only [ceO]; rw [u 10 rfl, u 11 rfl, u 12 rfl, u 13 rfl, u 14 rfl, u 15 rfl, u 16 rfl, u 17 rfl]
  | k' + 11, u => rfl
theorem PX.put {f : Nat} {v : Int32} (h : PX G A ad σ qs nT nW H) (hd : dmO nT nW k i) (hf : fk f = k) (he : va_at G.1 mcl (ad k i, ceO G ad (up σ f i v) k i) H1) (oq : ∀ q, q ≠ ad k i → H1[q]? = H[q]?) : PX G A ad (up σ f i v) qs nT nW H1 := by
  obtain ⟨ba, bc, bm, h, h2⟩ := h
  obtain ⟨n7, n8⟩ := dmO_ne hd
  have hd' : dmX nT nW bc k i := by unfold dmX; rw [if_neg n7, if_neg n8]; exact hd
  refine ⟨ba, bc, bm, h.put hd' ?_ ?_ ?_, h2⟩
  · simp only [adB, if_neg n8, ceX, if_neg n7]
    exact he
  · simp only [adB, if_neg n8]
    exact oq
  · intro k' i' hne _
    unfold ceX
    by_cases e7 : k' = 7
    · rw [if_pos e7, if_pos e7]
    · rw [if_neg e7, if_neg e7]
      by_cases e8 : k' = 8
      · rw [if_pos e8, if_pos e8]
      · rw [if_neg e8, if_neg e8]
        exact ceO_up hf hne
theorem PX.till (h : PX G A ad σ qs nT nW H) (hi : i < 5) : va_at G.1 mcl (ad 4 i, .inr (5, [.int (σ 0 i), .int (σ 1 i), .int (σ 2 i), .int (σ 3 i), .int (σ 4 i)])) H := (h.obj (Or.inr (Or.inl ⟨rfl, hi⟩))).1
theorem PX.otill (h : PX G A ad σ qs nT nW H) (hi : i < 5) : A (ad 4 i) := (h.obj (Or.inr (Or.inl ⟨rfl, hi⟩))).2
theorem PX.p0 {v : Int32} (h : PX G A ad σ qs nT nW H) (hi : i < 5) (he : va_at G.1 mcl (ad 4 i, .inr (5, [.int v, .int (σ 1 i), .int (σ 2 i), .int (σ 3 i), .int (σ 4 i)])) H1) (oq : ∀ q, q ≠ ad 4 i → H1[q]? = H[q]?) : PX G A ad (up σ 0 i v) qs nT nW H1 := h.put (k := 4) (Or.inr (Or.inl ⟨rfl, hi⟩)) rfl (by rw [show ceO G ad (up σ 0 i v) 4 i = .inr (5, [.int v, .int (σ 1 i), .int (σ 2 i), .int (σ 3 i), .int (σ 4 i)]) from by simp [ceO, up]]; exact he) oq
theorem PX.p1 {v : Int32} (h : PX G A ad σ qs nT nW H) (hi : i < 5) (he : va_at G.1 mcl (ad 4 i, .inr (5, [.int (σ 0 i), .int v, .int (σ 2 i), .int (σ 3 i), .int (σ 4 i)])) H1) (oq : ∀ q, q ≠ ad 4 i → H1[q]? = H[q]?) : PX G A ad (up σ 1 i v) qs nT nW H1 := h.put (k := 4) (Or.inr (Or.inl ⟨rfl, hi⟩)) rfl (by rw [show ceO G ad (up σ 1 i v) 4 i = .inr (5, [.int (σ 0 i), .int v, .int (σ 2 i), .int (σ 3 i), .int (σ 4 i)]) from by simp [ceO, up]]; exact he) oq
theorem PX.p2 {v : Int32} (h : PX G A ad σ qs nT nW H) (hi : i < 5) (he : va_at G.1 mcl (ad 4 i, .inr (5, [.int (σ 0 i), .int (σ 1 i), .int v, .int (σ 3 i), .int (σ 4 i)])) H1) (oq : ∀ q, q ≠ ad 4 i → H1[q]? = H[q]?) : PX G A ad (up σ 2 i v) qs nT nW H1 := h.put (k := 4) (Or.inr (Or.inl ⟨rfl, hi⟩)) rfl (by rw [show ceO G ad (up σ 2 i v) 4 i = .inr (5, [.int (σ 0 i), .int (σ 1 i), .int v, .int (σ 3 i), .int (σ 4 i)]) from by simp [ceO, up]]; exact he) oq
theorem PX.p3 {v : Int32} (h : PX G A ad σ qs nT nW H) (hi : i < 5) (he : va_at G.1 mcl (ad 4 i, .inr (5, [.int (σ 0 i), .int (σ 1 i), .int (σ 2 i), .int v, .int (σ 4 i)])) H1) (oq : ∀ q, q ≠ ad 4 i → H1[q]? = H[q]?) : PX G A ad (up σ 3 i v) qs nT nW H1 := h.put (k := 4) (Or.inr (Or.inl ⟨rfl, hi⟩)) rfl (by rw [show ceO G ad (up σ 3 i v) 4 i = .inr (5, [.int (σ 0 i), .int (σ 1 i), .int (σ 2 i), .int v, .int (σ 4 i)]) from by simp [ceO, up]]; exact he) oq
theorem PX.p4 {v : Int32} (h : PX G A ad σ qs nT nW H) (hi : i < 5) (he : va_at G.1 mcl (ad 4 i, .inr (5, [.int (σ 0 i), .int (σ 1 i), .int (σ 2 i), .int (σ 3 i), .int v])) H1) (oq : ∀ q, q ≠ ad 4 i → H1[q]? = H[q]?) : PX G A ad (up σ 4 i v) qs nT nW H1 := h.put (k := 4) (Or.inr (Or.inl ⟨rfl, hi⟩)) rfl (by rw [show ceO G ad (up σ 4 i v) 4 i = .inr (5, [.int (σ 0 i), .int (σ 1 i), .int (σ 2 i), .int (σ 3 i), .int v]) from by simp [ceO, up]]; exact he) oq
theorem PX.room (h : PX G A ad σ qs nT nW H) (hi : i < 12) : va_at G.1 mcl (ad 5 i, .inr (3, [.int (nI i), .int (nI (i / 3)), .int (σ 5 i), .int (σ 6 i), .int (σ 7 i), .ref (ad 7 i)])) H := (h.obj (Or.inr (Or.inr (Or.inl ⟨rfl, hi⟩)))).1
theorem PX.oroom (h : PX G A ad σ qs nT nW H) (hi : i < 12) : A (ad 5 i) := (h.obj (Or.inr (Or.inr (Or.inl ⟨rfl, hi⟩)))).2
theorem PX.p5 {v : Int32} (h : PX G A ad σ qs nT nW H) (hi : i < 12) (he : va_at G.1 mcl (ad 5 i, .inr (3, [.int (nI i), .int (nI (i / 3)), .int v, .int (σ 6 i), .int (σ 7 i), .ref (ad 7 i)])) H1) (oq : ∀ q, q ≠ ad 5 i → H1[q]? = H[q]?) : PX G A ad (up σ 5 i v) qs nT nW H1 := h.put (k := 5) (Or.inr (Or.inr (Or.inl ⟨rfl, hi⟩))) rfl (by rw [show ceO G ad (up σ 5 i v) 5 i = .inr (3, [.int (nI i), .int (nI (i / 3)), .int v, .int (σ 6 i), .int (σ 7 i), .ref (ad 7 i)]) from by simp [ceO, up]]; exact he) oq
theorem PX.p6 {v : Int32} (h : PX G A ad σ qs nT nW H) (hi : i < 12) (he : va_at G.1 mcl (ad 5 i, .inr (3, [.int (nI i), .int (nI (i / 3)), .int (σ 5 i), .int v, .int (σ 7 i), .ref (ad 7 i)])) H1) (oq : ∀ q, q ≠ ad 5 i → H1[q]? = H[q]?) : PX G A ad (up σ 6 i v) qs nT nW H1 := h.put (k := 5) (Or.inr (Or.inr (Or.inl ⟨rfl, hi⟩))) rfl (by rw [show ceO G ad (up σ 6 i v) 5 i = .inr (3, [.int (nI i), .int (nI (i / 3)), .int (σ 5 i), .int v, .int (σ 7 i), .ref (ad 7 i)]) from by simp [ceO, up]]; exact he) oq
theorem PX.p7 {v : Int32} (h : PX G A ad σ qs nT nW H) (hi : i < 12) (he : va_at G.1 mcl (ad 5 i, .inr (3, [.int (nI i), .int (nI (i / 3)), .int (σ 5 i), .int (σ 6 i), .int v, .ref (ad 7 i)])) H1) (oq : ∀ q, q ≠ ad 5 i → H1[q]? = H[q]?) : PX G A ad (up σ 7 i v) qs nT nW H1 := h.put (k := 5) (Or.inr (Or.inr (Or.inl ⟨rfl, hi⟩))) rfl (by rw [show ceO G ad (up σ 7 i v) 5 i = .inr (3, [.int (nI i), .int (nI (i / 3)), .int (σ 5 i), .int (σ 6 i), .int v, .ref (ad 7 i)]) from by simp [ceO, up]]; exact he) oq
theorem PX.member (h : PX G A ad σ qs nT nW H) (hi : i < 6) : va_at G.1 mcl (ad 6 i, .inr (2, [.int (σ 8 i), .int (σ 9 i)])) H := (h.obj (Or.inr (Or.inr (Or.inr (Or.inl ⟨rfl, hi⟩))))).1
theorem PX.omember (h : PX G A ad σ qs nT nW H) (hi : i < 6) : A (ad 6 i) := (h.obj (Or.inr (Or.inr (Or.inr (Or.inl ⟨rfl, hi⟩))))).2
theorem PX.p8 {v : Int32} (h : PX G A ad σ qs nT nW H) (hi : i < 6) (he : va_at G.1 mcl (ad 6 i, .inr (2, [.int v, .int (σ 9 i)])) H1) (oq : ∀ q, q ≠ ad 6 i → H1[q]? = H[q]?) : PX G A ad (up σ 8 i v) qs nT nW H1 := h.put (k := 6) (Or.inr (Or.inr (Or.inr (Or.inl ⟨rfl, hi⟩)))) rfl (by rw [show ceO G ad (up σ 8 i v) 6 i = .inr (2, [.int v, .int (σ 9 i)]) from by simp [ceO, up]]; exact he) oq
theorem PX.p9 {v : Int32} (h : PX G A ad σ qs nT nW H) (hi : i < 6) (he : va_at G.1 mcl (ad 6 i, .inr (2, [.int (σ 8 i), .int v])) H1) (oq : ∀ q, q ≠ ad 6 i → H1[q]? = H[q]?) : PX G A ad (up σ 9 i v) qs nT nW H1 := h.put (k := 6) (Or.inr (Or.inr (Or.inr (Or.inl ⟨rfl, hi⟩)))) rfl (by rw [show ceO G ad (up σ 9 i v) 6 i = .inr (2, [.int (σ 8 i), .int v]) from by simp [ceO, up]]; exact he) oq
theorem PX.work (h : PX G A ad σ qs nT nW H) (hi : i < nW) : va_at G.1 mcl (ad 9 i, .inr (6, [.int (nI i), .int (σ 18 i), .int (σ 19 i), .int (σ 20 i), .int (σ 21 i), .int (σ 22 i), .int (σ 23 i), .int (σ 24 i)])) H := (h.obj (Or.inr (Or.inr (Or.inr (Or.inr (Or.inl ⟨rfl, hi⟩)))))).1
theorem PX.owork (h : PX G A ad σ qs nT nW H) (hi : i < nW) : A (ad 9 i) := (h.obj (Or.inr (Or.inr (Or.inr (Or.inr (Or.inl ⟨rfl, hi⟩)))))).2
theorem PX.p18 {v : Int32} (h : PX G A ad σ qs nT nW H) (hi : i < nW) (he : va_at G.1 mcl (ad 9 i, .inr (6, [.int (nI i), .int v, .int (σ 19 i), .int (σ 20 i), .int (σ 21 i), .int (σ 22 i), .int (σ 23 i), .int (σ 24 i)])) H1) (oq : ∀ q, q ≠ ad 9 i → H1[q]? = H[q]?) : PX G A ad (up σ 18 i v) qs nT nW H1 := h.put (k := 9) (Or.inr (Or.inr (Or.inr (Or.inr (Or.inl ⟨rfl, hi⟩))))) rfl (by rw [show ceO G ad (up σ 18 i v) 9 i = .inr (6, [.int (nI i), .int v, .int (σ 19 i), .int (σ 20 i), .int (σ 21 i), .int (σ 22 i), .int (σ 23 i), .int (σ 24 i)]) from by simp [ceO, up]]; exact he) oq
theorem PX.p19 {v : Int32} (h : PX G A ad σ qs nT nW H) (hi : i < nW) (he : va_at G.1 mcl (ad 9 i, .inr (6, [.int (nI i), .int (σ 18 i), .int v, .int (σ 20 i), .int (σ 21 i), .int (σ 22 i), .int (σ 23 i), .int (σ 24 i)])) H1) (oq : ∀ q, q ≠ ad 9 i → H1[q]? = H[q]?) : PX G A ad (up σ 19 i v) qs nT nW H1 := h.put (k := 9) (Or.inr (Or.inr (Or.inr (Or.inr (Or.inl ⟨rfl, hi⟩))))) rfl (by rw [show ceO G ad (up σ 19 i v) 9 i = .inr (6, [.int (nI i), .int (σ 18 i), .int v, .int (σ 20 i), .int (σ 21 i), .int (σ 22 i), .int (σ 23 i), .int (σ 24 i)]) from by simp [ceO, up]]; exact he) oq
theorem PX.p20 {v : Int32} (h : PX G A ad σ qs nT nW H) (hi : i < nW) (he : va_at G.1 mcl (ad 9 i, .inr (6, [.int (nI i), .int (σ 18 i), .int (σ 19 i), .int v, .int (σ 21 i), .int (σ 22 i), .int (σ 23 i), .int (σ 24 i)])) H1) (oq : ∀ q, q ≠ ad 9 i → H1[q]? = H[q]?) : PX G A ad (up σ 20 i v) qs nT nW H1 := h.put (k := 9) (Or.inr (Or.inr (Or.inr (Or.inr (Or.inl ⟨rfl, hi⟩))))) rfl (by rw [show ceO G ad (up σ 20 i v) 9 i = .inr (6, [.int (nI i), .int (σ 18 i), .int (σ 19 i), .int v, .int (σ 21 i), .int (σ 22 i), .int (σ 23 i), .int (σ 24 i)]) from by simp [ceO, up]]; exact he) oq
theorem PX.p21 {v : Int32} (h : PX G A ad σ qs nT nW H) (hi : i < nW) (he : va_at G.1 mcl (ad 9 i, .inr (6, [.int (nI i), .int (σ 18 i), .int (σ 19 i), .int (σ 20 i), .int v, .int (σ 22 i), .int (σ 23 i), .int (σ 24 i)])) H1) (oq : ∀ q, q ≠ ad 9 i → H1[q]? = H[q]?) : PX G A ad (up σ 21 i v) qs nT nW H1 := h.put (k := 9) (Or.inr (Or.inr (Or.inr (Or.inr (Or.inl ⟨rfl, hi⟩))))) rfl (by rw [show ceO G ad (up σ 21 i v) 9 i = .inr (6, [.int (nI i), .int (σ 18 i), .int (σ 19 i), .int (σ 20 i), .int v, .int (σ 22 i), .int (σ 23 i), .int (σ 24 i)]) from by simp [ceO, up]]; exact he) oq
theorem PX.p22 {v : Int32} (h : PX G A ad σ qs nT nW H) (hi : i < nW) (he : va_at G.1 mcl (ad 9 i, .inr (6, [.int (nI i), .int (σ 18 i), .int (σ 19 i), .int (σ 20 i), .int (σ 21 i), .int v, .int (σ 23 i), .int (σ 24 i)])) H1) (oq : ∀ q, q ≠ ad 9 i → H1[q]? = H[q]?) : PX G A ad (up σ 22 i v) qs nT nW H1 := h.put (k := 9) (Or.inr (Or.inr (Or.inr (Or.inr (Or.inl ⟨rfl, hi⟩))))) rfl (by rw [show ceO G ad (up σ 22 i v) 9 i = .inr (6, [.int (nI i), .int (σ 18 i), .int (σ 19 i), .int (σ 20 i), .int (σ 21 i), .int v, .int (σ 23 i), .int (σ 24 i)]) from by simp [ceO, up]]; exact he) oq
theorem PX.p23 {v : Int32} (h : PX G A ad σ qs nT nW H) (hi : i < nW) (he : va_at G.1 mcl (ad 9 i, .inr (6, [.int (nI i), .int (σ 18 i), .int (σ 19 i), .int (σ 20 i), .int (σ 21 i), .int (σ 22 i), .int v, .int (σ 24 i)])) H1) (oq : ∀ q, q ≠ ad 9 i → H1[q]? = H[q]?) : PX G A ad (up σ 23 i v) qs nT nW H1 := h.put (k := 9) (Or.inr (Or.inr (Or.inr (Or.inr (Or.inl ⟨rfl, hi⟩))))) rfl (by rw [show ceO G ad (up σ 23 i v) 9 i = .inr (6, [.int (nI i), .int (σ 18 i), .int (σ 19 i), .int (σ 20 i), .int (σ 21 i), .int (σ 22 i), .int v, .int (σ 24 i)]) from by simp [ceO, up]]; exact he) oq
theorem PX.p24 {v : Int32} (h : PX G A ad σ qs nT nW H) (hi : i < nW) (he : va_at G.1 mcl (ad 9 i, .inr (6, [.int (nI i), .int (σ 18 i), .int (σ 19 i), .int (σ 20 i), .int (σ 21 i), .int (σ 22 i), .int (σ 23 i), .int v])) H1) (oq : ∀ q, q ≠ ad 9 i → H1[q]? = H[q]?) : PX G A ad (up σ 24 i v) qs nT nW H1 := h.put (k := 9) (Or.inr (Or.inr (Or.inr (Or.inr (Or.inl ⟨rfl, hi⟩))))) rfl (by rw [show ceO G ad (up σ 24 i v) 9 i = .inr (6, [.int (nI i), .int (σ 18 i), .int (σ 19 i), .int (σ 20 i), .int (σ 21 i), .int (σ 22 i), .int (σ 23 i), .int v]) from by simp [ceO, up]]; exact he) oq
theorem PX.tick (h : PX G A ad σ qs nT nW H) (hi : i < nT) : va_at G.1 mcl (ad 10 i, .inr (4, [.int (nI i), .int (σ 10 i), .int (σ 11 i), .int (σ 12 i), .int (σ 13 i), .int (σ 14 i), .int (σ 15 i), .int (σ 16 i), .int (σ 17 i)])) H := (h.obj (Or.inr (Or.inr (Or.inr (Or.inr (Or.inr ⟨rfl, hi⟩)))))).1
theorem PX.otick (h : PX G A ad σ qs nT nW H) (hi : i < nT) : A (ad 10 i) := (h.obj (Or.inr (Or.inr (Or.inr (Or.inr (Or.inr ⟨rfl, hi⟩)))))).2
theorem PX.p10 {v : Int32} (h : PX G A ad σ qs nT nW H) (hi : i < nT) (he : va_at G.1 mcl (ad 10 i, .inr (4, [.int (nI i), .int v, .int (σ 11 i), .int (σ 12 i), .int (σ 13 i), .int (σ 14 i), .int (σ 15 i), .int (σ 16 i), .int (σ 17 i)])) H1) (oq : ∀ q, q ≠ ad 10 i → H1[q]? = H[q]?) : PX G A ad (up σ 10 i v) qs nT nW H1 := h.put (k := 10) (Or.inr (Or.inr (Or.inr (Or.inr (Or.inr ⟨rfl, hi⟩))))) rfl (by rw [show ceO G ad (up σ 10 i v) 10 i = .inr (4, [.int (nI i), .int v, .int (σ 11 i), .int (σ 12 i), .int (σ 13 i), .int (σ 14 i), .int (σ 15 i), .int (σ 16 i), .int (σ 17 i)]) from by simp [ceO, up]]; exact he) oq
theorem PX.p11 {v : Int32} (h : PX G A ad σ qs nT nW H) (hi : i < nT) (he : va_at G.1 mcl (ad 10 i, .inr (4, [.int (nI i), .int (σ 10 i), .int v, .int (σ 12 i), .int (σ 13 i), .int (σ 14 i), .int (σ 15 i), .int (σ 16 i), .int (σ 17 i)])) H1) (oq : ∀ q, q ≠ ad 10 i → H1[q]? = H[q]?) : PX G A ad (up σ 11 i v) qs nT nW H1 := h.put (k := 10) (Or.inr (Or.inr (Or.inr (Or.inr (Or.inr ⟨rfl, hi⟩))))) rfl (by rw [show ceO G ad (up σ 11 i v) 10 i = .inr (4, [.int (nI i), .int (σ 10 i), .int v, .int (σ 12 i), .int (σ 13 i), .int (σ 14 i), .int (σ 15 i), .int (σ 16 i), .int (σ 17 i)]) from by simp [ceO, up]]; exact he) oq
theorem PX.p12 {v : Int32} (h : PX G A ad σ qs nT nW H) (hi : i < nT) (he : va_at G.1 mcl (ad 10 i, .inr (4, [.int (nI i), .int (σ 10 i), .int (σ 11 i), .int v, .int (σ 13 i), .int (σ 14 i), .int (σ 15 i), .int (σ 16 i), .int (σ 17 i)])) H1) (oq : ∀ q, q ≠ ad 10 i → H1[q]? = H[q]?) : PX G A ad (up σ 12 i v) qs nT nW H1 := h.put (k := 10) (Or.inr (Or.inr (Or.inr (Or.inr (Or.inr ⟨rfl, hi⟩))))) rfl (by rw [show ceO G ad (up σ 12 i v) 10 i = .inr (4, [.int (nI i), .int (σ 10 i), .int (σ 11 i), .int v, .int (σ 13 i), .int (σ 14 i), .int (σ 15 i), .int (σ 16 i), .int (σ 17 i)]) from by simp [ceO, up]]; exact he) oq
theorem PX.p13 {v : Int32} (h : PX G A ad σ qs nT nW H) (hi : i < nT) (he : va_at G.1 mcl (ad 10 i, .inr (4, [.int (nI i), .int (σ 10 i), .int (σ 11 i), .int (σ 12 i), .int v, .int (σ 14 i), .int (σ 15 i), .int (σ 16 i), .int (σ 17 i)])) H1) (oq : ∀ q, q ≠ ad 10 i → H1[q]? = H[q]?) : PX G A ad (up σ 13 i v) qs nT nW H1 := h.put (k := 10) (Or.inr (Or.inr (Or.inr (Or.inr (Or.inr ⟨rfl, hi⟩))))) rfl (by rw [show ceO G ad (up σ 13 i v) 10 i = .inr (4, [.int (nI i), .int (σ 10 i), .int (σ 11 i), .int (σ 12 i), .int v, .int (σ 14 i), .int (σ 15 i), .int (σ 16 i), .int (σ 17 i)]) from by simp [ceO, up]]; exact he) oq
theorem PX.p14 {v : Int32} (h : PX G A ad σ qs nT nW H) (hi : i < nT) (he : va_at G.1 mcl (ad 10 i, .inr (4, [.int (nI i), .int (σ 10 i), .int (σ 11 i), .int (σ 12 i), .int (σ 13 i), .int v, .int (σ 15 i), .int (σ 16 i), .int (σ 17 i)])) H1) (oq : ∀ q, q ≠ ad 10 i → H1[q]? = H[q]?) : PX G A ad (up σ 14 i v) qs nT nW H1 := h.put (k := 10) (Or.inr (Or.inr (Or.inr (Or.inr (Or.inr ⟨rfl, hi⟩))))) rfl (by rw [show ceO G ad (up σ 14 i v) 10 i = .inr (4, [.int (nI i), .int (σ 10 i), .int (σ 11 i), .int (σ 12 i), .int (σ 13 i), .int v, .int (σ 15 i), .int (σ 16 i), .int (σ 17 i)]) from by simp [ceO, up]]; exact he) oq
theorem PX.p15 {v : Int32} (h : PX G A ad σ qs nT nW H) (hi : i < nT) (he : va_at G.1 mcl (ad 10 i, .inr (4, [.int (nI i), .int (σ 10 i), .int (σ 11 i), .int (σ 12 i), .int (σ 13 i), .int (σ 14 i), .int v, .int (σ 16 i), .int (σ 17 i)])) H1) (oq : ∀ q, q ≠ ad 10 i → H1[q]? = H[q]?) : PX G A ad (up σ 15 i v) qs nT nW H1 := h.put (k := 10) (Or.inr (Or.inr (Or.inr (Or.inr (Or.inr ⟨rfl, hi⟩))))) rfl (by rw [show ceO G ad (up σ 15 i v) 10 i = .inr (4, [.int (nI i), .int (σ 10 i), .int (σ 11 i), .int (σ 12 i), .int (σ 13 i), .int (σ 14 i), .int v, .int (σ 16 i), .int (σ 17 i)]) from by simp [ceO, up]]; exact he) oq
theorem PX.p16 {v : Int32} (h : PX G A ad σ qs nT nW H) (hi : i < nT) (he : va_at G.1 mcl (ad 10 i, .inr (4, [.int (nI i), .int (σ 10 i), .int (σ 11 i), .int (σ 12 i), .int (σ 13 i), .int (σ 14 i), .int (σ 15 i), .int v, .int (σ 17 i)])) H1) (oq : ∀ q, q ≠ ad 10 i → H1[q]? = H[q]?) : PX G A ad (up σ 16 i v) qs nT nW H1 := h.put (k := 10) (Or.inr (Or.inr (Or.inr (Or.inr (Or.inr ⟨rfl, hi⟩))))) rfl (by rw [show ceO G ad (up σ 16 i v) 10 i = .inr (4, [.int (nI i), .int (σ 10 i), .int (σ 11 i), .int (σ 12 i), .int (σ 13 i), .int (σ 14 i), .int (σ 15 i), .int v, .int (σ 17 i)]) from by simp [ceO, up]]; exact he) oq
theorem PX.p17 {v : Int32} (h : PX G A ad σ qs nT nW H) (hi : i < nT) (he : va_at G.1 mcl (ad 10 i, .inr (4, [.int (nI i), .int (σ 10 i), .int (σ 11 i), .int (σ 12 i), .int (σ 13 i), .int (σ 14 i), .int (σ 15 i), .int (σ 16 i), .int v])) H1) (oq : ∀ q, q ≠ ad 10 i → H1[q]? = H[q]?) : PX G A ad (up σ 17 i v) qs nT nW H1 := h.put (k := 10) (Or.inr (Or.inr (Or.inr (Or.inr (Or.inr ⟨rfl, hi⟩))))) rfl (by rw [show ceO G ad (up σ 17 i v) 10 i = .inr (4, [.int (nI i), .int (σ 10 i), .int (σ 11 i), .int (σ 12 i), .int (σ 13 i), .int (σ 14 i), .int (σ 15 i), .int (σ 16 i), .int v]) from by simp [ceO, up]]; exact he) oq
theorem PX.main (h : PX G A ad σ qs nT nW H) (hi : i = 0) : va_at G.1 mcl (ad 0 i, .inr (7, [.ref (ad 1 0), .ref (ad 2 0), .ref (ad 3 0), .ref (ad 7 12), .ref (ad 7 13), .int (σ 25 i), .int (σ 26 i), .int (σ 27 i)])) H := (h.obj (Or.inl ⟨by decide, hi⟩)).1
theorem PX.omain (h : PX G A ad σ qs nT nW H) (hi : i = 0) : A (ad 0 i) := (h.obj (Or.inl ⟨by decide, hi⟩)).2
theorem PX.p25 {v : Int32} (h : PX G A ad σ qs nT nW H) (hi : i = 0) (he : va_at G.1 mcl (ad 0 i, .inr (7, [.ref (ad 1 0), .ref (ad 2 0), .ref (ad 3 0), .ref (ad 7 12), .ref (ad 7 13), .int v, .int (σ 26 i), .int (σ 27 i)])) H1) (oq : ∀ q, q ≠ ad 0 i → H1[q]? = H[q]?) : PX G A ad (up σ 25 i v) qs nT nW H1 := h.put (k := 0) (Or.inl ⟨by decide, hi⟩) rfl (by rw [show ceO G ad (up σ 25 i v) 0 i = .inr (7, [.ref (ad 1 0), .ref (ad 2 0), .ref (ad 3 0), .ref (ad 7 12), .ref (ad 7 13), .int v, .int (σ 26 i), .int (σ 27 i)]) from by simp [ceO, up]]; exact he) oq
theorem PX.p26 {v : Int32} (h : PX G A ad σ qs nT nW H) (hi : i = 0) (he : va_at G.1 mcl (ad 0 i, .inr (7, [.ref (ad 1 0), .ref (ad 2 0), .ref (ad 3 0), .ref (ad 7 12), .ref (ad 7 13), .int (σ 25 i), .int v, .int (σ 27 i)])) H1) (oq : ∀ q, q ≠ ad 0 i → H1[q]? = H[q]?) : PX G A ad (up σ 26 i v) qs nT nW H1 := h.put (k := 0) (Or.inl ⟨by decide, hi⟩) rfl (by rw [show ceO G ad (up σ 26 i v) 0 i = .inr (7, [.ref (ad 1 0), .ref (ad 2 0), .ref (ad 3 0), .ref (ad 7 12), .ref (ad 7 13), .int (σ 25 i), .int v, .int (σ 27 i)]) from by simp [ceO, up]]; exact he) oq
theorem PX.p27 {v : Int32} (h : PX G A ad σ qs nT nW H) (hi : i = 0) (he : va_at G.1 mcl (ad 0 i, .inr (7, [.ref (ad 1 0), .ref (ad 2 0), .ref (ad 3 0), .ref (ad 7 12), .ref (ad 7 13), .int (σ 25 i), .int (σ 26 i), .int v])) H1) (oq : ∀ q, q ≠ ad 0 i → H1[q]? = H[q]?) : PX G A ad (up σ 27 i v) qs nT nW H1 := h.put (k := 0) (Or.inl ⟨by decide, hi⟩) rfl (by rw [show ceO G ad (up σ 27 i v) 0 i = .inr (7, [.ref (ad 1 0), .ref (ad 2 0), .ref (ad 3 0), .ref (ad 7 12), .ref (ad 7 13), .int (σ 25 i), .int (σ 26 i), .int v]) from by simp [ceO, up]]; exact he) oq
theorem PX.tills (h : PX G A ad σ qs nT nW H) : va_at G.1 mcl (ad 1 0, rArr (G.2.1 4) 5 (rfs 5 (ad 4))) H := (h.obj (k := 1) (i := 0) (Or.inl ⟨by decide, rfl⟩)).1
theorem PX.rooms (h : PX G A ad σ qs nT nW H) : va_at G.1 mcl (ad 2 0, rArr (G.2.1 3) 12 (rfs 12 (ad 5))) H := (h.obj (k := 2) (i := 0) (Or.inl ⟨by decide, rfl⟩)).1
theorem PX.members (h : PX G A ad σ qs nT nW H) : va_at G.1 mcl (ad 3 0, rArr (G.2.1 2) 6 (rfs 6 (ad 6))) H := (h.obj (k := 3) (i := 0) (Or.inl ⟨by decide, rfl⟩)).1
end PXS
