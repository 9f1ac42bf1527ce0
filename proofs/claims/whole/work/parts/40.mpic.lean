/-! THE PICTURE of the reference: its object (place 30) and its arrays (by their fields' places); tau f i = what field f holds (at i) -/
def szM : Nat → Nat := fun f => match f with
  | 0 => 4
  | 2 => 6
  | 4 => 80
  | 5 => 80
  | 6 => 80
  | 7 => 80
  | 8 => 80
  | 9 => 80
  | 10 => 80
  | 11 => 80
  | 13 => 80
  | 14 => 12
  | 15 => 12
  | 17 => 12
  | 18 => 12
  | 19 => 12
  | 20 => 12
  | 21 => 12
  | 22 => 12
  | 23 => 12
  | 24 => 5
  | 28 => 16
  | _ => 0
def cyM : Nat → Nat := fun f => match f with
  | 9 => 1
  | 15 => 1
  | 19 => 1
  | _ => 0
def ceM (G : GE) (ad : Nat → Nat) (τ : SG) : Nat → Nat → va_E := fun k _ => if k = 30 then .inr (8, [.ref (ad 0), .int (τ 1 0), .ref (ad 2), .int (τ 3 0), .ref (ad 4), .ref (ad 5), .ref (ad 6), .ref (ad 7), .ref (ad 8), .ref (ad 9), .ref (ad 10), .ref (ad 11), .int (τ 12 0), .ref (ad 13), .ref (ad 14), .ref (ad 15), .int (τ 16 0), .ref (ad 17), .ref (ad 18), .ref (ad 19), .ref (ad 20), .ref (ad 21), .ref (ad 22), .ref (ad 23), .ref (ad 24), .int (τ 25 0), .int (τ 26 0), .int (τ 27 0), .ref (ad 28), .int (τ 29 0)]) else .inl (G.2.1 (cyM k), szM k, .inl (τ k))
def dmM (k i : Nat) : Prop := (k = 30 ∨ szM k ≠ 0) ∧ i = 0
def PM (G : GE) (A : Nat → Prop) (ad : Nat → Nat) (τ : SG) (H : Heap) : Prop := FAM G.1 mcl (fun k _ => ad k) dmM (ceM G ad τ) A H
section PMS
variable {G : GE} {A : Nat → Prop} {ad : Nat → Nat} {τ : SG} {H H1 : Heap}
theorem PM.main (h : PM G A ad τ H) : va_at G.1 mcl (ad 30, .inr (8, [.ref (ad 0), .int (τ 1 0), .ref (ad 2), .int (τ 3 0), .ref (ad 4), .ref (ad 5), .ref (ad 6), .ref (ad 7), .ref (ad 8), .ref (ad 9), .ref (ad 10), .ref (ad 11), .int (τ 12 0), .ref (ad 13), .ref (ad 14), .ref (ad 15), .int (τ 16 0), .ref (ad 17), .ref (ad 18), .ref (ad 19), .ref (ad 20), .ref (ad 21), .ref (ad 22), .ref (ad 23), .ref (ad 24), .int (τ 25 0), .int (τ 26 0), .int (τ 27 0), .ref (ad 28), .int (τ 29 0)])) H := h.1 30 0 ⟨Or.inl rfl, rfl⟩
theorem PM.arr (h : PM G A ad τ H) (f : Nat) (hf : f ≠ 30) (hz : szM f ≠ 0) : va_at G.1 mcl (ad f, .inl (G.2.1 (cyM f), szM f, .inl (τ f))) H := by
  have := h.1 f 0 ⟨Or.inr hz, rfl⟩
  simpa [ceM, hf] using this
theorem PM.old (h : PM G A ad τ H) (hk : KF (fun z => H.size ≤ z) H H1) : PM G A ad τ H1 := FAM.keep h hk
theorem PM.omain (h : PM G A ad τ H) : A (ad 30) := h.2.2 30 0 ⟨Or.inl rfl, rfl⟩
theorem PM.oarr (h : PM G A ad τ H) (f : Nat) (hz : szM f ≠ 0) : A (ad f) := h.2.2 f 0 ⟨Or.inr hz, rfl⟩
/-- an array's element has changed -/
theorem PM.parr (h : PM G A ad τ H) (f k : Nat) {x : Int32} (hf : f < 30) (hz : szM f ≠ 0) (he : va_at G.1 mcl (ad f, .inl (G.2.1 (cyM f), szM f, .inl (upd (τ f) k x))) H1) (oq : ∀ q, q ≠ ad f → H1[q]? = H[q]?) : PM G A ad (up τ f k x) H1 := by
  have e : up τ f k x f = upd (τ f) k x := funext fun j => by simp [up, upd]
  refine FAM.put (k := f) (i := 0) h ⟨Or.inr hz, rfl⟩ ?_ oq (fun k' i' hne hd => ?_)
  · have : ceM G ad (up τ f k x) f 0 = .inl (G.2.1 (cyM f), szM f, .inl (upd (τ f) k x)) := by
      unfold ceM
      rw [if_neg (by omega), e]
    rw [this]; exact he
  · have hk' : k' ≠ f := fun z => hne ⟨z, hd.2⟩
    unfold ceM
    split
    · have u : ∀ g, szM g = 0 → up τ f k x g 0 = τ g 0 := fun g hg => by unfold up; exact if_neg (fun z => hz (by rw [← z.1]; exact hg))
      rw [u 1 rfl, u 3 rfl, u 12 rfl, u 16 rfl, u 25 rfl, u 26 rfl, u 27 rfl, u 29 rfl]
    · rw [show up τ f k x k' = τ k' from funext fun j => by unfold up; exact if_neg (fun z => hk' z.1)]
end PMS
