/-! the leaves' contracts over the picture -/
section XLIFT
variable (l : Launch) (G : GE) (A1 A : Nat → Prop) (ad : Nat → Nat → Nat) (σ : SG) (qs : Nat → List Nat) (nT nW : Nat)
theorem kX0_belongs (i : Nat) (hi : i < 6) (day : Int32) : KM l G A1 yX0_belongs cX0_belongs 2 (some .boolean) (rmL 1 0 0) [.ref (ad 6 i), .int day] (PX G A ad σ qs nT nW) (fun v _ => v = some (.int (b2i (fBel (σ 9 i) day)))) (fun _ _ => False) :=
  KM.conseq (α := Unit) (A1 := fun _ => A1) (fun _ _ => cX0_belongsC l G A1 (ad 6 i) (σ 8 i) (σ 9 i) day) (fun H hP hA => ⟨(), fun _ h => h, hA, hP.member hi, fun v H1 _ h => h, fun _ _ _ h => h⟩)
theorem kX0_daysLeft (i : Nat) (hi : i < 6) (day : Int32) : KM l G A1 yX0_daysLeft cX0_daysLeft 2 (some .int) (rmL 2 0 0) [.ref (ad 6 i), .int day] (PX G A ad σ qs nT nW) (fun v _ => v = some (.int (fLeft (σ 9 i) day))) (fun _ _ => False) :=
  KM.conseq (α := Unit) (A1 := fun _ => A1) (fun _ _ => cX0_daysLeftC l G A1 (ad 6 i) (σ 8 i) (σ 9 i) day) (fun H hP hA => ⟨(), fun _ h => h, hA, hP.member hi, fun v H1 _ h => h, fun _ _ _ h => h⟩)
theorem kX0_daysEnded (i : Nat) (hi : i < 6) (day : Int32) : KM l G A1 yX0_daysEnded cX0_daysEnded 2 (some .int) (rmL 3 0 0) [.ref (ad 6 i), .int day] (PX G A ad σ qs nT nW) (fun v _ => v = some (.int (fEnded (σ 8 i) (σ 9 i) day))) (fun _ _ => False) :=
  KM.conseq (α := Unit) (A1 := fun _ => A1) (fun _ _ => cX0_daysEndedC l G A1 (ad 6 i) (σ 8 i) (σ 9 i) day) (fun H hP hA => ⟨(), fun _ h => h, hA, hP.member hi, fun v H1 _ h => h, fun _ _ _ h => h⟩)
theorem kX2_isFor (i : Nat) (hi : i < nT) (hh : Int32) : KM l G A1 yX2_isFor cX2_isFor 2 (some .boolean) (rmL 1 0 0) [.ref (ad 10 i), .int hh] (PX G A ad σ qs nT nW) (fun v _ => v = some (.int (b2i (fFor (σ 11 i) hh)))) (fun _ _ => False) :=
  KM.conseq (α := Unit) (A1 := fun _ => A1) (fun _ _ => cX2_isForC l G A1 (ad 10 i) (nI i) (σ 10 i) (σ 11 i) (σ 12 i) (σ 13 i) (σ 14 i) (σ 15 i) (σ 16 i) (σ 17 i) hh) (fun H hP hA => ⟨(), fun _ h => h, hA, hP.tick hi, fun v H1 _ h => h, fun _ _ _ h => h⟩)
theorem kX2_isOfMember (i : Nat) (hi : i < nT) (mm ss : Int32) : KM l G A1 yX2_isOfMember cX2_isOfMember 3 (some .boolean) (rmL 1 0 0) [.ref (ad 10 i), .int mm, .int ss] (PX G A ad σ qs nT nW) (fun v _ => v = some (.int (b2i (fOf (σ 14 i) (σ 10 i) (σ 12 i) mm ss)))) (fun _ _ => False) :=
  KM.conseq (α := Unit) (A1 := fun _ => A1) (fun _ _ => cX2_isOfMemberC l G A1 (ad 10 i) (nI i) (σ 10 i) (σ 11 i) (σ 12 i) (σ 13 i) (σ 14 i) (σ 15 i) (σ 16 i) (σ 17 i) mm ss) (fun H hP hA => ⟨(), fun _ h => h, hA, hP.tick hi, fun v H1 _ h => h, fun _ _ _ h => h⟩)
theorem kX2_leaveRoom (i : Nat) (hi : i < nT)  : KM l G A yX2_leaveRoom cX2_leaveRoom 1 none (rmL 1 0 0) [.ref (ad 10 i)] (PX G A ad σ qs nT nW) (fun v H => v = none ∧ PX G A ad (up (up σ 16 i (-1)) 17 i 0) qs nT nW H) (fun _ _ => False) := by
  refine KM.conseq (α := Nat) (A1 := fun z q => q = ad 10 i ∨ z ≤ q) (X := fun _ _ _ => False) (fun z _ => cX2_leaveRoomC l G (fun q => q = ad 10 i ∨ z ≤ q) (ad 10 i) (nI i) (σ 10 i) (σ 11 i) (σ 12 i) (σ 13 i) (σ 14 i) (σ 15 i) (σ 16 i) (σ 17 i) (Or.inl rfl)) (fun H hP hA => ?_)
  refine ⟨H.size, fun q h => h.elim (fun e => e ▸ hP.otick hi) (hA q), fun q h => Or.inr h, hP.tick hi, fun v H1 hk hv => ⟨hv.1, hP.set (k := 10) (Or.inr (Or.inr (Or.inr (Or.inr (Or.inr ⟨rfl, hi⟩))))) ?_ hk (fun g j hne => ?_)⟩, fun _ _ _ h => h⟩
  · have e : ceO G ad (up (up σ 16 i (-1)) 17 i 0) 10 i = .inr (4, [.int (nI i), .int (σ 10 i), .int (σ 11 i), .int (σ 12 i), .int (σ 13 i), .int (σ 14 i), .int (σ 15 i), .int (-1), .int 0]) := by simp [ceO, up]
    rw [e]
    exact hv.2
  · have hn : ¬ (g = 16 ∧ j = i) ∧ ¬ (g = 17 ∧ j = i) := ⟨fun z => hne ⟨by rw [z.1]; rfl, z.2⟩, fun z => hne ⟨by rw [z.1]; rfl, z.2⟩⟩
    simp only [up, if_neg hn.1, if_neg hn.2]
theorem kX3_bookFee (i : Nat) (hi : i < 5) (am : Int32) : KM l G A yX3_bookFee cX3_bookFee 2 none (rmL 1 0 0) [.ref (ad 4 i), .int am] (PX G A ad σ qs nT nW) (fun v H => v = none ∧ PX G A ad (up (up σ 2 i (σ 2 i + am)) 1 i (σ 1 i + am)) qs nT nW H) (fun _ _ => False) := by
  refine KM.conseq (α := Nat) (A1 := fun z q => q = ad 4 i ∨ z ≤ q) (X := fun _ _ _ => False) (fun z _ => cX3_bookFeeC l G (fun q => q = ad 4 i ∨ z ≤ q) (ad 4 i) (σ 0 i) (σ 1 i) (σ 2 i) (σ 3 i) (σ 4 i) (Or.inl rfl) am) (fun H hP hA => ?_)
  refine ⟨H.size, fun q h => h.elim (fun e => e ▸ hP.otill hi) (hA q), fun q h => Or.inr h, hP.till hi, fun v H1 hk hv => ⟨hv.1, hP.set (k := 4) (Or.inr (Or.inl ⟨rfl, hi⟩)) ?_ hk (fun g j hne => ?_)⟩, fun _ _ _ h => h⟩
  · have e : ceO G ad (up (up σ 2 i (σ 2 i + am)) 1 i (σ 1 i + am)) 4 i = .inr (5, [.int (σ 0 i), .int (σ 1 i + am), .int (σ 2 i + am), .int (σ 3 i), .int (σ 4 i)]) := by simp [ceO, up]
    rw [e]
    exact hv.2
  · have hn : ¬ (g = 2 ∧ j = i) ∧ ¬ (g = 1 ∧ j = i) := ⟨fun z => hne ⟨by rw [z.1]; rfl, z.2⟩, fun z => hne ⟨by rw [z.1]; rfl, z.2⟩⟩
    simp only [up, if_neg hn.1, if_neg hn.2]
theorem kX3_bookSale (i : Nat) (hi : i < 5) (am : Int32) : KM l G A yX3_bookSale cX3_bookSale 2 none (rmL 1 0 0) [.ref (ad 4 i), .int am] (PX G A ad σ qs nT nW) (fun v H => v = none ∧ PX G A ad (up (up σ 3 i (σ 3 i + am)) 1 i (σ 1 i + am)) qs nT nW H) (fun _ _ => False) := by
  refine KM.conseq (α := Nat) (A1 := fun z q => q = ad 4 i ∨ z ≤ q) (X := fun _ _ _ => False) (fun z _ => cX3_bookSaleC l G (fun q => q = ad 4 i ∨ z ≤ q) (ad 4 i) (σ 0 i) (σ 1 i) (σ 2 i) (σ 3 i) (σ 4 i) (Or.inl rfl) am) (fun H hP hA => ?_)
  refine ⟨H.size, fun q h => h.elim (fun e => e ▸ hP.otill hi) (hA q), fun q h => Or.inr h, hP.till hi, fun v H1 hk hv => ⟨hv.1, hP.set (k := 4) (Or.inr (Or.inl ⟨rfl, hi⟩)) ?_ hk (fun g j hne => ?_)⟩, fun _ _ _ h => h⟩
  · have e : ceO G ad (up (up σ 3 i (σ 3 i + am)) 1 i (σ 1 i + am)) 4 i = .inr (5, [.int (σ 0 i), .int (σ 1 i + am), .int (σ 2 i), .int (σ 3 i + am), .int (σ 4 i)]) := by simp [ceO, up]
    rw [e]
    exact hv.2
  · have hn : ¬ (g = 3 ∧ j = i) ∧ ¬ (g = 1 ∧ j = i) := ⟨fun z => hne ⟨by rw [z.1]; rfl, z.2⟩, fun z => hne ⟨by rw [z.1]; rfl, z.2⟩⟩
    simp only [up, if_neg hn.1, if_neg hn.2]
theorem kX3_bookGift (i : Nat) (hi : i < 5) (am : Int32) : KM l G A yX3_bookGift cX3_bookGift 2 none (rmL 1 0 0) [.ref (ad 4 i), .int am] (PX G A ad σ qs nT nW) (fun v H => v = none ∧ PX G A ad (up (up σ 4 i (σ 4 i + am)) 1 i (σ 1 i + am)) qs nT nW H) (fun _ _ => False) := by
  refine KM.conseq (α := Nat) (A1 := fun z q => q = ad 4 i ∨ z ≤ q) (X := fun _ _ _ => False) (fun z _ => cX3_bookGiftC l G (fun q => q = ad 4 i ∨ z ≤ q) (ad 4 i) (σ 0 i) (σ 1 i) (σ 2 i) (σ 3 i) (σ 4 i) (Or.inl rfl) am) (fun H hP hA => ?_)
  refine ⟨H.size, fun q h => h.elim (fun e => e ▸ hP.otill hi) (hA q), fun q h => Or.inr h, hP.till hi, fun v H1 hk hv => ⟨hv.1, hP.set (k := 4) (Or.inr (Or.inl ⟨rfl, hi⟩)) ?_ hk (fun g j hne => ?_)⟩, fun _ _ _ h => h⟩
  · have e : ceO G ad (up (up σ 4 i (σ 4 i + am)) 1 i (σ 1 i + am)) 4 i = .inr (5, [.int (σ 0 i), .int (σ 1 i + am), .int (σ 2 i), .int (σ 3 i), .int (σ 4 i + am)]) := by simp [ceO, up]
    rw [e]
    exact hv.2
  · have hn : ¬ (g = 4 ∧ j = i) ∧ ¬ (g = 1 ∧ j = i) := ⟨fun z => hne ⟨by rw [z.1]; rfl, z.2⟩, fun z => hne ⟨by rw [z.1]; rfl, z.2⟩⟩
    simp only [up, if_neg hn.1, if_neg hn.2]
end XLIFT
