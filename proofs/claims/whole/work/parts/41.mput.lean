/-! the reference's plain fields change -/
section PMF
variable {G : GE} {A : Nat → Prop} {ad : Nat → Nat} {τ : SG} {H H1 : Heap}
theorem PM.p1 (h : PM G A ad τ H) {x : Int32} (he : va_at G.1 mcl (ad 30, .inr (8, [.ref (ad 0), .int x, .ref (ad 2), .int (τ 3 0), .ref (ad 4), .ref (ad 5), .ref (ad 6), .ref (ad 7), .ref (ad 8), .ref (ad 9), .ref (ad 10), .ref (ad 11), .int (τ 12 0), .ref (ad 13), .ref (ad 14), .ref (ad 15), .int (τ 16 0), .ref (ad 17), .ref (ad 18), .ref (ad 19), .ref (ad 20), .ref (ad 21), .ref (ad 22), .ref (ad 23), .ref (ad 24), .int (τ 25 0), .int (τ 26 0), .int (τ 27 0), .ref (ad 28), .int (τ 29 0)])) H1) (oq : ∀ q, q ≠ ad 30 → H1[q]? = H[q]?) : PM G A ad (up τ 1 0 x) H1 := by
  refine FAM.put (k := 30) (i := 0) h ⟨Or.inl rfl, rfl⟩ ?_ oq (fun k' i' hne hd => ?_)
  · unfold ceM
    rw [if_pos rfl, show up τ 1 0 x 1 0 = x from up_s, show up τ 1 0 x 3 0 = τ 3 0 from up_f (by decide), show up τ 1 0 x 12 0 = τ 12 0 from up_f (by decide), show up τ 1 0 x 16 0 = τ 16 0 from up_f (by decide), show up τ 1 0 x 25 0 = τ 25 0 from up_f (by decide), show up τ 1 0 x 26 0 = τ 26 0 from up_f (by decide), show up τ 1 0 x 27 0 = τ 27 0 from up_f (by decide), show up τ 1 0 x 29 0 = τ 29 0 from up_f (by decide)]
    exact he
  · have hk' : k' ≠ 30 := fun z => hne ⟨z, hd.2⟩
    unfold ceM
    rw [if_neg hk', if_neg hk', show up τ 1 0 x k' = τ k' from funext fun j => by unfold up; exact if_neg (fun z => (hd.1.resolve_left hk') (by rw [z.1]; rfl))]
theorem PM.p3 (h : PM G A ad τ H) {x : Int32} (he : va_at G.1 mcl (ad 30, .inr (8, [.ref (ad 0), .int (τ 1 0), .ref (ad 2), .int x, .ref (ad 4), .ref (ad 5), .ref (ad 6), .ref (ad 7), .ref (ad 8), .ref (ad 9), .ref (ad 10), .ref (ad 11), .int (τ 12 0), .ref (ad 13), .ref (ad 14), .ref (ad 15), .int (τ 16 0), .ref (ad 17), .ref (ad 18), .ref (ad 19), .ref (ad 20), .ref (ad 21), .ref (ad 22), .ref (ad 23), .ref (ad 24), .int (τ 25 0), .int (τ 26 0), .int (τ 27 0), .ref (ad 28), .int (τ 29 0)])) H1) (oq : ∀ q, q ≠ ad 30 → H1[q]? = H[q]?) : PM G A ad (up τ 3 0 x) H1 := by
  refine FAM.put (k := 30) (i := 0) h ⟨Or.inl rfl, rfl⟩ ?_ oq (fun k' i' hne hd => ?_)
  · unfold ceM
    rw [if_pos rfl, show up τ 3 0 x 1 0 = τ 1 0 from up_f (by decide), show up τ 3 0 x 3 0 = x from up_s, show up τ 3 0 x 12 0 = τ 12 0 from up_f (by decide), show up τ 3 0 x 16 0 = τ 16 0 from up_f (by decide), show up τ 3 0 x 25 0 = τ 25 0 from up_f (by decide), show up τ 3 0 x 26 0 = τ 26 0 from up_f (by decide), show up τ 3 0 x 27 0 = τ 27 0 from up_f (by decide), show up τ 3 0 x 29 0 = τ 29 0 from up_f (by decide)]
    exact he
  · have hk' : k' ≠ 30 := fun z => hne ⟨z, hd.2⟩
    unfold ceM
    rw [if_neg hk', if_neg hk', show up τ 3 0 x k' = τ k' from funext fun j => by unfold up; exact if_neg (fun z => (hd.1.resolve_left hk') (by rw [z.1]; rfl))]
theorem PM.p12 (h : PM G A ad τ H) {x : Int32} (he : va_at G.1 mcl (ad 30, .inr (8, [.ref (ad 0), .int (τ 1 0), .ref (ad 2), .int (τ 3 0), .ref (ad 4), .ref (ad 5), .ref (ad 6), .ref (ad 7), .ref (ad 8), .ref (ad 9), .ref (ad 10), .ref (ad 11), .int x, .ref (ad 13), .ref (ad 14), .ref (ad 15), .int (τ 16 0), .ref (ad 17), .ref (ad 18), .ref (ad 19), .ref (ad 20), .ref (ad 21), .ref (ad 22), .ref (ad 23), .ref (ad 24), .int (τ 25 0), .int (τ 26 0), .int (τ 27 0), .ref (ad 28), .int (τ 29 0)])) H1) (oq : ∀ q, q ≠ ad 30 → H1[q]? = H[q]?) : PM G A ad (up τ 12 0 x) H1 := by
  refine FAM.put (k := 30) (i := 0) h ⟨Or.inl rfl, rfl⟩ ?_ oq (fun k' i' hne hd => ?_)
  · unfold ceM
    rw [if_pos rfl, show up τ 12 0 x 1 0 = τ 1 0 from up_f (by decide), show up τ 12 0 x 3 0 = τ 3 0 from up_f (by decide), show up τ 12 0 x 12 0 = x from up_s, show up τ 12 0 x 16 0 = τ 16 0 from up_f (by decide), show up τ 12 0 x 25 0 = τ 25 0 from up_f (by decide), show up τ 12 0 x 26 0 = τ 26 0 from up_f (by decide), show up τ 12 0 x 27 0 = τ 27 0 from up_f (by decide), show up τ 12 0 x 29 0 = τ 29 0 from up_f (by decide)]
    exact he
  · have hk' : k' ≠ 30 := fun z => hne ⟨z, hd.2⟩
    unfold ceM
    rw [if_neg hk', if_neg hk', show up τ 12 0 x k' = τ k' from funext fun j => by unfold up; exact if_neg (fun z => (hd.1.resolve_left hk') (by rw [z.1]; rfl))]
theorem PM.p16 (h : PM G A ad τ H) {x : Int32} (he : va_at G.1 mcl (ad 30, .inr (8, [.ref (ad 0), .int (τ 1 0), .ref (ad 2), .int (τ 3 0), .ref (ad 4), .ref (ad 5), .ref (ad 6), .ref (ad 7), .ref (ad 8), .ref (ad 9), .ref (ad 10), .ref (ad 11), .int (τ 12 0), .ref (ad 13), .ref (ad 14), .ref (ad 15), .int x, .ref (ad 17), .ref (ad 18), .ref (ad 19), .ref (ad 20), .ref (ad 21), .ref (ad 22), .ref (ad 23), .ref (ad 24), .int (τ 25 0), .int (τ 26 0), .int (τ 27 0), .ref (ad 28), .int (τ 29 0)])) H1) (oq : ∀ q, q ≠ ad 30 → H1[q]? = H[q]?) : PM G A ad (up τ 16 0 x) H1 := by
  refine FAM.put (k := 30) (i := 0) h ⟨Or.inl rfl, rfl⟩ ?_ oq (fun k' i' hne hd => ?_)
  · unfold ceM
    rw [if_pos rfl, show up τ 16 0 x 1 0 = τ 1 0 from up_f (by decide), show up τ 16 0 x 3 0 = τ 3 0 from up_f (by decide), show up τ 16 0 x 12 0 = τ 12 0 from up_f (by decide), show up τ 16 0 x 16 0 = x from up_s, show up τ 16 0 x 25 0 = τ 25 0 from up_f (by decide), show up τ 16 0 x 26 0 = τ 26 0 from up_f (by decide), show up τ 16 0 x 27 0 = τ 27 0 from up_f (by decide), show up τ 16 0 x 29 0 = τ 29 0 from up_f (by decide)]
    exact he
  · have hk' : k' ≠ 30 := fun z => hne ⟨z, hd.2⟩
    unfold ceM
    rw [if_neg hk', if_neg hk', show up τ 16 0 x k' = τ k' from funext fun j => by unfold up; exact if_neg (fun z => (hd.1.resolve_left hk') (by rw [z.1]; rfl))]
theorem PM.p25 (h : PM G A ad τ H) {x : Int32} (he : va_at G.1 mcl (ad 30, .inr (8, [.ref (ad 0), .int (τ 1 0), .ref (ad 2), .int (τ 3 0), .ref (ad 4), .ref (ad 5), .ref (ad 6), .ref (ad 7), .ref (ad 8), .ref (ad 9), .ref (ad 10), .ref (ad 11), .int (τ 12 0), .ref (ad 13), .ref (ad 14), .ref (ad 15), .int (τ 16 0), .ref (ad 17), .ref (ad 18), .ref (ad 19), .ref (ad 20), .ref (ad 21), .ref (ad 22), .ref (ad 23), .ref (ad 24), .int x, .int (τ 26 0), .int (τ 27 0), .ref (ad 28), .int (τ 29 0)])) H1) (oq : ∀ q, q ≠ ad 30 → H1[q]? = H[q]?) : PM G A ad (up τ 25 0 x) H1 := by
  refine FAM.put (k := 30) (i := 0) h ⟨Or.inl rfl, rfl⟩ ?_ oq (fun k' i' hne hd => ?_)
  · unfold ceM
    rw [if_pos rfl, show up τ 25 0 x 1 0 = τ 1 0 from up_f (by decide), show up τ 25 0 x 3 0 = τ 3 0 from up_f (by decide), show up τ 25 0 x 12 0 = τ 12 0 from up_f (by decide), show up τ 25 0 x 16 0 = τ 16 0 from up_f (by decide), show up τ 25 0 x 25 0 = x from up_s, show up τ 25 0 x 26 0 = τ 26 0 from up_f (by decide), show up τ 25 0 x 27 0 = τ 27 0 from up_f (by decide), show up τ 25 0 x 29 0 = τ 29 0 from up_f (by decide)]
    exact he
  · have hk' : k' ≠ 30 := fun z => hne ⟨z, hd.2⟩
    unfold ceM
    rw [if_neg hk', if_neg hk', show up τ 25 0 x k' = τ k' from funext fun j => by unfold up; exact if_neg (fun z => (hd.1.resolve_left hk') (by rw [z.1]; rfl))]
theorem PM.p26 (h : PM G A ad τ H) {x : Int32} (he : va_at G.1 mcl (ad 30, .inr (8, [.ref (ad 0), .int (τ 1 0), .ref (ad 2), .int (τ 3 0), .ref (ad 4), .ref (ad 5), .ref (ad 6), .ref (ad 7), .ref (ad 8), .ref (ad 9), .ref (ad 10), .ref (ad 11), .int (τ 12 0), .ref (ad 13), .ref (ad 14), .ref (ad 15), .int (τ 16 0), .ref (ad 17), .ref (ad 18), .ref (ad 19), .ref (ad 20), .ref (ad 21), .ref (ad 22), .ref (ad 23), .ref (ad 24), .int (τ 25 0), .int x, .int (τ 27 0), .ref (ad 28), .int (τ 29 0)])) H1) (oq : ∀ q, q ≠ ad 30 → H1[q]? = H[q]?) : PM G A ad (up τ 26 0 x) H1 := by
  refine FAM.put (k := 30) (i := 0) h ⟨Or.inl rfl, rfl⟩ ?_ oq (fun k' i' hne hd => ?_)
  · unfold ceM
    rw [if_pos rfl, show up τ 26 0 x 1 0 = τ 1 0 from up_f (by decide), show up τ 26 0 x 3 0 = τ 3 0 from up_f (by decide), show up τ 26 0 x 12 0 = τ 12 0 from up_f (by decide), show up τ 26 0 x 16 0 = τ 16 0 from up_f (by decide), show up τ 26 0 x 25 0 = τ 25 0 from up_f (by decide), show up τ 26 0 x 26 0 = x from up_s, show up τ 26 0 x 27 0 = τ 27 0 from up_f (by decide), show up τ 26 0 x 29 0 = τ 29 0 from up_f (by decide)]
    exact he
  · have hk' : k' ≠ 30 := fun z => hne ⟨z, hd.2⟩
    unfold ceM
    rw [if_neg hk', if_neg hk', show up τ 26 0 x k' = τ k' from funext fun j => by unfold up; exact if_neg (fun z => (hd.1.resolve_left hk') (by rw [z.1]; rfl))]
theorem PM.p27 (h : PM G A ad τ H) {x : Int32} (he : va_at G.1 mcl (ad 30, .inr (8, [.ref (ad 0), .int (τ 1 0), .ref (ad 2), .int (τ 3 0), .ref (ad 4), .ref (ad 5), .ref (ad 6), .ref (ad 7), .ref (ad 8), .ref (ad 9), .ref (ad 10), .ref (ad 11), .int (τ 12 0), .ref (ad 13), .ref (ad 14), .ref (ad 15), .int (τ 16 0), .ref (ad 17), .ref (ad 18), .ref (ad 19), .ref (ad 20), .ref (ad 21), .ref (ad 22), .ref (ad 23), .ref (ad 24), .int (τ 25 0), .int (τ 26 0), .int x, .ref (ad 28), .int (τ 29 0)])) H1) (oq : ∀ q, q ≠ ad 30 → H1[q]? = H[q]?) : PM G A ad (up τ 27 0 x) H1 := by
  refine FAM.put (k := 30) (i := 0) h ⟨Or.inl rfl, rfl⟩ ?_ oq (fun k' i' hne hd => ?_)
  · unfold ceM
    rw [if_pos rfl, show up τ 27 0 x 1 0 = τ 1 0 from up_f (by decide), show up τ 27 0 x 3 0 = τ 3 0 from up_f (by decide), show up τ 27 0 x 12 0 = τ 12 0 from up_f (by decide), show up τ 27 0 x 16 0 = τ 16 0 from up_f (by decide), show up τ 27 0 x 25 0 = τ 25 0 from up_f (by decide), show up τ 27 0 x 26 0 = τ 26 0 from up_f (by decide), show up τ 27 0 x 27 0 = x from up_s, show up τ 27 0 x 29 0 = τ 29 0 from up_f (by decide)]
    exact he
  · have hk' : k' ≠ 30 := fun z => hne ⟨z, hd.2⟩
    unfold ceM
    rw [if_neg hk', if_neg hk', show up τ 27 0 x k' = τ k' from funext fun j => by unfold up; exact if_neg (fun z => (hd.1.resolve_left hk') (by rw [z.1]; rfl))]
theorem PM.p29 (h : PM G A ad τ H) {x : Int32} (he : va_at G.1 mcl (ad 30, .inr (8, [.ref (ad 0), .int (τ 1 0), .ref (ad 2), .int (τ 3 0), .ref (ad 4), .ref (ad 5), .ref (ad 6), .ref (ad 7), .ref (ad 8), .ref (ad 9), .ref (ad 10), .ref (ad 11), .int (τ 12 0), .ref (ad 13), .ref (ad 14), .ref (ad 15), .int (τ 16 0), .ref (ad 17), .ref (ad 18), .ref (ad 19), .ref (ad 20), .ref (ad 21), .ref (ad 22), .ref (ad 23), .ref (ad 24), .int (τ 25 0), .int (τ 26 0), .int (τ 27 0), .ref (ad 28), .int x])) H1) (oq : ∀ q, q ≠ ad 30 → H1[q]? = H[q]?) : PM G A ad (up τ 29 0 x) H1 := by
  refine FAM.put (k := 30) (i := 0) h ⟨Or.inl rfl, rfl⟩ ?_ oq (fun k' i' hne hd => ?_)
  · unfold ceM
    rw [if_pos rfl, show up τ 29 0 x 1 0 = τ 1 0 from up_f (by decide), show up τ 29 0 x 3 0 = τ 3 0 from up_f (by decide), show up τ 29 0 x 12 0 = τ 12 0 from up_f (by decide), show up τ 29 0 x 16 0 = τ 16 0 from up_f (by decide), show up τ 29 0 x 25 0 = τ 25 0 from up_f (by decide), show up τ 29 0 x 26 0 = τ 26 0 from up_f (by decide), show up τ 29 0 x 27 0 = τ 27 0 from up_f (by decide), show up τ 29 0 x 29 0 = x from up_s]
    exact he
  · have hk' : k' ≠ 30 := fun z => hne ⟨z, hd.2⟩
    unfold ceM
    rw [if_neg hk', if_neg hk', show up τ 29 0 x k' = τ k' from funext fun j => by unfold up; exact if_neg (fun z => (hd.1.resolve_left hk') (by rw [z.1]; rfl))]
end PMF
