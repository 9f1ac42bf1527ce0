/-! THE PICTURE's lists: open, change, close -/
section PXL
variable {G : GE} {A : Nat → Prop} {ad : Nat → Nat → Nat} {σ σ' : SG} {qs : Nat → List Nat} {nT nW : Nat} {H H1 : Heap} {k i : Nat}
theorem ceO_eq (hσ : ∀ g j, ¬ (fk g = k ∧ j = i) → σ' g j = σ g j) {k' i' : Nat} (h : ¬ (k' = k ∧ i' = i)) : ceO G ad σ' k' i' = ceO G ad σ k' i' := by
  have u : ∀ g, fk g = k' → σ' g i' = σ g i' := fun g hg => hσ g i' fun ⟨e1, e2⟩ => h ⟨by rw [← hg, e1], e2⟩
  match k', u with
  | 0, u => simp only [ceO]; rw [u 25 rfl, u 26 rfl, u 27 rfl]
  | 1, u => rfl
  | 2, u => rfl
  | 3, u => rfl
  | 4, u => simp only [ceO]; rw [u 0 rfl, u 1 rfl, u 2 rfl, u 3 rfl, u 4 rfl]
  | 5, u => simp only [ceO]; rw [u 5 rfl, u 6 rfl, u 7 rfl]
  | 6, u => simp only [ceO]; rw [u 8 rfl, u 9 rfl]
  | 7, u => rfl
  | 8, u => rfl
  | 9, u => simp only [ceO]; rw [u 18 rfl, u 19 rfl, u 20 rfl, u 21 rfl, u 22 rfl, u 23 rfl, u 24 rfl]
  | 10, u => simp only [ceO]; rw [u 10 rfl, u 11 rfl, u 12 rfl, u 13 rfl, u 14 rfl, u 15 rfl, u 16 rfl, u 17 rfl]
  | k' + 11, u => rfl
/-- one object has changed -/
theorem PX.set (h : PX G A ad σ qs nT nW H) (hd : dmO nT nW k i) (he : va_at G.1 mcl (ad k i, ceO G ad σ' k i) H1) (hk : KF (fun q => q = ad k i ∨ H.size ≤ q) H H1) (hσ : ∀ g j, ¬ (fk g = k ∧ j = i) → σ' g j = σ g j) : PX G A ad σ' qs nT nW H1 := by
  obtain ⟨ba, bc, bm, h, h2⟩ := h
  obtain ⟨n7, n8⟩ := dmO_ne hd
  have hd' : dmX nT nW bc k i := by unfold dmX; rw [if_neg n7, if_neg n8]; exact hd
  refine ⟨ba, bc, bm, ⟨fun k' i' hd2 => ?_, h.2.1, h.2.2⟩, h2⟩
  by_cases e : k' = k ∧ i' = i
  · obtain ⟨e1, e2⟩ := e
    subst e1; subst e2
    simp only [adB, if_neg n8, ceX, if_neg n7]
    exact he
  · have ho := h.1 k' i' hd2
    have hne : adB ad ba k' i' ≠ ad k i := fun z => e (h.2.1 k' i' k i hd2 hd' (by rw [z]; simp only [adB, if_neg n8]))
    have ec : ceX G ad ba bc bm σ' qs nT nW k' i' = ceX G ad ba bc bm σ qs nT nW k' i' := by
      unfold ceX
      by_cases e7 : k' = 7
      · rw [if_pos e7, if_pos e7]
      · rw [if_neg e7, if_neg e7]
        by_cases e8 : k' = 8
        · rw [if_pos e8, if_pos e8]
        · rw [if_neg e8, if_neg e8]
          exact ceO_eq hσ e
    rw [ec]
    exact ho.kept (hk.2 _ ho.lt (fun z => z.elim hne (Nat.not_le.mpr ho.lt)))
/-- a list of the class is opened; behind a change it is closed again -/
theorem PX.lst (h : PX G A ad σ qs nT nW H) (hi : i < 14) : ∃ (aA n : Nat) (mc : Int32), LL G (ad 7 i) aA n mc (lsX ad qs nT nW i) H ∧ A (ad 7 i) ∧ (n ≠ 0 → A aA) ∧ (∀ k' i', dmO nT nW k' i' → ad k' i' ≠ ad 7 i ∧ (n ≠ 0 → ad k' i' ≠ aA)) ∧
    ∀ (H1 : Heap) (aA' n' : Nat) (mc' : Int32) (qs' : Nat → List Nat), (∀ j, j ≠ i → qs' j = qs j) → LL G (ad 7 i) aA' n' mc' (lsX ad qs' nT nW i) H1 → ((n ≠ 0 ∧ aA' = aA) ∨ H.size ≤ aA' ∨ n' = 0) → (n' ≠ 0 → A aA') → KF (fun q => q = ad 7 i ∨ (n ≠ 0 ∧ q = aA) ∨ H.size ≤ q) H H1 → (i < 12 → ∀ t ∈ qs' i, t < nT) → PX G A ad σ qs' nT nW H1 := by
  obtain ⟨ba, bc, bm, h, hT, hW, hlen, hq⟩ := h
  have h7 : ∀ j, j < 14 → dmX nT nW bc 7 j := fun j hj => by unfold dmX; rw [if_pos rfl]; exact hj
  have h8 : ∀ j, j < 14 → bc j ≠ 0 → dmX nT nW bc 8 j := fun j hj hb => by unfold dmX; rw [if_neg (by decide), if_pos rfl]; exact ⟨hj, hb⟩
  have hO : ∀ k' i', dmO nT nW k' i' → dmX nT nW bc k' i' ∧ adB ad ba k' i' = ad k' i' := fun k' i' hd => by
    obtain ⟨n7, n8⟩ := dmO_ne hd
    exact ⟨by unfold dmX; rw [if_neg n7, if_neg n8]; exact hd, by simp only [adB, if_neg n8]⟩
  have e7 : ∀ j, adB ad ba 7 j = ad 7 j := fun j => by simp [adB]
  have e8 : ∀ j, adB ad ba 8 j = ba j := fun j => by simp [adB]
  have L : ∀ j, j < 14 → LL G (ad 7 j) (if bc j = 0 then G.2.2.1 else ba j) (bc j) (bm j) (lsX ad qs nT nW j) H := by
    intro j hj
    have c7 := h.1 7 j (h7 j hj)
    rw [e7] at c7
    simp only [ceX, if_pos] at c7
    refine ⟨c7, (hlen j hj).1, (hlen j hj).2, ?_⟩
    by_cases hb : bc j = 0
    · exact Or.inl ⟨hb, if_pos hb⟩
    · have c8 := h.1 8 j (h8 j hj hb)
      rw [e8] at c8
      simp only [ceX, if_neg (show ¬ (8 : Nat) = 7 by decide), if_pos] at c8
      rw [if_neg hb]
      exact Or.inr ⟨hb, fun z => absurd (h.2.1 8 j 7 j (h8 j hj hb) (h7 j hj) (by rw [e7, e8]; exact z)).1 (by decide), c8⟩
  refine ⟨_, bc i, bm i, L i hi, by rw [← e7]; exact h.2.2 7 i (h7 i hi), fun hb => by rw [if_neg hb, ← e8]; exact h.2.2 8 i (h8 i hi hb), fun k' i' hd => ⟨fun z => ?_, fun hb z => ?_⟩, ?_⟩
  · obtain ⟨d1, d2⟩ := hO k' i' hd
    exact (dmO_ne hd).1 (h.2.1 k' i' 7 i d1 (h7 i hi) (by rw [d2, e7]; exact z)).1
  · obtain ⟨d1, d2⟩ := hO k' i' hd
    rw [if_neg hb] at z
    exact (dmO_ne hd).2 (h.2.1 k' i' 8 i d1 (h8 i hi hb) (by rw [d2, e8]; exact z)).1
  · intro H1 aA' n' mc' qs' hqs hLL hcase hAA hk hel
    have keepC : ∀ k' i', dmX nT nW bc k' i' → ¬ (k' = 7 ∧ i' = i) → ¬ (k' = 8 ∧ i' = i) → va_at G.1 mcl (adB ad ba k' i', ceX G ad ba bc bm σ qs nT nW k' i') H1 ∧ adB ad ba k' i' < H.size := by
      intro k' i' hd g7 g8
      have ho := h.1 k' i' hd
      refine ⟨ho.kept (hk.2 _ ho.lt (fun z => ?_)), ho.lt⟩
      rcases z with z | ⟨hb, z⟩ | z
      · obtain ⟨z1, z2⟩ := h.2.1 k' i' 7 i hd (h7 i hi) (by rw [e7]; exact z)
        exact g7 ⟨z1, z2⟩
      · rw [if_neg hb] at z
        obtain ⟨z1, z2⟩ := h.2.1 k' i' 8 i hd (h8 i hi hb) (by rw [e8]; exact z)
        exact g8 ⟨z1, z2⟩
      · exact absurd z (Nat.not_le.mpr ho.lt)
    have els : ∀ j, j ≠ i → lsX ad qs' nT nW j = lsX ad qs nT nW j := by
      intro j hj
      unfold lsX
      rw [hqs j hj]
    obtain ⟨l1, l2, l3, l4⟩ := hLL
    refine ⟨fun j => if j = i then aA' else ba j, fun j => if j = i then n' else bc j, fun j => if j = i then mc' else bm j, ⟨?_, ?_, ?_⟩, hT, hW, ?_, ?_⟩
    · intro k' i' hd
      by_cases g7 : k' = 7
      · subst g7
        by_cases gi : i' = i
        · subst gi
          simp only [adB, ceX, if_pos, if_neg (show ¬ (7 : Nat) = 8 by decide)]
          rcases l4 with ⟨m1, m2⟩ | ⟨m1, m2, m3⟩
          · rw [if_pos m1, ← m2]; exact l1
          · rw [if_neg m1]; exact l1
        · have hd' : dmX nT nW bc 7 i' := by unfold dmX at hd ⊢; rw [if_pos rfl] at hd ⊢; exact hd
          have c := (keepC 7 i' hd' (fun z => gi z.2) (fun z => absurd z.1 (by decide))).1
          simp only [adB, ceX, if_pos, if_neg (show ¬ (7 : Nat) = 8 by decide), if_neg gi, els i' gi] at c ⊢
          exact c
      · by_cases g8 : k' = 8
        · subst g8
          by_cases gi : i' = i
          · subst gi
            simp only [dmX, if_neg (show ¬ (8 : Nat) = 7 by decide), if_pos] at hd
            simp only [adB, ceX, if_pos, if_neg (show ¬ (8 : Nat) = 7 by decide)]
            rcases l4 with ⟨m1, m2⟩ | ⟨m1, m2, m3⟩
            · exact absurd m1 hd.2
            · exact m3
          · have hd' : dmX nT nW bc 8 i' := by
              simp only [dmX, if_neg (show ¬ (8 : Nat) = 7 by decide), if_pos, if_neg gi] at hd ⊢
              exact hd
            have c := (keepC 8 i' hd' (fun z => absurd z.1 (by decide)) (fun z => gi z.2)).1
            simp only [adB, ceX, if_pos, if_neg (show ¬ (8 : Nat) = 7 by decide), if_neg gi, els i' gi] at c ⊢
            exact c
        · have hd' : dmX nT nW bc k' i' := by
            simp only [dmX, if_neg g7, if_neg g8] at hd ⊢
            exact hd
          have c := (keepC k' i' hd' (fun z => g7 z.1) (fun z => g8 z.1)).1
          simp only [adB, ceX, if_neg g7, if_neg g8] at c ⊢
          exact c
    · -- apart
      have old : ∀ k' i', dmX nT nW (fun j => if j = i then n' else bc j) k' i' → ¬ (k' = 8 ∧ i' = i) → dmX nT nW bc k' i' ∧ adB ad (fun j => if j = i then aA' else ba j) k' i' = adB ad ba k' i' := by
        intro k' i' hd hn
        by_cases g8 : k' = 8
        · subst g8
          have gi : i' ≠ i := fun z => hn ⟨rfl, z⟩
          simp only [dmX, if_neg (show ¬ (8 : Nat) = 7 by decide), if_pos, if_neg gi] at hd ⊢
          exact ⟨hd, by simp only [adB, if_pos, if_neg gi]⟩
        · refine ⟨?_, by simp only [adB, if_neg g8]⟩
          simp only [dmX, if_neg g8] at hd ⊢
          exact hd
      have new8 : ∀ k' i', dmX nT nW (fun j => if j = i then n' else bc j) k' i' → ¬ (k' = 8 ∧ i' = i) → dmX nT nW (fun j => if j = i then n' else bc j) 8 i → adB ad (fun j => if j = i then aA' else ba j) k' i' ≠ aA' := by
        intro k' i' hd hn hd8 z
        obtain ⟨d1, d2⟩ := old k' i' hd hn
        rw [d2] at z
        simp only [dmX, if_neg (show ¬ (8 : Nat) = 7 by decide), if_pos] at hd8
        rcases hcase with ⟨hb, e⟩ | e | e
        · rw [e, if_neg hb] at z
          obtain ⟨z1, z2⟩ := h.2.1 k' i' 8 i d1 (h8 i hi hb) (by rw [e8]; exact z)
          exact hn ⟨z1, z2⟩
        · have := (h.1 k' i' d1).lt
          simp only at this
          omega
        · exact hd8.2 e
      intro k' i' k'' i'' hd hd2 hz
      by_cases g1 : k' = 8 ∧ i' = i
      · by_cases g2 : k'' = 8 ∧ i'' = i
        · exact ⟨g1.1.trans g2.1.symm, g1.2.trans g2.2.symm⟩
        · obtain ⟨a1, a2⟩ := g1
          subst a1; subst a2
          refine absurd hz.symm ?_
          have := new8 k'' i'' hd2 g2 hd
          simpa [adB] using this
      · by_cases g2 : k'' = 8 ∧ i'' = i
        · obtain ⟨a1, a2⟩ := g2
          subst a1; subst a2
          refine absurd hz ?_
          have := new8 k' i' hd g1 hd2
          simpa [adB] using this
        · obtain ⟨d1, d2⟩ := old k' i' hd g1
          obtain ⟨d3, d4⟩ := old k'' i'' hd2 g2
          exact h.2.1 k' i' k'' i'' d1 d3 (by rw [← d2, ← d4]; exact hz)
    · intro k' i' hd
      by_cases g8 : k' = 8
      · subst g8
        by_cases gi : i' = i
        · subst gi
          simp only [dmX, if_neg (show ¬ (8 : Nat) = 7 by decide), if_pos] at hd
          simp only [adB, if_pos]
          exact hAA hd.2
        · simp only [dmX, if_neg (show ¬ (8 : Nat) = 7 by decide), if_pos, if_neg gi] at hd
          simp only [adB, if_pos, if_neg gi]
          rw [← e8]
          exact h.2.2 8 i' (h8 i' hd.1 hd.2)
      · have hd' : dmX nT nW bc k' i' := by simp only [dmX, if_neg g8] at hd ⊢; exact hd
        have := h.2.2 k' i' hd'
        simp only [adB, if_neg g8] at this ⊢
        exact this
    · intro j hj
      by_cases gi : j = i
      · subst gi
        simp only [if_pos]
        exact ⟨l2, l3⟩
      · simp only [if_neg gi, els j gi]
        exact hlen j hj
    · intro r hr t ht
      by_cases gi : r = i
      · subst gi
        exact hel hr t ht
      · rw [hqs r gi] at ht
        exact hq r hr t ht
end PXL
/-- the new address of the object jn of kind kn -/
def adN (ad : Nat → Nat → Nat) (kn jn q : Nat) : Nat → Nat → Nat := fun k j => if k = kn ∧ j = jn then q else ad k j
section PXN
variable {G : GE} {A : Nat → Prop} {ad : Nat → Nat → Nat} {σ σ' : SG} {qs : Nat → List Nat} {nT nW nT' nW' : Nat} {H0 H H1 : Heap} {i kn jn q : Nat}
theorem PX.lstN (h0 : PX G A ad σ qs nT nW H0) (hk0 : KF (fun z => H0.size ≤ z) H0 H) (hi : (kn = 10 ∧ i = 12 ∧ jn = nT ∧ nT' = nT + 1 ∧ nW' = nW ∧ nT < 80) ∨ (kn = 9 ∧ i = 13 ∧ jn = nW ∧ nW' = nW + 1 ∧ nT' = nT ∧ nW < 12)) (hq0 : H0.size ≤ q) (hqH : q < H.size) (hqA : A q) (hσ : ∀ g j, ¬ (fk g = kn ∧ j = jn) → σ' g j = σ g j) :
    ∃ (aA n : Nat) (mc : Int32), LL G (ad 7 i) aA n mc (lsX ad qs nT nW i) H ∧ A (ad 7 i) ∧ (n ≠ 0 → A aA) ∧ (∀ k' i', dmO nT nW k' i' → ad k' i' ≠ ad 7 i ∧ (n ≠ 0 → ad k' i' ≠ aA)) ∧ q ≠ ad 7 i ∧ (n ≠ 0 → q ≠ aA) ∧
    ∀ (H1 : Heap) (aA' n' : Nat) (mc' : Int32), LL G (ad 7 i) aA' n' mc' (lsX ad qs nT nW i ++ [q]) H1 → ((n ≠ 0 ∧ aA' = aA) ∨ H.size ≤ aA' ∨ n' = 0) → (n' ≠ 0 → A aA') → KF (fun z => z = ad 7 i ∨ (n ≠ 0 ∧ z = aA) ∨ H.size ≤ z) H H1 → va_at G.1 mcl (q, ceO G (adN ad kn jn q) σ' kn jn) H1 → PX G A (adN ad kn jn q) σ' qs nT' nW' H1 := by
  have hlt0 : ∀ k' i', dmO nT nW k' i' → ad k' i' < H0.size := fun k' i' hd => (h0.obj hd).1.lt
  have hi14 : i < 14 := by omega
  have hP := h0.old hk0
  obtain ⟨ba, bc, bm, h, hT, hW, hlen, hq⟩ := h0
  have h7 : ∀ j, j < 14 → dmX nT nW bc 7 j := fun j hj => by unfold dmX; rw [if_pos rfl]; exact hj
  have h8 : ∀ j, j < 14 → bc j ≠ 0 → dmX nT nW bc 8 j := fun j hj hb => by unfold dmX; rw [if_neg (by decide), if_pos rfl]; exact ⟨hj, hb⟩
  have hO : ∀ k' i', dmO nT nW k' i' → dmX nT nW bc k' i' ∧ adB ad ba k' i' = ad k' i' := fun k' i' hd => by
    obtain ⟨n7, n8⟩ := dmO_ne hd
    exact ⟨by unfold dmX; rw [if_neg n7, if_neg n8]; exact hd, by simp only [adB, if_neg n8]⟩
  have e7 : ∀ j, adB ad ba 7 j = ad 7 j := fun j => by simp [adB]
  have e8 : ∀ j, adB ad ba 8 j = ba j := fun j => by simp [adB]
  have hlt : ∀ k' i', dmX nT nW bc k' i' → adB ad ba k' i' < H0.size := fun k' i' hd => (h.1 k' i' hd).lt
  have hnowH : ∀ k' i', dmX nT nW bc k' i' → va_at G.1 mcl (adB ad ba k' i', ceX G ad ba bc bm σ qs nT nW k' i') H := fun k' i' hd => atO (h.1 k' i' hd) hk0
  have L : LL G (ad 7 i) (if bc i = 0 then G.2.2.1 else ba i) (bc i) (bm i) (lsX ad qs nT nW i) H := by
    have c7 := hnowH 7 i (h7 i hi14)
    rw [e7] at c7
    simp only [ceX, if_pos] at c7
    refine ⟨c7, (hlen i hi14).1, (hlen i hi14).2, ?_⟩
    by_cases hb : bc i = 0
    · exact Or.inl ⟨hb, if_pos hb⟩
    · have c8 := hnowH 8 i (h8 i hi14 hb)
      rw [e8] at c8
      simp only [ceX, if_neg (show ¬ (8 : Nat) = 7 by decide), if_pos] at c8
      rw [if_neg hb]
      exact Or.inr ⟨hb, fun z => absurd (h.2.1 8 i 7 i (h8 i hi14 hb) (h7 i hi14) (by rw [e7, e8]; exact z)).1 (by decide), c8⟩
  have a7 : ad 7 i < H0.size := by rw [← e7]; exact hlt 7 i (h7 i hi14)
  have a8 : bc i ≠ 0 → ba i < H0.size := fun hb => by rw [← e8]; exact hlt 8 i (h8 i hi14 hb)
  refine ⟨_, bc i, bm i, L, by rw [← e7]; exact h.2.2 7 i (h7 i hi14), fun hb => by rw [if_neg hb, ← e8]; exact h.2.2 8 i (h8 i hi14 hb), fun k' i' hd => ⟨fun z => ?_, fun hb z => ?_⟩, by omega, fun hb => by rw [if_neg hb]; have := a8 hb; omega, ?_⟩
  · obtain ⟨d1, d2⟩ := hO k' i' hd
    exact (dmO_ne hd).1 (h.2.1 k' i' 7 i d1 (h7 i hi14) (by rw [d2, e7]; exact z)).1
  · obtain ⟨d1, d2⟩ := hO k' i' hd
    rw [if_neg hb] at z
    exact (dmO_ne hd).2 (h.2.1 k' i' 8 i d1 (h8 i hi14 hb) (by rw [d2, e8]; exact z)).1
  · intro H1 aA' n' mc' hLL hcase hAA hk hcell
    have hkn : kn = 9 ∨ kn = 10 := by omega
    have hnO : ¬ dmO nT nW kn jn := by unfold dmO; omega
    have dmN : ∀ k' i', dmO nT' nW' k' i' → dmO nT nW k' i' ∨ (k' = kn ∧ i' = jn) := by intro k' i' hd; unfold dmO at hd ⊢; omega
    have adO : ∀ k' i', ¬ (k' = kn ∧ i' = jn) → adN ad kn jn q k' i' = ad k' i' := fun k' i' g => if_neg g
    have adOk : ∀ k', k' ≠ kn → adN ad kn jn q k' = ad k' := fun k' g => funext fun j => if_neg (fun z => g z.1)
    have adq : adN ad kn jn q kn jn = q := if_pos ⟨rfl, rfl⟩
    have ecO : ∀ k' i', ¬ (k' = kn ∧ i' = jn) → ceO G (adN ad kn jn q) σ' k' i' = ceO G ad σ k' i' := by
      intro k' i' g
      rw [← ceO_eq hσ g]
      have r1 : ∀ z, z < 9 → adN ad kn jn q z = ad z := fun z hz => adOk z (by omega)
      match k' with
      | 0 => simp only [ceO, r1 1 (by decide), r1 2 (by decide), r1 3 (by decide), r1 7 (by decide)]
      | 1 => simp only [ceO, r1 4 (by decide)]
      | 2 => simp only [ceO, r1 5 (by decide)]
      | 3 => simp only [ceO, r1 6 (by decide)]
      | 4 => rfl
      | 5 => simp only [ceO, r1 7 (by decide)]
      | 6 => rfl
      | 7 => rfl
      | 8 => rfl
      | 9 => rfl
      | 10 => rfl
      | k' + 11 => rfl
    have els : ∀ j, j < 14 → j ≠ i → lsX (adN ad kn jn q) qs nT' nW' j = lsX ad qs nT nW j := by
      intro j hj hji
      unfold lsX
      by_cases g1 : j < 12
      · rw [if_pos g1, if_pos g1]
        refine List.map_congr_left fun t ht => adO 10 t ?_
        have := hq j g1 t ht
        omega
      · rw [if_neg g1, if_neg g1]
        by_cases g2 : j = 12
        · rw [if_pos g2, if_pos g2]
          obtain rfl : nT' = nT := by omega
          exact List.map_congr_left fun t ht => adO 10 t (by omega)
        · rw [if_neg g2, if_neg g2]
          obtain rfl : nW' = nW := by omega
          exact List.map_congr_left fun t ht => adO 9 t (by omega)
    have elsi : lsX (adN ad kn jn q) qs nT' nW' i = lsX ad qs nT nW i ++ [q] := by
      unfold lsX
      rcases hi with ⟨r1, r2, r3, r4, r5, r6⟩ | ⟨r1, r2, r3, r4, r5, r6⟩
      · subst r2; subst r1; subst r3; subst r4
        simp only [if_neg (show ¬ (12 : Nat) < 12 by decide), if_true]
        rw [List.range_succ, List.map_append]
        congr 1
        · exact List.map_congr_left fun t ht => adO 10 t (by have := List.mem_range.mp ht; omega)
        · simp [adN]
      · subst r2; subst r1; subst r3; subst r4
        simp only [if_neg (show ¬ (13 : Nat) < 12 by decide), if_neg (show ¬ (13 : Nat) = 12 by decide)]
        rw [List.range_succ, List.map_append]
        congr 1
        · exact List.map_congr_left fun t ht => adO 9 t (by have := List.mem_range.mp ht; omega)
        · simp [adN]
    have keepC : ∀ k' i', dmX nT nW bc k' i' → ¬ (k' = 7 ∧ i' = i) → ¬ (k' = 8 ∧ i' = i) → va_at G.1 mcl (adB ad ba k' i', ceX G ad ba bc bm σ qs nT nW k' i') H1 := by
      intro k' i' hd g7 g8
      have ho := hnowH k' i' hd
      refine ho.kept (hk.2 _ ho.lt (fun z => ?_))
      rcases z with z | ⟨hb, z⟩ | z
      · obtain ⟨z1, z2⟩ := h.2.1 k' i' 7 i hd (h7 i hi14) (by rw [e7]; exact z)
        exact g7 ⟨z1, z2⟩
      · rw [if_neg hb] at z
        obtain ⟨z1, z2⟩ := h.2.1 k' i' 8 i hd (h8 i hi14 hb) (by rw [e8]; exact z)
        exact g8 ⟨z1, z2⟩
      · exact absurd z (Nat.not_le.mpr ho.lt)
    obtain ⟨l1, l2, l3, l4⟩ := hLL
    -- every cell of the new picture: an old one, the list's array, or q
    have old : ∀ k' i', dmX nT' nW' (fun j => if j = i then n' else bc j) k' i' → ¬ (k' = 8 ∧ i' = i) → ¬ (k' = kn ∧ i' = jn) → dmX nT nW bc k' i' ∧ adB (adN ad kn jn q) (fun j => if j = i then aA' else ba j) k' i' = adB ad ba k' i' := by
      intro k' i' hd g8 gn
      by_cases e8' : k' = 8
      · subst e8'
        have gi : i' ≠ i := fun z => g8 ⟨rfl, z⟩
        simp only [dmX, if_neg (show ¬ (8 : Nat) = 7 by decide), if_pos, if_neg gi] at hd ⊢
        exact ⟨hd, by simp only [adB, if_pos, if_neg gi]⟩
      · refine ⟨?_, by simp only [adB, if_neg e8']; exact adO k' i' gn⟩
        by_cases e7' : k' = 7
        · subst e7'
          simp only [dmX, if_pos] at hd ⊢
          exact hd
        · simp only [dmX, if_neg e7', if_neg e8'] at hd ⊢
          exact (dmN k' i' hd).elim id (fun z => absurd z gn)
    have adBn : adB (adN ad kn jn q) (fun j => if j = i then aA' else ba j) kn jn = q := by
      have : kn ≠ 8 := by omega
      simp only [adB, if_neg this]
      exact adq
    have adB8 : adB (adN ad kn jn q) (fun j => if j = i then aA' else ba j) 8 i = aA' := by simp [adB]
    have aAq : dmX nT' nW' (fun j => if j = i then n' else bc j) 8 i → aA' ≠ q := by
      intro hd8 z
      simp only [dmX, if_neg (show ¬ (8 : Nat) = 7 by decide), if_pos] at hd8
      rcases hcase with ⟨hb, e⟩ | e | e
      · rw [if_neg hb] at e
        have := a8 hb
        omega
      · omega
      · exact hd8.2 e
    have aAo : ∀ k' i', dmX nT nW bc k' i' → ¬ (k' = 8 ∧ i' = i) → dmX nT' nW' (fun j => if j = i then n' else bc j) 8 i → adB ad ba k' i' ≠ aA' := by
      intro k' i' d1 hn hd8 z
      simp only [dmX, if_neg (show ¬ (8 : Nat) = 7 by decide), if_pos] at hd8
      rcases hcase with ⟨hb, e⟩ | e | e
      · rw [e, if_neg hb] at z
        obtain ⟨z1, z2⟩ := h.2.1 k' i' 8 i d1 (h8 i hi14 hb) (by rw [e8]; exact z)
        exact hn ⟨z1, z2⟩
      · have := hlt k' i' d1
        have := hk0.1
        omega
      · exact hd8.2 e
    refine ⟨fun j => if j = i then aA' else ba j, fun j => if j = i then n' else bc j, fun j => if j = i then mc' else bm j, ⟨?_, ?_, ?_⟩, by omega, by omega, ?_, ?_⟩
    · intro k' i' hd
      by_cases gn : k' = kn ∧ i' = jn
      · obtain ⟨g1, g2⟩ := gn
        subst g1; subst g2
        have n7 : k' ≠ 7 := by omega
        have n8 : k' ≠ 8 := by omega
        rw [adBn]
        simp only [ceX, if_neg n7, if_neg n8]
        exact hcell
      · by_cases g8 : k' = 8 ∧ i' = i
        · obtain ⟨g1, g2⟩ := g8
          subst g1; subst g2
          rw [adB8]
          simp only [dmX, if_neg (show ¬ (8 : Nat) = 7 by decide), if_pos] at hd
          simp only [ceX, if_pos, if_neg (show ¬ (8 : Nat) = 7 by decide)]
          rw [elsi]
          rcases l4 with ⟨m1, m2⟩ | ⟨m1, m2, m3⟩
          · exact absurd m1 hd.2
          · exact m3
        · obtain ⟨d1, d2⟩ := old k' i' hd g8 gn
          rw [d2]
          by_cases g7 : k' = 7
          · subst g7
            by_cases gi : i' = i
            · subst gi
              rw [e7]
              simp only [ceX, if_pos]
              rw [elsi]
              rcases l4 with ⟨m1, m2⟩ | ⟨m1, m2, m3⟩
              · rw [if_pos m1, ← m2]; exact l1
              · rw [if_neg m1]; exact l1
            · have c := keepC 7 i' d1 (fun z => gi z.2) (fun z => absurd z.1 (by decide))
              have hj : i' < 14 := by simpa [dmX] using hd
              simp only [ceX, if_pos, if_neg gi, els i' hj gi] at c ⊢
              exact c
          · have c := keepC k' i' d1 (fun z => g7 z.1) g8
            by_cases e8' : k' = 8
            · subst e8'
              have gi : i' ≠ i := fun z => g8 ⟨rfl, z⟩
              have hj : i' < 14 := by simp only [dmX, if_neg (show ¬ (8 : Nat) = 7 by decide), if_pos] at hd; exact hd.1
              simp only [ceX, if_pos, if_neg (show ¬ (8 : Nat) = 7 by decide), if_neg gi, els i' hj gi] at c ⊢
              exact c
            · simp only [ceX, if_neg g7, if_neg e8'] at c ⊢
              rw [ecO k' i' gn]
              exact c
    · intro k' i' k'' i'' hd hd2 hz
      by_cases n1 : k' = kn ∧ i' = jn
      · by_cases n2 : k'' = kn ∧ i'' = jn
        · exact ⟨n1.1.trans n2.1.symm, n1.2.trans n2.2.symm⟩
        · obtain ⟨a1, a2⟩ := n1
          subst a1; subst a2
          rw [adBn] at hz
          by_cases g2 : k'' = 8 ∧ i'' = i
          · obtain ⟨a1, a2⟩ := g2
            subst a1; subst a2
            rw [adB8] at hz
            exact absurd hz.symm (aAq hd2)
          · obtain ⟨d1, d2⟩ := old k'' i'' hd2 g2 n2
            rw [d2] at hz
            have := hlt k'' i'' d1
            omega
      · by_cases n2 : k'' = kn ∧ i'' = jn
        · obtain ⟨a1, a2⟩ := n2
          subst a1; subst a2
          rw [adBn] at hz
          by_cases g2 : k' = 8 ∧ i' = i
          · obtain ⟨a1, a2⟩ := g2
            subst a1; subst a2
            rw [adB8] at hz
            exact absurd hz (aAq hd)
          · obtain ⟨d1, d2⟩ := old k' i' hd g2 n1
            rw [d2] at hz
            have := hlt k' i' d1
            omega
        · by_cases g1 : k' = 8 ∧ i' = i
          · by_cases g2 : k'' = 8 ∧ i'' = i
            · exact ⟨g1.1.trans g2.1.symm, g1.2.trans g2.2.symm⟩
            · obtain ⟨a1, a2⟩ := g1
              subst a1; subst a2
              obtain ⟨d3, d4⟩ := old k'' i'' hd2 g2 n2
              rw [adB8, d4] at hz
              exact absurd hz.symm (aAo k'' i'' d3 g2 hd)
          · by_cases g2 : k'' = 8 ∧ i'' = i
            · obtain ⟨a1, a2⟩ := g2
              subst a1; subst a2
              obtain ⟨d3, d4⟩ := old k' i' hd g1 n1
              rw [adB8, d4] at hz
              exact absurd hz (aAo k' i' d3 g1 hd2)
            · obtain ⟨d1, d2⟩ := old k' i' hd g1 n1
              obtain ⟨d3, d4⟩ := old k'' i'' hd2 g2 n2
              exact h.2.1 k' i' k'' i'' d1 d3 (by rw [← d2, ← d4]; exact hz)
    · intro k' i' hd
      by_cases n1 : k' = kn ∧ i' = jn
      · obtain ⟨a1, a2⟩ := n1
        subst a1; subst a2
        rw [adBn]
        exact hqA
      · by_cases g1 : k' = 8 ∧ i' = i
        · obtain ⟨a1, a2⟩ := g1
          subst a1; subst a2
          rw [adB8]
          simp only [dmX, if_neg (show ¬ (8 : Nat) = 7 by decide), if_pos] at hd
          exact hAA hd.2
        · obtain ⟨d1, d2⟩ := old k' i' hd g1 n1
          rw [d2]
          exact h.2.2 k' i' d1
    · intro j hj
      by_cases gi : j = i
      · subst gi
        simp only [if_pos]
        rw [elsi]
        exact ⟨l2, l3⟩
      · simp only [if_neg gi, els j hj gi]
        exact hlen j hj
    · intro r hr t ht
      have := hq r hr t ht
      omega
end PXN
