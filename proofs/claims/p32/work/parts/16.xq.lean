/-! contracts over the picture out of contracts over few cells -/
theorem KM.conseq {α : Type} {l : Launch} {G : GE} {A : Nat → Prop} {A1 : α → Nat → Prop} {y : MethodName} {cc : ByteArray} {n : Nat} {ret : Option FieldType} {rm : Room} {av : List Value} {P : α → Heap → Prop} {Q : α → Option Value → Heap → Prop} {X : α → String → Heap → Prop} {P' : Heap → Prop} {Q' : Option Value → Heap → Prop} {X' : String → Heap → Prop}
    (h : ∀ x, (∃ H, P' H ∧ P x H ∧ (∀ q, H.size ≤ q → A1 x q) ∧ (∀ q, A1 x q → A q)) → KM l G (A1 x) y cc n ret rm av (P x) (Q x) (X x))
    (hp : ∀ H, P' H → (∀ q, H.size ≤ q → A q) → ∃ x, (∀ q, A1 x q → A q) ∧ (∀ q, H.size ≤ q → A1 x q) ∧ P x H ∧ (∀ v H1, KF (A1 x) H H1 → Q x v H1 → Q' v H1) ∧ (∀ E H1, KF (A1 x) H H1 → X x E H1 → X' E H1)) : KM l G A y cc n ret rm av P' Q' X' := by
  intro p e h1 h2 h3 s m args below hf happ hP hK
  obtain ⟨hav, hE, hA, hP'⟩ := hP
  obtain ⟨x, a1, a2, a3, a4, a5⟩ := hp s.heap hP' hA
  have hM : MetFree l y (headSpec (.code y cc n ret :: gTb) rm) (KP av (A1 x) G (P x)) (fun _ _ _ _ _ => True) (vx_Q (KQc (A1 x) (Q x)) (KXc (A1 x) (X x)) rm.cells rm.slots (A1 x)) := h x ⟨s.heap, hP', a3, a2, a1⟩
  obtain ⟨k, o, b1, b2, b3, b4⟩ := hM p e h1 h2 h3 s m args below hf happ ⟨hav, hE.narrow a1, a2, a3⟩ hK
  have mono : ∀ t : State, va_F (A1 x) s t → va_F A s t ∧ KF (A1 x) s.heap t.heap := fun t hF => ⟨⟨hF.1, fun q g1 g2 => hF.2 q g1 (fun z => g2 (a1 q z))⟩, hF⟩
  refine ⟨k, o, b1, b2, b3, ?_⟩
  rcases b4 with ⟨⟨⟨v, c1, c2⟩, c3⟩, L, c4, c5⟩ | ⟨q, c0, E, ce, L, ⟨c1, c2⟩, c3, c4, c5, c6, c7, c8⟩
  · exact Or.inl ⟨⟨⟨v, c1, a4 v _ (mono _ c3).2 c2⟩, (mono _ c3).1⟩, L, c4, fun z hz => a1 _ (c5 z hz)⟩
  · exact Or.inr ⟨q, c0, E, ce, L, ⟨a5 E _ (mono _ c2).2 c1, (mono _ c2).1⟩, c3, c4, c5, c6, c7, fun z hz => a1 _ (c8 z hz)⟩
/-- the queue r is l -/
def sq (qs : Nat → List Nat) (r : Nat) (t : List Nat) : Nat → List Nat := fun j => if j = r then t else qs j
theorem sq_s {qs : Nat → List Nat} {r : Nat} {t : List Nat} : sq qs r t r = t := if_pos rfl
theorem sq_n {qs : Nat → List Nat} {r j : Nat} {t : List Nat} (h : j ≠ r) : sq qs r t j = qs j := if_neg h
theorem l_mapIns (f : Nat → Nat) (t : List Nat) (k y : Nat) : (t.insertIdx k y).map f = (t.map f).insertIdx k (f y) := by
  apply List.ext_getElem?
  intro j
  rw [List.getElem?_map, List.getElem?_insertIdx, List.getElem?_insertIdx, List.length_map]
  by_cases h1 : j < k
  · rw [if_pos h1, if_pos h1, List.getElem?_map]
  · rw [if_neg h1, if_neg h1]
    by_cases h2 : j = k
    · rw [if_pos h2, if_pos h2]
      split <;> rfl
    · rw [if_neg h2, if_neg h2, List.getElem?_map]
theorem l_mapEr (f : Nat → Nat) (t : List Nat) (k : Nat) : (t.eraseIdx k).map f = (t.map f).eraseIdx k := by
  apply List.ext_getElem?
  intro j
  rw [List.getElem?_map, List.getElem?_eraseIdx, List.getElem?_eraseIdx]
  split <;> rw [List.getElem?_map]
theorem l_memIns {t : List Nat} {k y z : Nat} (h : z ∈ t.insertIdx k y) : z = y ∨ z ∈ t := by
  obtain ⟨j, hj⟩ := List.getElem?_of_mem h
  rw [List.getElem?_insertIdx] at hj
  by_cases h1 : j < k
  · rw [if_pos h1] at hj
    exact Or.inr (List.mem_of_getElem? hj)
  · rw [if_neg h1] at hj
    by_cases h2 : j = k
    · rw [if_pos h2] at hj
      by_cases h3 : j ≤ t.length
      · rw [if_pos h3] at hj
        exact Or.inl (Option.some.inj hj).symm
      · rw [if_neg h3] at hj
        cases hj
    · rw [if_neg h2] at hj
      exact Or.inr (List.mem_of_getElem? hj)
section XQ
variable (l : Launch) (G : GE) (A1 A : Nat → Prop) (ad : Nat → Nat → Nat) (σ : SG) (qs : Nat → List Nat) (nT nW : Nat)
theorem lsX_q {r : Nat} (hr : r < 12) : lsX ad qs nT nW r = (qs r).map (ad 10) := if_pos hr
theorem lsX_12 : lsX ad qs nT nW 12 = (List.range nT).map (ad 10) := by simp [lsX]
theorem lsX_13 : lsX ad qs nT nW 13 = (List.range nW).map (ad 9) := by simp [lsX]
theorem PX.lobj {G : GE} {A : Nat → Prop} {ad : Nat → Nat → Nat} {σ : SG} {qs : Nat → List Nat} {nT nW i : Nat} {H : Heap} (h : PX G A ad σ qs nT nW H) (hi : i < 14) : ∃ (aA : Nat) (mc : Int32), va_at G.1 mcl (ad 7 i, .inr (1, [.int mc, .ref aA, .int (nI (lsX ad qs nT nW i).length)])) H := by
  obtain ⟨aA, n, mc, hLL, -⟩ := h.lst hi
  exact ⟨aA, mc, hLL.1⟩
theorem cQ_size (i : Nat) (hi : i < 14) : KM l G A1 yJx4a65c_size_8abf5 cJx4a65c_size_8abf5 1 (some .int) (rmL 1 0 0) [.ref (ad 7 i)] (PX G A ad σ qs nT nW) (fun v _ => v = some (.int (nI (lsX ad qs nT nW i).length))) (fun _ _ => False) :=
  KM.conseq (α := Nat × Int32) (A1 := fun _ => A1) (fun x _ => cL_size l G A1 (ad 7 i) x.1 x.2 (nI (lsX ad qs nT nW i).length)) (fun H hP hA => by
    obtain ⟨aA, mc, h⟩ := hP.lobj hi
    exact ⟨(aA, mc), fun _ h => h, hA, h, fun v H1 _ h => h, fun _ _ _ h => h⟩)
theorem cQ_isEmpty (i : Nat) (hi : i < 14) : KM l G A1 yJx4a65c_isEmpty_aae02 cJx4a65c_isEmpty_aae02 1 (some .boolean) (rmL 1 0 0) [.ref (ad 7 i)] (PX G A ad σ qs nT nW) (fun v _ => v = some (.int (b2i (decide (nI (lsX ad qs nT nW i).length = 0))))) (fun _ _ => False) :=
  KM.conseq (α := Nat × Int32) (A1 := fun _ => A1) (fun x _ => cL_isEmpty l G A1 (ad 7 i) x.1 x.2 (nI (lsX ad qs nT nW i).length)) (fun H hP hA => by
    obtain ⟨aA, mc, h⟩ := hP.lobj hi
    exact ⟨(aA, mc), fun _ h => h, hA, h, fun v H1 _ h => h, fun _ _ _ h => h⟩)
theorem cQ_get (i k y : Nat) (hi : i < 14) (hy : (lsX ad qs nT nW i)[k]? = some y) : KM l G A1 yJx4a65c_get_915e3 cJx4a65c_get_915e3 2 (some (.object "java/lang/Object")) (rmL 3 0 0) [.ref (ad 7 i), .int (nI k)] (PX G A ad σ qs nT nW) (fun v _ => v = some (.ref y)) (fun _ _ => False) :=
  KM.conseq (α := Nat × Nat × Int32) (A1 := fun _ => A1) (fun x _ => cL_get l G A1 (ad 7 i) x.1 x.2.1 k y x.2.2 (lsX ad qs nT nW i) hy) (fun H hP hA => by
    obtain ⟨aA, n, mc, hLL, -⟩ := hP.lst hi
    exact ⟨(aA, n, mc), fun _ h => h, hA, hLL, fun v H1 _ h => h, fun _ _ _ h => h⟩)
/-- what a list method may change -/
def AL1 (aL aA n sz : Nat) : Nat → Prop := fun q => q = aL ∨ (n ≠ 0 ∧ q = aA) ∨ sz ≤ q
theorem el_q {G : GE} {A : Nat → Prop} {ad : Nat → Nat → Nat} {σ : SG} {qs : Nat → List Nat} {nT nW i aA n : Nat} {H : Heap} (h : PX G A ad σ qs nT nW H) (hap : ∀ k' i', dmO nT nW k' i' → ad k' i' ≠ ad 7 i ∧ (n ≠ 0 → ad k' i' ≠ aA)) {t : Nat} (ht : t < nT) : EL G (AL1 (ad 7 i) aA n H.size) (ad 10 t) H := by
  have hd : dmO nT nW 10 t := by unfold dmO; omega
  refine ⟨⟨4, _, Or.inl rfl, (h.tick ht)⟩, fun z => ?_⟩
  rcases z with z | ⟨z1, z2⟩ | z
  · exact (hap 10 t hd).1 z
  · exact (hap 10 t hd).2 z1 z2
  · exact absurd z (Nat.not_le.mpr (h.tick ht).lt)
theorem cQ_add (r t : Nat) (hr : r < 12) (ht : t < nT) (hlen : (qs r).length ≤ 100) : KM l G A yJx4a65c_add_9ea2d cJx4a65c_add_9ea2d 2 (some .boolean) (rmL 7 1 200) [.ref (ad 7 r), .ref (ad 10 t)] (PX G A ad σ qs nT nW) (fun v H => v = some (.int 1) ∧ PX G A ad σ (sq qs r (qs r ++ [t])) nT nW H) (fun _ _ => False) := by
  refine KM.conseq (α := Nat × Nat × Nat × Int32) (A1 := fun x => AL1 (ad 7 r) x.1 x.2.1 x.2.2.1) (P := fun x H => H.size = x.2.2.1 ∧ LL G (ad 7 r) x.1 x.2.1 x.2.2.2 (lsX ad qs nT nW r) H ∧ (∀ z ∈ lsX ad qs nT nW r, EL G (AL1 (ad 7 r) x.1 x.2.1 x.2.2.1) z H) ∧ EL G (AL1 (ad 7 r) x.1 x.2.1 x.2.2.1) (ad 10 t) H) (X := fun _ _ _ => False) (fun x _ => cL_add l G (AL1 (ad 7 r) x.1 x.2.1 x.2.2.1) (ad 7 r) x.1 x.2.1 x.2.2.1 (ad 10 t) x.2.2.2 (lsX ad qs nT nW r) (by rw [lsX_q _ _ _ _ hr, List.length_map]; exact hlen) (Or.inl rfl) (fun h => Or.inr (Or.inl ⟨h, rfl⟩))) (fun H hP hA => ?_)
  obtain ⟨aA, n, mc, hLL, o1, o2, o3, o4⟩ := hP.lst (show r < 14 by omega)
  have hq : ∀ z ∈ qs r, z < nT := by obtain ⟨_, _, _, _, _, _, _, h⟩ := hP; exact h r hr
  refine ⟨(aA, n, H.size, mc), fun q h => ?_, fun q h => Or.inr (Or.inr h), ⟨rfl, hLL, fun z hz => ?_, el_q hP o3 ht⟩, fun v H1 hk hv => ?_, fun _ _ _ h => h⟩
  · rcases h with rfl | ⟨h1, rfl⟩ | h
    · exact o1
    · exact o2 h1
    · exact hA q h
  · rw [lsX_q _ _ _ _ hr] at hz
    obtain ⟨t', h1, rfl⟩ := List.mem_map.mp hz
    exact el_q hP o3 (hq t' h1)
  · obtain ⟨rfl, aA', n', hL2, hn', hor⟩ := hv
    refine ⟨rfl, o4 H1 aA' n' (mc + 1) (sq qs r (qs r ++ [t])) (fun j hj => sq_n hj) ?_ (hor.elim Or.inl (fun h => Or.inr (Or.inl h))) (fun _ => ?_) hk (fun _ z hz => ?_)⟩
    · rw [lsX_q _ _ _ _ hr, sq_s, List.map_append]
      rw [lsX_q _ _ _ _ hr] at hL2
      exact hL2
    · rcases hor with ⟨h1, rfl⟩ | h1
      · exact o2 h1
      · exact hA _ h1
    · rw [sq_s] at hz
      rcases List.mem_append.mp hz with h | h
      · exact hq z h
      · rw [List.mem_singleton.mp h]
        exact ht
theorem cQ_addAt (r k t : Nat) (hr : r < 12) (hk : k ≤ (qs r).length) (ht : t < nT) (hlen : (qs r).length ≤ 100) : KM l G A yJx4a65c_add_7a177 cJx4a65c_add_7a177 5 none (rmL 7 1 200) [.ref (ad 7 r), .int (nI k), .ref (ad 10 t)] (PX G A ad σ qs nT nW) (fun v H => v = none ∧ PX G A ad σ (sq qs r ((qs r).insertIdx k t)) nT nW H) (fun _ _ => False) := by
  refine KM.conseq (α := Nat × Nat × Nat × Int32) (A1 := fun x => AL1 (ad 7 r) x.1 x.2.1 x.2.2.1) (P := fun x H => H.size = x.2.2.1 ∧ LL G (ad 7 r) x.1 x.2.1 x.2.2.2 (lsX ad qs nT nW r) H ∧ (∀ z ∈ lsX ad qs nT nW r, EL G (AL1 (ad 7 r) x.1 x.2.1 x.2.2.1) z H) ∧ EL G (AL1 (ad 7 r) x.1 x.2.1 x.2.2.1) (ad 10 t) H) (X := fun _ _ _ => False) (fun x _ => cL_addAt l G (AL1 (ad 7 r) x.1 x.2.1 x.2.2.1) (ad 7 r) x.1 x.2.1 x.2.2.1 (ad 10 t) k x.2.2.2 (lsX ad qs nT nW r) (by rw [lsX_q _ _ _ _ hr, List.length_map]; exact hlen) (Or.inl rfl) (fun h => Or.inr (Or.inl ⟨h, rfl⟩)) (by rw [lsX_q _ _ _ _ hr, List.length_map]; exact hk)) (fun H hP hA => ?_)
  obtain ⟨aA, n, mc, hLL, o1, o2, o3, o4⟩ := hP.lst (show r < 14 by omega)
  have hq : ∀ z ∈ qs r, z < nT := by obtain ⟨_, _, _, _, _, _, _, h⟩ := hP; exact h r hr
  refine ⟨(aA, n, H.size, mc), fun q h => ?_, fun q h => Or.inr (Or.inr h), ⟨rfl, hLL, fun z hz => ?_, el_q hP o3 ht⟩, fun v H1 hkf hv => ?_, fun _ _ _ h => h⟩
  · rcases h with rfl | ⟨h1, rfl⟩ | h
    · exact o1
    · exact o2 h1
    · exact hA q h
  · rw [lsX_q _ _ _ _ hr] at hz
    obtain ⟨t', h1, rfl⟩ := List.mem_map.mp hz
    exact el_q hP o3 (hq t' h1)
  · obtain ⟨rfl, aA', n', hL2, hn', hor⟩ := hv
    refine ⟨rfl, o4 H1 aA' n' (mc + 1) (sq qs r ((qs r).insertIdx k t)) (fun j hj => sq_n hj) ?_ (hor.elim Or.inl (fun h => Or.inr (Or.inl h))) (fun _ => ?_) hkf (fun _ z hz => ?_)⟩
    · rw [lsX_q _ _ _ _ hr, sq_s, l_mapIns]
      rw [lsX_q _ _ _ _ hr] at hL2
      exact hL2
    · rcases hor with ⟨h1, rfl⟩ | h1
      · exact o2 h1
      · exact hA _ h1
    · rw [sq_s] at hz
      rcases l_memIns hz with h | h
      · rw [h]; exact ht
      · exact hq z h
theorem cQ_remove (r k t : Nat) (hr : r < 12) (hk : (qs r)[k]? = some t) : KM l G A yJx4a65c_remove_915e3 cJx4a65c_remove_915e3 4 (some (.object "java/lang/Object")) (rmL 3 0 0) [.ref (ad 7 r), .int (nI k)] (PX G A ad σ qs nT nW) (fun v H => v = some (.ref (ad 10 t)) ∧ PX G A ad σ (sq qs r ((qs r).eraseIdx k)) nT nW H) (fun _ _ => False) := by
  refine KM.conseq (α := Nat × Nat × Nat × Int32) (A1 := fun x => AL1 (ad 7 r) x.1 x.2.1 x.2.2.1) (P := fun x H => LL G (ad 7 r) x.1 x.2.1 x.2.2.2 (lsX ad qs nT nW r) H ∧ (∀ z ∈ lsX ad qs nT nW r, EL G (AL1 (ad 7 r) x.1 x.2.1 x.2.2.1) z H)) (X := fun _ _ _ => False) (fun x _ => cL_remove l G (AL1 (ad 7 r) x.1 x.2.1 x.2.2.1) (ad 7 r) x.1 x.2.1 k x.2.2.2 (lsX ad qs nT nW r) (Or.inl rfl) (fun h => Or.inr (Or.inl ⟨h, rfl⟩)) (ad 10 t) (by rw [lsX_q _ _ _ _ hr, List.getElem?_map, hk]; rfl)) (fun H hP hA => ?_)
  obtain ⟨aA, n, mc, hLL, o1, o2, o3, o4⟩ := hP.lst (show r < 14 by omega)
  have hq : ∀ z ∈ qs r, z < nT := by obtain ⟨_, _, _, _, _, _, _, h⟩ := hP; exact h r hr
  refine ⟨(aA, n, H.size, mc), fun q h => ?_, fun q h => Or.inr (Or.inr h), ⟨hLL, fun z hz => ?_⟩, fun v H1 hkf hv => ?_, fun _ _ _ h => h⟩
  · rcases h with rfl | ⟨h1, rfl⟩ | h
    · exact o1
    · exact o2 h1
    · exact hA q h
  · rw [lsX_q _ _ _ _ hr] at hz
    obtain ⟨t', h1, rfl⟩ := List.mem_map.mp hz
    exact el_q hP o3 (hq t' h1)
  · obtain ⟨rfl, hL2⟩ := hv
    have hn0 : n ≠ 0 := by
      have h1 := hLL.2.1
      rw [lsX_q _ _ _ _ hr, List.length_map] at h1
      have h2 := (List.getElem?_eq_some_iff.mp hk).1
      omega
    refine ⟨rfl, o4 H1 aA n (mc + 1) (sq qs r ((qs r).eraseIdx k)) (fun j hj => sq_n hj) ?_ (Or.inl ⟨hn0, rfl⟩) o2 hkf (fun _ z hz => ?_)⟩
    · rw [lsX_q _ _ _ _ hr, sq_s, l_mapEr]
      rw [lsX_q _ _ _ _ hr] at hL2
      exact hL2
    · rw [sq_s] at hz
      exact hq z (List.mem_of_mem_eraseIdx hz)
theorem cQ_clear (r : Nat) (hr : r < 12) : KM l G A yJx4a65c_clear_da8c8 cJx4a65c_clear_da8c8 4 none (rmL 1 0 0) [.ref (ad 7 r)] (PX G A ad σ qs nT nW) (fun v H => v = none ∧ PX G A ad σ (sq qs r []) nT nW H) (fun _ _ => False) := by
  refine KM.conseq (α := Nat × Nat × Nat × Int32) (A1 := fun x => AL1 (ad 7 r) x.1 x.2.1 x.2.2.1) (P := fun x H => LL G (ad 7 r) x.1 x.2.1 x.2.2.2 (lsX ad qs nT nW r) H) (X := fun _ _ _ => False) (fun x _ => cL_clear l G (AL1 (ad 7 r) x.1 x.2.1 x.2.2.1) (ad 7 r) x.1 x.2.1 x.2.2.2 (lsX ad qs nT nW r) (Or.inl rfl) (fun h => Or.inr (Or.inl ⟨h, rfl⟩))) (fun H hP hA => ?_)
  obtain ⟨aA, n, mc, hLL, o1, o2, o3, o4⟩ := hP.lst (show r < 14 by omega)
  refine ⟨(aA, n, H.size, mc), fun q h => ?_, fun q h => Or.inr (Or.inr h), hLL, fun v H1 hkf hv => ?_, fun _ _ _ h => h⟩
  · rcases h with rfl | ⟨h1, rfl⟩ | h
    · exact o1
    · exact o2 h1
    · exact hA q h
  · obtain ⟨rfl, hL2⟩ := hv
    refine ⟨rfl, o4 H1 aA n (mc + 1) (sq qs r []) (fun j hj => sq_n hj) (by rw [lsX_q _ _ _ _ hr, sq_s]; exact hL2) ?_ o2 hkf (fun _ z hz => by rw [sq_s] at hz; cases hz)⟩
    by_cases hn : n = 0
    · exact Or.inr (Or.inr hn)
    · exact Or.inl ⟨hn, rfl⟩
end XQ
