/-! THE PICTURE of the law's arrays: j of the fourteen stand -/
def szL : Nat → Nat := fun f => match f with
  | 0 => 7
  | 1 => 4
  | 2 => 6
  | 3 => 60
  | 4 => 60
  | 5 => 60
  | 6 => 60
  | 7 => 60
  | 8 => 12
  | 9 => 10
  | 10 => 10
  | 11 => 10
  | 12 => 10
  | 13 => 5
  | _ => 0
def ceL (G : GE) (μ : SG) : Nat → Nat → va_E := fun k _ => .inl (G.2.1 0, szL k, .inl (μ k))
def dmL (j : Nat) (k i : Nat) : Prop := k < j ∧ i = 0
def PL (G : GE) (A : Nat → Prop) (al : Nat → Nat) (μ : SG) (j : Nat) (H : Heap) : Prop := FAM G.1 mcl (fun k _ => al k) (dmL j) (ceL G μ) A H
def McL (al : Nat → Nat) (q : Nat) : Prop := ∃ f, f < 14 ∧ q = al f
section PLS
variable {G : GE} {A : Nat → Prop} {al : Nat → Nat} {μ : SG} {H H1 : Heap} {j : Nat}
theorem PL.arr (h : PL G A al μ j H) (f : Nat) (hf : f < j) : va_at G.1 mcl (al f, .inl (G.2.1 0, szL f, .inl (μ f))) H := h.1 f 0 ⟨hf, rfl⟩
theorem PL.old (h : PL G A al μ j H) (hk : KF (fun z => H.size ≤ z) H H1) : PL G A al μ j H1 := FAM.keep h hk
theorem PL.oarr (h : PL G A al μ j H) (f : Nat) (hf : f < j) : A (al f) := h.2.2 f 0 ⟨hf, rfl⟩
theorem PL.put (h : PL G A al μ j H) (f k : Nat) {x : Int32} (hf : f < j) (he : va_at G.1 mcl (al f, .inl (G.2.1 0, szL f, .inl (upd (μ f) k x))) H1) (oq : ∀ q, q ≠ al f → H1[q]? = H[q]?) : PL G A al (up μ f k x) j H1 := by
  have e : up μ f k x f = upd (μ f) k x := funext fun j => by simp [up, upd]
  refine FAM.put (k := f) (i := 0) h ⟨hf, rfl⟩ ?_ oq (fun k' i' hne hd => ?_)
  · show va_at G.1 mcl (al f, .inl (G.2.1 0, szL f, .inl (up μ f k x f))) H1
    rw [e]; exact he
  · have hk' : k' ≠ f := fun z => hne ⟨z, hd.2⟩
    unfold ceL
    rw [show up μ f k x k' = μ k' from funext fun j => by unfold up; exact if_neg (fun z => hk' z.1)]
theorem PL.any {B : Nat → Prop} (h : PL G A al μ 14 H) (hB : ∀ q, McL al q → B q) : PL G B al μ 14 H :=
  ⟨h.1, h.2.1, fun k i hd => hB _ ⟨k, hd.1, rfl⟩⟩
theorem PL.lt (h : PL G A al μ 14 H) {q : Nat} (hq : McL al q) : q < H.size := by
  obtain ⟨f, hf, rfl⟩ := hq
  exact (h.1 f 0 ⟨hf, rfl⟩).lt
theorem PL.keptL {A1 : Nat → Prop} (h : PL G A al μ 14 H) (k : KF A1 H H1) (hA : ∀ q, McL al q → ¬ A1 q) : PL G A al μ 14 H1 :=
  FAM.kept h k (fun f i hd => hA _ ⟨f, hd.1, rfl⟩)
theorem PL.same {μ' : SG} (h : PL G A al μ 14 H) (e : ∀ f, f < 14 → ∀ i, μ' f i = μ f i) : PL G A al μ' 14 H :=
  FAM.ext h (fun _ _ h => h) (fun _ _ _ => rfl) (fun k i hd => by
    unfold ceL
    rw [show μ' k = μ k from funext (e k hd.1)])
/-- one array more -/
theorem PL.new (h : PL G A al μ j H) {al' : Nat → Nat} {q : Nat} (hk : KF (fun z => H.size ≤ z) H H1) (hq : H.size ≤ q) (hA : A q) (h0 : ∀ i, μ j i = 0) (he : va_at G.1 mcl (q, .inl (G.2.1 0, szL j, .inl (fun _ => 0))) H1) (ea : ∀ k, k < j → al' k = al k) (ej : al' j = q) : PL G A al' μ (j + 1) H1 := by
  have hn := FAM.new (k := j) (i := 0) h hk hq hA he
  refine FAM.ext hn (fun k i hd => ?_) (fun k i hd => ?_) (fun k i hd => ?_)
  · obtain ⟨h1, h2⟩ := hd
    by_cases c : k = j
    · exact Or.inr ⟨c, h2⟩
    · exact Or.inl ⟨by omega, h2⟩
  · obtain ⟨h1, h2⟩ := hd
    by_cases c : k = j
    · subst c; simp only [adN]; rw [if_pos ⟨trivial, h2⟩, ej]
    · simp only [adN]; rw [if_neg (fun z => c z.1)]; exact ea k (by omega)
  · obtain ⟨h1, h2⟩ := hd
    by_cases c : k = j
    · subst c; rw [if_pos ⟨rfl, h2⟩]; unfold ceL; rw [show μ k = fun _ => 0 from funext h0]
    · rw [if_neg (fun z => c z.1)]
end PLS
theorem up_id {μ : SG} {f i : Nat} : up μ f i (μ f i) = μ := by
  funext g j
  unfold up
  split
  · next h => rw [h.1, h.2]
  · rfl
