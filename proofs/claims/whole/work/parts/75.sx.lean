section STEPS4
variable {G : GE} {A : Nat → Prop} {ad : Nat → Nat → Nat} {σ τ τ' : SG} {qs : Nat → List Nat} {nT nW f D N : Nat} {H : Heap} {v : Option Value} {x : Int32} {E : String}
theorem sx_whereIs {vt : Int32} (hR : RR0 σ qs nT nW f τ D N) (hI : RI τ nT) (hx : xP_whereIs G A ad σ qs nT nW vt E H) (hc : cm_whereIs τ nT vt x τ') : E = xIO ∧ EXT G A ad H N 1 τ' := by
  obtain ⟨hP, rfl, a1⟩ := hx
  rcases hc with ⟨h1, rfl⟩ | ⟨t', ht', e, rfl, rfl⟩
  · exact ⟨rfl, hR.ext hI hP 1⟩
  · exact absurd ⟨t', ht', e⟩ a1
theorem sx_seen {vt : Int32} (hR : RR0 σ qs nT nW f τ D N) (hI : RI τ nT) (hx : xP_seen G A ad σ qs nT nW vt E H) (hc : cm_seen τ nT vt x τ') : E = xIO ∧ EXT G A ad H N 1 τ' := by
  obtain ⟨hP, rfl, a1⟩ := hx
  rcases hc with ⟨h1, rfl⟩ | ⟨t', ht', e, rfl, rfl⟩
  · exact ⟨rfl, hR.ext hI hP 1⟩
  · exact absurd ⟨t', ht', e⟩ a1
theorem sx_inside {vr : Int32} (hR : RR0 σ qs nT nW f τ D N) (hI : RI τ nT) (hx : xP_inside G A ad σ qs nT nW vr E H) (hc : cm_inside τ nT vr x τ') : E = xIO ∧ EXT G A ad H N 1 τ' := by
  obtain ⟨hP, rfl, a1⟩ := hx
  rcases hc with ⟨h1, rfl⟩ | ⟨t', ht', e, rfl, rfl⟩
  · exact ⟨rfl, hR.ext hI hP 1⟩
  · exact absurd ⟨t', ht', e⟩ a1
theorem sx_views {vw : Int32} (hR : RR0 σ qs nT nW f τ D N) (hI : RI τ nT) (hx : xP_views G A ad σ qs nT nW vw E H) (hc : cm_views τ nW vw x τ') : E = xIO ∧ EXT G A ad H N 1 τ' := by
  obtain ⟨hP, rfl, a1⟩ := hx
  rcases hc with ⟨h1, rfl⟩ | ⟨t', ht', e, rfl, rfl⟩
  · exact ⟨rfl, hR.ext hI hP 1⟩
  · exact absurd ⟨t', ht', e⟩ a1
theorem sx_queued {vr vp : Int32} (hR : RR0 σ qs nT nW f τ D N) (hI : RI τ nT) (hx : xP_queued G A ad σ qs nT nW vr vp E H) (hc : cm_queued τ nT vr vp x τ') : E = xIO ∧ EXT G A ad H N 1 τ' := by
  obtain ⟨hP, hx⟩ := hx
  rcases hc with ⟨h1, rfl⟩ | ⟨t', ht', e, e2, rfl, rfl⟩
  · rcases hx with ⟨rfl, a1⟩ | ⟨rfl, a1⟩
    · exact ⟨rfl, hR.ext hI hP 1⟩
    · exact ⟨rfl, hR.ext hI hP 1⟩
  · rcases hx with ⟨rfl, a1⟩ | ⟨rfl, a1⟩
    · exact absurd ⟨t', ht', e⟩ a1
    · exact absurd e2 a1
theorem sx_titleAt {vw vp : Int32} (hR : RR0 σ qs nT nW f τ D N) (hI : RI τ nT) (hx : xP_titleAt G A ad σ qs nT nW vw vp E H) (hc : cm_titleAt τ nW vw vp x τ') : E = xIO ∧ EXT G A ad H N 1 τ' := by
  obtain ⟨hP, hx⟩ := hx
  rcases hc with ⟨h1, rfl⟩ | ⟨u, h, b, fe, hu, e, e2, -⟩
  · rcases hx with ⟨rfl, a1⟩ | ⟨rfl, a1⟩
    · exact ⟨rfl, hR.ext hI hP 1⟩
    · exact ⟨rfl, hR.ext hI hP 1⟩
  · rcases hx with ⟨rfl, a1⟩ | ⟨rfl, a1⟩
    · exact absurd ⟨u, hu, e⟩ a1
    · exact absurd e2 a1
theorem sx_money {hh : Int32} (hR : RR0 σ qs nT nW f τ D N) (hI : RI τ nT) (hx : xP_money G A ad σ qs nT nW hh E H) (hc : cm_money τ hh x τ') : E = xIO ∧ EXT G A ad H N 1 τ' := by
  obtain ⟨hP, rfl, a1⟩ := hx
  rw [hs_iff] at a1
  rcases hc with ⟨h1, rfl⟩ | ⟨h1, rfl, rfl⟩ | ⟨h, hh4, e, rfl, rfl⟩
  · exact ⟨rfl, hR.ext hI hP 1⟩
  · exact absurd (Or.inl h1) a1
  · exact absurd (Or.inr ⟨h, hh4, e⟩) a1
theorem sx_moneyBySeen {hh : Int32} (hR : RR0 σ qs nT nW f τ D N) (hI : RI τ nT) (hx : xP_moneyBySeen G A ad σ qs nT nW hh f E H) (hc : cm_moneyBySeen τ hh x τ') : E = xIO ∧ EXT G A ad H N 1 τ' := sx_money hR hI (show xP_money G A ad σ qs nT nW hh E H from hx) hc
end STEPS4
/-! THE LAW'S WORLD: the class, the reference, the answer cell -/
def McL (adm : Nat → Nat) (q : Nat) : Prop := ∃ f, dmM f 0 ∧ q = adm f
def AxL (B o : Nat) (adm : Nat → Nat) (q : Nat) : Prop := B ≤ q ∧ q ≠ o ∧ ¬ McL adm q
def LINV (G : GE) (B o a0 : Nat) (adm : Nat → Nat) (N : Nat) (H : Heap) : Prop :=
  ∃ (ad : Nat → Nat → Nat) (σ τ : SG) (qs : Nat → List Nat) (nT nW f D : Nat) (y : Int64), ad 0 0 = a0 ∧ PX G (AxL B o adm) ad σ qs nT nW H ∧ PM G (McL adm) adm τ H ∧ va_at G.1 mcl (o, LO G y) H ∧ RR0 σ qs nT nW f τ D N ∧ RI τ nT
def LFX (B o : Nat) (adm : Nat → Nat) : Prop := B ≤ o ∧ ¬ McL adm o ∧ ∀ q, McL adm q → B ≤ q
theorem PM.any {G : GE} {A B : Nat → Prop} {ad : Nat → Nat} {τ : SG} {H : Heap} (h : PM G A ad τ H) (hB : ∀ q, McL ad q → B q) : PM G B ad τ H :=
  ⟨h.1, h.2.1, fun k i hd => hB _ ⟨k, by obtain ⟨h1, h2⟩ := hd; subst h2; exact ⟨h1, rfl⟩, rfl⟩⟩
theorem PM.lt {G : GE} {A : Nat → Prop} {ad : Nat → Nat} {τ : SG} {H : Heap} (h : PM G A ad τ H) {q : Nat} (hq : McL ad q) : q < H.size := by
  obtain ⟨f, hf, rfl⟩ := hq
  exact (h.1 f 0 hf).lt
theorem PM.keptL {G : GE} {A A1 : Nat → Prop} {ad : Nat → Nat} {τ : SG} {H H1 : Heap} (h : PM G A ad τ H) (k : KF A1 H H1) (hA : ∀ q, McL ad q → ¬ A1 q) : PM G A ad τ H1 :=
  FAM.kept h k (fun f i hd => hA _ ⟨f, by obtain ⟨h1, h2⟩ := hd; subst h2; exact ⟨h1, rfl⟩, rfl⟩)
theorem AxL.new {G : GE} {A : Nat → Prop} {B o : Nat} {adm : Nat → Nat} {τ : SG} {H : Heap} {y : Int64} (hM : PM G A adm τ H) (ho : va_at G.1 mcl (o, LO G y) H) (hB : B ≤ H.size) (q : Nat) (hq : H.size ≤ q) : AxL B o adm q :=
  ⟨Nat.le_trans hB hq, fun z => by have : o < H.size := ho.lt; omega, fun z => by have := hM.lt z; omega⟩
/-- the places of the law's numbers -/
theorem i4_1 (i : Nat) : nI (4 * i) + 1 = nI (4 * i + 1) := nI_1 _
theorem i4_2 (i : Nat) : nI (4 * i) + 2 = nI (4 * i + 2) := nI_addN _ 2
theorem i4_3 (i : Nat) : nI (4 * i) + 3 = nI (4 * i + 3) := nI_addN _ 3
theorem i4_4 (i : Nat) : nI (4 * i) + Int32.ofInt 4 = nI (4 * (i + 1)) := nI_addN _ 4
theorem lcmp0 (x : Int64) : lg_cmp x x = 0 := by simp [lg_cmp]
