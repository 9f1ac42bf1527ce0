section STEPS4
variable {G : GE} {A : Nat → Prop} {ad : Nat → Nat → Nat} {σ τ τ' : SG} {qs : Nat → List Nat} {nT nW f D N : Nat} {H : Heap} {v : Option Value} {x : Int32} {E : String}
theorem sx_whereIs {vt : Int32} (hR : RR0 σ qs nT nW f τ D N) (hI : RI τ nT) (hx : xP_whereIs G A ad σ qs nT nW vt E H) (hc : cm_whereIs τ nT vt x τ') : E = xIO ∧ EXT G A ad H N 1 τ' := by
  obtain ⟨hP, rfl, a1⟩ := hx
  rcases hc with ⟨h1, rfl⟩ | ⟨t', ht', e, rfl, rfl⟩
  · exact ⟨rfl, hR.ext hI hP 1⟩
  · exact absurd ⟨t', ht', e⟩ a1
theorem sx_seen {vt : Int32} (hR : RR0 σ qs nT nW f τ D N) (hI : RI τ nT) (hx : xP_seen G A ad σ qs nT nW vt E H) (hc : cm_seen τ nT vt x τ') : E = xIO ∧ EXT G A ad H N 1 τ' := by
  obtain ⟨hP, rfl, a1⟩ := hx
  rcases hc with ⟨h1, rfl⟩ | ⟨t', ht', e, rfl, rfl⟩
  · exact ⟨rfl, hR.ext hI hP 1⟩
  · exact absurd ⟨t', ht', e⟩ a1
theorem sx_inside {vr : Int32} (hR : RR0 σ qs nT nW f τ D N) (hI : RI τ nT) (hx : xP_inside G A ad σ qs nT nW vr E H) (hc : cm_inside τ nT vr x τ') : E = xIO ∧ EXT G A ad H N 1 τ' := by
  obtain ⟨hP, rfl, a1⟩ := hx
  rcases hc with ⟨h1, rfl⟩ | ⟨t', ht', e, rfl, rfl⟩
  · exact ⟨rfl, hR.ext hI hP 1⟩
  · exact absurd ⟨t', ht', e⟩ a1
theorem sx_views {vw : Int32} (hR : RR0 σ qs nT nW f τ D N) (hI : RI τ nT) (hx : xP_views G A ad σ qs nT nW vw E H) (hc : cm_views τ nW vw x τ') : E = xIO ∧ EXT G A ad H N 1 τ' := by
  obtain ⟨hP, rfl, a1⟩ := hx
  rcases hc with ⟨h1, rfl⟩ | ⟨t', ht', e, rfl, rfl⟩
  · exact ⟨rfl, hR.ext hI hP 1⟩
  · exact absurd ⟨t', ht', e⟩ a1
theorem sx_queued {vr vp : Int32} (hR : RR0 σ qs nT nW f τ D N) (hI : RI τ nT) (hx : xP_queued G A ad σ qs nT nW vr vp E H) (hc : cm_queued τ nT vr vp x τ') : E = xIO ∧ EXT G A ad H N 1 τ' := by
  obtain ⟨hP, hx⟩ := hx
  rcases hc with ⟨h1, rfl⟩ | ⟨t', ht', e, e2, rfl, rfl⟩
  · rcases hx with ⟨rfl, a1⟩ | ⟨rfl, a1⟩
    · exact ⟨rfl, hR.ext hI hP 1⟩
    · exact ⟨rfl, hR.ext hI hP 1⟩
  · rcases hx with ⟨rfl, a1⟩ | ⟨rfl, a1⟩
    · exact absurd ⟨t', ht', e⟩ a1
    · exact absurd e2 a1
theorem sx_titleAt {vw vp : Int32} (hR : RR0 σ qs nT nW f τ D N) (hI : RI τ nT) (hx : xP_titleAt G A ad σ qs nT nW vw vp E H) (hc : cm_titleAt τ nW vw vp x τ') : E = xIO ∧ EXT G A ad H N 1 τ' := by
  obtain ⟨hP, hx⟩ := hx
  rcases hc with ⟨h1, rfl⟩ | ⟨u, h, b, fe, hu, e, e2, -⟩
  · rcases hx with ⟨rfl, a1⟩ | ⟨rfl, a1⟩
    · exact ⟨rfl, hR.ext hI hP 1⟩
    · exact ⟨rfl, hR.ext hI hP 1⟩
  · rcases hx with ⟨rfl, a1⟩ | ⟨rfl, a1⟩
    · exact absurd ⟨u, hu, e⟩ a1
    · exact absurd e2 a1
theorem sx_money {hh : Int32} (hR : RR0 σ qs nT nW f τ D N) (hI : RI τ nT) (hx : xP_money G A ad σ qs nT nW hh E H) (hc : cm_money τ hh x τ') : E = xIO ∧ EXT G A ad H N 1 τ' := by
  obtain ⟨hP, rfl, a1⟩ := hx
  rw [hs_iff] at a1
  rcases hc with ⟨h1, rfl⟩ | ⟨h1, rfl, rfl⟩ | ⟨h, hh4, e, rfl, rfl⟩
  · exact ⟨rfl, hR.ext hI hP 1⟩
  · exact absurd (Or.inl h1) a1
  · exact absurd (Or.inr ⟨h, hh4, e⟩) a1
theorem sx_moneyBySeen {hh : Int32} (hR : RR0 σ qs nT nW f τ D N) (hI : RI τ nT) (hx : xP_moneyBySeen G A ad σ qs nT nW hh f E H) (hc : cm_moneyBySeen τ hh x τ') : E = xIO ∧ EXT G A ad H N 1 τ' := sx_money hR hI (show xP_money G A ad σ qs nT nW hh E H from hx) hc
end STEPS4
