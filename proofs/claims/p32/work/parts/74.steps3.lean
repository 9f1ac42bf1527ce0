section STEPS3
variable {G : GE} {A : Nat → Prop} {ad : Nat → Nat → Nat} {σ τ τ' : SG} {qs : Nat → List Nat} {nT nW f D N : Nat} {H : Heap} {v : Option Value} {x : Int32} {E : String}
theorem r3i {r : Nat} (hr : r < 12) : nI r / 3 = nI (r / 3) := r3 r hr
theorem r3e {a b : Nat} (ha : a < 12) (hb : b < 12) : nI (a / 3) = nI (b / 3) ↔ nI a / 3 = nI b / 3 := by rw [r3i ha, r3i hb]
theorem st_addWork {vr : Int32} (hR : RR0 σ qs nT nW f τ D N) (hI : RI τ nT) (hq : qP_addWork G A ad σ qs nT nW vr v H) (hc : cm_addWork τ nW vr x τ') : OKT G A ad H N v x τ' := by
  obtain ⟨r, hr, rfl, hn, rfl, q, hP⟩ := hq
  rcases hc with ⟨h1, rfl⟩ | ⟨h1, h2, rfl⟩ | ⟨r', hr', e, h1, rfl, rfl⟩
  · exact absurd ⟨r, hr, rfl⟩ h1
  · omega
  · obtain rfl := nIe (by omega) (by omega) e
    exact (pr_addWork hr hn hR).okt (hI.co (by simp [agr, up, thr])) (by simp [up, thr]) (by simp [adN]) hP rfl
theorem sx_addWork {vr : Int32} (hR : RR0 σ qs nT nW f τ D N) (hI : RI τ nT) (hx : xP_addWork G A ad σ qs nT nW vr E H) (hc : cm_addWork τ nW vr x τ') : (E = xIO ∧ EXT G A ad H N 1 τ') ∨ (E = xIS ∧ EXT G A ad H N 2 τ') := by
  obtain ⟨hP, hx⟩ := hx
  rcases hc with ⟨h1, rfl⟩ | ⟨h1, h2, rfl⟩ | ⟨r', hr', e, h1, rfl, rfl⟩
  · rcases hx with ⟨rfl, a1⟩ | ⟨rfl, a1, a2⟩
    · exact Or.inl ⟨rfl, hR.ext hI hP 1⟩
    · exact absurd a1 h1
  · rcases hx with ⟨rfl, a1⟩ | ⟨rfl, a1, a2⟩
    · exact absurd h1 a1
    · exact Or.inr ⟨rfl, hR.ext hI hP 2⟩
  · rcases hx with ⟨rfl, a1⟩ | ⟨rfl, a1, a2⟩
    · exact absurd ⟨r', hr', e⟩ a1
    · omega
theorem wk7 (hR : RR0 σ qs nT nW f τ D N) {u : Nat} (hu : u < nW) : τ 17 u = σ 18 u ∧ τ 18 u = σ 19 u ∧ τ 19 u = σ 20 u ∧ τ 20 u = σ 21 u ∧ τ 21 u = σ 22 u ∧ τ 22 u = σ 23 u ∧ τ 23 u = σ 24 u := hR.2.2.2.2.2.2.1 u hu
theorem st_hang {vw vr : Int32} (hR : RR0 σ qs nT nW f τ D N) (hI : RI τ nT) (hq : qP_hang G A ad σ qs nT nW vw vr v H) (hc : cm_hang τ nW vw vr x τ') : OKT G A ad H N v x τ' := by
  obtain ⟨u, r, b, hu, rfl, hr, rfl, hb, eb, h3, rfl, hP⟩ := hq
  have h80 := hR.n80
  have e18 := (wk7 hR hu).2.1
  rcases hc with ⟨h1, rfl⟩ | ⟨u', r', hu', e, hr', e', h1, rfl⟩ | ⟨u', r', hu', e, hr', e', h1, rfl, rfl⟩
  · exact absurd ⟨⟨u, hu, rfl⟩, ⟨r, hr, rfl⟩⟩ h1
  · obtain rfl := nIe (by omega) (by omega) e
    obtain rfl := nIe (by omega) (by omega) e'
    exact absurd (by rw [e18, eb]; exact ((r3e hr hb).mp h3).symm) h1
  · obtain rfl := nIe (by omega) (by omega) e
    obtain rfl := nIe (by omega) (by omega) e'
    exact (pr_hang hu hr hR).okt (hI.co (by simp [agr, up, thr])) (by simp [up, thr]) rfl hP (by rw [thr_o (by decide), e18])
theorem sx_hang {vw vr : Int32} (hR : RR0 σ qs nT nW f τ D N) (hI : RI τ nT) (hx : xP_hang G A ad σ qs nT nW vw vr E H) (hc : cm_hang τ nW vw vr x τ') : (E = xIO ∧ EXT G A ad H N 1 τ') ∨ (E = xIS ∧ EXT G A ad H N 2 τ') := by
  obtain ⟨hP, hx⟩ := hx
  have h80 := hR.n80
  rcases hc with ⟨h1, rfl⟩ | ⟨u', r', hu', e, hr', e', h1, rfl⟩ | ⟨u', r', hu', e, hr', e', h1, rfl, rfl⟩
  · rcases hx with ⟨rfl, a1⟩ | ⟨rfl, a1⟩ | ⟨rfl, u, r, b, hu, e2, hr, e3, -⟩
    · exact Or.inl ⟨rfl, hR.ext hI hP 1⟩
    · exact Or.inl ⟨rfl, hR.ext hI hP 1⟩
    · exact absurd ⟨⟨u, hu, e2⟩, ⟨r, hr, e3⟩⟩ h1
  · rcases hx with ⟨rfl, a1⟩ | ⟨rfl, a1⟩ | ⟨rfl, -⟩
    · exact absurd ⟨u', hu', e⟩ a1
    · exact absurd ⟨r', hr', e'⟩ a1
    · exact Or.inr ⟨rfl, hR.ext hI hP 2⟩
  · rcases hx with ⟨rfl, a1⟩ | ⟨rfl, a1⟩ | ⟨rfl, u, r, b, hu, e2, hr, e3, hb, eb, a1⟩
    · exact absurd ⟨u', hu', e⟩ a1
    · exact absurd ⟨r', hr', e'⟩ a1
    · obtain rfl := nIe (by omega) (by omega) (e2.symm.trans e)
      obtain rfl := nIe (by omega) (by omega) (e3.symm.trans e')
      rw [(wk7 hR hu).2.1, eb] at h1
      exact absurd ((r3e hr hb).mpr h1.symm) a1
theorem fee_of {vv : Int32} (h : ¬ vv < 0 ∧ vv ≤ 1000) : ∃ fe, fe ≤ 1000 ∧ vv = nI fe := by
  obtain ⟨j, hj, e⟩ := ix_of (n := 1001) (by decide) h.1 (Int32.lt_of_le_of_lt h.2 (by decide))
  exact ⟨j, by omega, e⟩
theorem st_lend {vw vr vv : Int32} (hR : RR0 σ qs nT nW f τ D N) (hI : RI τ nT) (hq : qP_lend G A ad σ qs nT nW vw vr vv v H) (hc : cm_lend τ nW vw vr vv x τ') : OKT G A ad H N v x τ' := by
  obtain ⟨u, r, hu, rfl, hr, rfl, hv, ⟨l1, l2⟩, rfl, hP⟩ := hq
  have h80 := hR.n80
  obtain ⟨e17, e18, e19, -⟩ := wk7 hR hu
  have ok : τ 19 u = 0 ∧ ¬ nI r / 3 = τ 17 u := ⟨e19.trans l1, by rw [e17, r3i hr]; exact l2⟩
  rcases hc with ⟨h1, rfl⟩ | ⟨u', r', hu', e, hr', e', h1, rfl⟩ | ⟨u', r', hu', e, hr', e', h1, h2, rfl⟩ | ⟨u', r', hu', e, hr', e', h1, h2, rfl, rfl⟩
  · exact absurd ⟨⟨u, hu, rfl⟩, ⟨r, hr, rfl⟩⟩ h1
  · rw [inB_iff.mpr hv] at h1; cases h1
  · obtain rfl := nIe (by omega) (by omega) e
    obtain rfl := nIe (by omega) (by omega) e'
    exact absurd ok h2
  · obtain rfl := nIe (by omega) (by omega) e
    obtain rfl := nIe (by omega) (by omega) e'
    obtain ⟨fe, hfe, rfl⟩ := fee_of hv
    exact (pr_lend hu hr hfe hR).okt (hI.co (by simp [agr, up, thr])) (by simp [up, thr]) rfl hP (by rw [r3i hr])
theorem sx_lend {vw vr vv : Int32} (hR : RR0 σ qs nT nW f τ D N) (hI : RI τ nT) (hx : xP_lend G A ad σ qs nT nW vw vr vv E H) (hc : cm_lend τ nW vw vr vv x τ') : (E = xIO ∧ EXT G A ad H N 1 τ') ∨ (E = xIA ∧ EXT G A ad H N 2 τ') ∨ (E = xIS ∧ EXT G A ad H N 3 τ') := by
  obtain ⟨hP, hx⟩ := hx
  have h80 := hR.n80
  simp only [← inB_not] at hx
  rcases hc with ⟨h1, rfl⟩ | ⟨u', r', hu', e, hr', e', h1, rfl⟩ | ⟨u', r', hu', e, hr', e', h1, h2, rfl⟩ | ⟨u', r', hu', e, hr', e', h1, h2, rfl, rfl⟩
  · rcases hx with ⟨rfl, a1⟩ | ⟨rfl, a1⟩ | ⟨rfl, ⟨u, r, hu, e2, hr, e3⟩, -⟩ | ⟨rfl, u, r, hu, e2, hr, e3, -⟩
    · exact Or.inl ⟨rfl, hR.ext hI hP 1⟩
    · exact Or.inl ⟨rfl, hR.ext hI hP 1⟩
    · exact absurd ⟨⟨u, hu, e2⟩, ⟨r, hr, e3⟩⟩ h1
    · exact absurd ⟨⟨u, hu, e2⟩, ⟨r, hr, e3⟩⟩ h1
  · rcases hx with ⟨rfl, a1⟩ | ⟨rfl, a1⟩ | ⟨rfl, -, a1⟩ | ⟨rfl, u, r, hu, e2, hr, e3, a1⟩
    · exact absurd ⟨u', hu', e⟩ a1
    · exact absurd ⟨r', hr', e'⟩ a1
    · exact Or.inr (Or.inl ⟨rfl, hR.ext hI hP 2⟩)
    · rw [inB_iff.mpr a1.1] at h1; cases h1
  · rcases hx with ⟨rfl, a1⟩ | ⟨rfl, a1⟩ | ⟨rfl, -, a1⟩ | ⟨rfl, u, r, hu, e2, hr, e3, a1⟩
    · exact absurd ⟨u', hu', e⟩ a1
    · exact absurd ⟨r', hr', e'⟩ a1
    · rw [a1] at h1; cases h1
    · exact Or.inr (Or.inr ⟨rfl, hR.ext hI hP 3⟩)
  · rcases hx with ⟨rfl, a1⟩ | ⟨rfl, a1⟩ | ⟨rfl, -, a1⟩ | ⟨rfl, u, r, hu, e2, hr, e3, a1⟩
    · exact absurd ⟨u', hu', e⟩ a1
    · exact absurd ⟨r', hr', e'⟩ a1
    · rw [a1] at h1; cases h1
    · obtain rfl := nIe (by omega) (by omega) (e2.symm.trans e)
      obtain rfl := nIe (by omega) (by omega) (e3.symm.trans e')
      obtain ⟨e17, e18, e19, -⟩ := wk7 hR hu
      rw [e19, e17, r3i hr] at h2
      exact absurd h2 a1.2
theorem st_bringHome {vw vr : Int32} (hR : RR0 σ qs nT nW f τ D N) (hI : RI τ nT) (hq : qP_bringHome G A ad σ qs nT nW vw vr v H) (hc : cm_bringHome τ nW vw vr x τ') : OKT G A ad H N v x τ' := by
  obtain ⟨u, r, hu, rfl, hr, rfl, ⟨l1, l2⟩, rfl, hP⟩ := hq
  have h80 := hR.n80
  obtain ⟨e17, e18, e19, e20, e21, -⟩ := wk7 hR hu
  have ok : ¬ τ 19 u = 0 ∧ nI r / 3 = τ 17 u := ⟨fun z => l1 (e19.symm.trans z), by rw [e17, r3i hr]; exact l2⟩
  rcases hc with ⟨h1, rfl⟩ | ⟨u', r', hu', e, hr', e', h1, rfl⟩ | ⟨u', r', hu', e, hr', e', h1, rfl, rfl⟩
  · exact absurd ⟨⟨u, hu, rfl⟩, ⟨r, hr, rfl⟩⟩ h1
  · obtain rfl := nIe (by omega) (by omega) e
    obtain rfl := nIe (by omega) (by omega) e'
    exact absurd ok h1
  · obtain rfl := nIe (by omega) (by omega) e
    obtain rfl := nIe (by omega) (by omega) e'
    exact (pr_bring hu hr hR).okt (hI.co (by simp [agr, up, thr])) (by simp [up, thr]) rfl hP (by rw [thr_o (by decide), e21])
theorem sx_bringHome {vw vr : Int32} (hR : RR0 σ qs nT nW f τ D N) (hI : RI τ nT) (hx : xP_bringHome G A ad σ qs nT nW vw vr E H) (hc : cm_bringHome τ nW vw vr x τ') : (E = xIO ∧ EXT G A ad H N 1 τ') ∨ (E = xIS ∧ EXT G A ad H N 2 τ') := by
  obtain ⟨hP, hx⟩ := hx
  have h80 := hR.n80
  rcases hc with ⟨h1, rfl⟩ | ⟨u', r', hu', e, hr', e', h1, rfl⟩ | ⟨u', r', hu', e, hr', e', h1, rfl, rfl⟩
  · rcases hx with ⟨rfl, a1⟩ | ⟨rfl, a1⟩ | ⟨rfl, u, r, hu, e2, hr, e3, -⟩
    · exact Or.inl ⟨rfl, hR.ext hI hP 1⟩
    · exact Or.inl ⟨rfl, hR.ext hI hP 1⟩
    · exact absurd ⟨⟨u, hu, e2⟩, ⟨r, hr, e3⟩⟩ h1
  · rcases hx with ⟨rfl, a1⟩ | ⟨rfl, a1⟩ | ⟨rfl, -⟩
    · exact absurd ⟨u', hu', e⟩ a1
    · exact absurd ⟨r', hr', e'⟩ a1
    · exact Or.inr ⟨rfl, hR.ext hI hP 2⟩
  · rcases hx with ⟨rfl, a1⟩ | ⟨rfl, a1⟩ | ⟨rfl, u, r, hu, e2, hr, e3, a1⟩
    · exact absurd ⟨u', hu', e⟩ a1
    · exact absurd ⟨r', hr', e'⟩ a1
    · obtain rfl := nIe (by omega) (by omega) (e2.symm.trans e)
      obtain rfl := nIe (by omega) (by omega) (e3.symm.trans e')
      obtain ⟨e17, e18, e19, -⟩ := wk7 hR hu
      rw [e19, e17, r3i hr] at h1
      exact absurd h1 a1
theorem st_setShare {vw vv : Int32} (hR : RR0 σ qs nT nW f τ D N) (hI : RI τ nT) (hq : qP_setShare G A ad σ qs nT nW vw vv v H) (hc : cm_setShare τ nW vw vv x τ') : OKT G A ad H N v x τ' := by
  obtain ⟨u, hu, rfl, hv, rfl, hP⟩ := hq
  have h80 := hR.n80
  rcases hc with ⟨h1, rfl⟩ | ⟨h1, h2, rfl⟩ | ⟨u', hu', e, h1, rfl, rfl⟩
  · exact absurd ⟨u, hu, rfl⟩ h1
  · rw [inB_iff.mpr hv] at h2; cases h2
  · obtain rfl := nIe (by omega) (by omega) e
    exact (pr_share hR).okt (hI.co (by simp [agr, up, thr])) (by simp [up, thr]) rfl hP (by rw [thr_o (by decide), (wk7 hR hu).2.2.2.2.2.1])
theorem sx_setShare {vw vv : Int32} (hR : RR0 σ qs nT nW f τ D N) (hI : RI τ nT) (hx : xP_setShare G A ad σ qs nT nW vw vv E H) (hc : cm_setShare τ nW vw vv x τ') : (E = xIO ∧ EXT G A ad H N 1 τ') ∨ (E = xIA ∧ EXT G A ad H N 2 τ') := by
  obtain ⟨hP, hx⟩ := hx
  simp only [← inB_not] at hx
  rcases hc with ⟨h1, rfl⟩ | ⟨h1, h2, rfl⟩ | ⟨r', hr', e, h1, rfl, rfl⟩
  · rcases hx with ⟨rfl, a1⟩ | ⟨rfl, a1, a2⟩
    · exact Or.inl ⟨rfl, hR.ext hI hP 1⟩
    · exact absurd a1 h1
  · rcases hx with ⟨rfl, a1⟩ | ⟨rfl, a1, a2⟩
    · exact absurd h1 a1
    · exact Or.inr ⟨rfl, hR.ext hI hP 2⟩
  · rcases hx with ⟨rfl, a1⟩ | ⟨rfl, a1, a2⟩
    · exact absurd ⟨r', hr', e⟩ a1
    · rw [a2] at h1; cases h1
theorem st_sell {vh vw vv : Int32} (hR : RR0 σ qs nT nW f τ D N) (hI : RI τ nT) (hq : qP_sell G A ad σ qs nT nW vh vw vv v H) (hc : cm_sell τ nW vh vw vv x τ') : OKT G A ad H N v x τ' := by
  obtain ⟨h, u, b, hh4, rfl, hu, rfl, hv, hb4, eb, rfl, hP⟩ := hq
  have h80 := hR.n80
  obtain ⟨e17, e18, e19, e20, e21, e22, -⟩ := wk7 hR hu
  rcases hc with ⟨h1, rfl⟩ | ⟨h1, h2, h3, rfl⟩ | ⟨h', u', b', hh', e, hu', e', h1, hb', eb', rfl, rfl⟩
  · exact absurd ⟨⟨h, hh4, rfl⟩, ⟨u, hu, rfl⟩⟩ h1
  · rw [inB_iff.mpr hv] at h3; cases h3
  · obtain rfl := nIe (by omega) (by omega) e
    obtain rfl := nIe (by omega) (by omega) e'
    obtain rfl := nIe (by omega) (by omega) (eb.symm.trans (e17.symm.trans eb'))
    have eo : mOwn (thr τ 0) u (nI h) vv = fOwn σ u (nI h) vv := by
      unfold mOwn fOwn
      rw [thr_o (by decide), thr_o (by decide), e17, e22]
    rw [eo]
    exact (pr_sell hh4 hb4 hR).okt (hI.co (by simp [agr, up, thr, mSell])) (by simp [up, thr, mSell]) rfl hP rfl
theorem sx_sell {vh vw vv : Int32} (hR : RR0 σ qs nT nW f τ D N) (hI : RI τ nT) (hx : xP_sell G A ad σ qs nT nW vh vw vv E H) (hc : cm_sell τ nW vh vw vv x τ') : (E = xIO ∧ EXT G A ad H N 1 τ') ∨ (E = xIA ∧ EXT G A ad H N 2 τ') := by
  obtain ⟨hP, hx⟩ := hx
  simp only [← inB_not] at hx
  rcases hc with ⟨h1, rfl⟩ | ⟨h1, h2, h3, rfl⟩ | ⟨h', u', b', hh', e, hu', e', h1, hb', eb', rfl, rfl⟩
  · rcases hx with ⟨rfl, a1⟩ | ⟨rfl, a1, a2⟩ | ⟨rfl, a1, a2, a3⟩
    · exact Or.inl ⟨rfl, hR.ext hI hP 1⟩
    · exact Or.inl ⟨rfl, hR.ext hI hP 1⟩
    · exact absurd ⟨a1, a2⟩ h1
  · rcases hx with ⟨rfl, a1⟩ | ⟨rfl, a1, a2⟩ | ⟨rfl, a1, a2, a3⟩
    · exact absurd h1 a1
    · exact absurd h2 a2
    · exact Or.inr ⟨rfl, hR.ext hI hP 2⟩
  · rcases hx with ⟨rfl, a1⟩ | ⟨rfl, a1, a2⟩ | ⟨rfl, a1, a2, a3⟩
    · exact absurd ⟨h', hh', e⟩ a1
    · exact absurd ⟨u', hu', e'⟩ a2
    · rw [a3] at h1; cases h1
theorem st_give {vh vv vm : Int32} (hR : RR0 σ qs nT nW f τ D N) (hI : RI τ nT) (hq : qP_give G A ad σ qs nT nW vh vv vm v H) (hc : cm_give τ vh vv vm x τ') : OKT G A ad H N v x τ' := by
  obtain ⟨h, gb, hh4, rfl, hg, hv, rfl, hP⟩ := hq
  have hm : vm = -1 ∨ ∃ j, j < 6 ∧ vm = nI j := by
    rcases hg with ⟨g1, -⟩ | ⟨-, k, k1, k2, -⟩
    · exact Or.inl g1
    · exact Or.inr ⟨k, k1, k2⟩
  rcases hc with ⟨h1, rfl⟩ | ⟨h1, h2, h3, rfl⟩ | ⟨h', gb', hh', e, hg', h1, rfl, rfl⟩
  · exact absurd ⟨⟨h, hh4, rfl⟩, hm⟩ h1
  · rw [inB_iff.mpr hv] at h3; cases h3
  · obtain rfl := nIe (by omega) (by omega) e
    have eg : gb' = gb := by
      rcases hg with ⟨g1, g2⟩ | ⟨g1, k, k1, k2, k3⟩ <;> rcases hg' with ⟨w1, w2⟩ | ⟨w1, k', k1', k2', k3'⟩
      · rw [g2, w2]
      · exact absurd g1 w1
      · exact absurd w1 g1
      · obtain rfl := nIe (by omega) (by omega) (k2.symm.trans k2')
        rw [k3, k3', bel_eq hR.th k1]
    rw [eg]
    exact (pr_give hh4 hR).okt (hI.co (by simp [agr, up, thr, mGive])) (by simp [up, thr, mGive]) rfl hP rfl
theorem sx_give {vh vv vm : Int32} (hR : RR0 σ qs nT nW f τ D N) (hI : RI τ nT) (hx : xP_give G A ad σ qs nT nW vh vv vm E H) (hc : cm_give τ vh vv vm x τ') : (E = xIO ∧ EXT G A ad H N 1 τ') ∨ (E = xIA ∧ EXT G A ad H N 2 τ') := by
  obtain ⟨hP, hx⟩ := hx
  simp only [← inB_not] at hx
  rcases hc with ⟨h1, rfl⟩ | ⟨h1, h2, h3, rfl⟩ | ⟨h', gb', hh', e, hg', h1, rfl, rfl⟩
  · rcases hx with ⟨rfl, a1⟩ | ⟨rfl, a1, a2⟩ | ⟨rfl, a1, a2, a3⟩
    · exact Or.inl ⟨rfl, hR.ext hI hP 1⟩
    · exact Or.inl ⟨rfl, hR.ext hI hP 1⟩
    · exact absurd ⟨a1, a2⟩ h1
  · rcases hx with ⟨rfl, a1⟩ | ⟨rfl, a1, a2⟩ | ⟨rfl, a1, a2, a3⟩
    · exact absurd h1 a1
    · exact absurd h2 a2
    · exact Or.inr ⟨rfl, hR.ext hI hP 2⟩
  · have hm : vm = -1 ∨ ∃ j, j < 6 ∧ vm = nI j := by
      rcases hg' with ⟨g1, -⟩ | ⟨-, k, k1, k2, -⟩
      · exact Or.inl g1
      · exact Or.inr ⟨k, k1, k2⟩
    rcases hx with ⟨rfl, a1⟩ | ⟨rfl, a1, a2⟩ | ⟨rfl, a1, a2, a3⟩
    · exact absurd ⟨h', hh', e⟩ a1
    · exact absurd hm a2
    · rw [a3] at h1; cases h1
theorem d_le {D d : Nat} (hD : D ≤ 2000) (hd : d ≤ 60) : nI D + nI d ≤ 2000 ↔ D + d ≤ 2000 := by
  rw [nI_addN]
  exact nI_leI (b := 2000) (by omega) (by decide)
theorem adv_in {d : Nat} (d0 : d ≠ 0) (d6 : d ≤ 60) : inB (nI d) 1 60 = true := inB_iff.mpr ⟨fun z => by
  have := (nI_ltI (b := 1) (by omega) (by decide)).mp z
  omega, (nI_leI (b := 60) (by omega) (by decide)).mpr d6⟩
theorem st_advance {vd : Int32} (hR : RR0 σ qs nT nW f τ D N) (hI : RI τ nT) (hq : qP_advance G A ad σ qs nT nW vd f v H) (hc : cm_advance τ nT vd x τ') : OKT G A ad H N v x τ' := by
  obtain ⟨d, d0, d6, rfl, hle, rfl, hP⟩ := hq
  have hN := hR.1
  have hD := hN.2.2.2.2.2.2.2.2.1
  rw [hN.2.2.2.2.2.2.1] at hle
  have hle' := (d_le hD d6).mp hle
  rcases hc with ⟨h1, rfl⟩ | ⟨d', a0, a6, e, h1, rfl⟩ | ⟨d', a0, a6, e, h1, rfl, rfl⟩
  · rw [adv_in d0 d6] at h1
    cases h1
  · obtain rfl := nIe (by omega) (by omega) e
    rw [hN.2.2.2.2.2.2.2.1] at h1
    exact absurd hle h1
  · obtain rfl := nIe (by omega) (by omega) e
    have p := pr_days d σ qs (thr τ 0) f D hR.th d0 hle'
    refine p.okt (RI.days d _ hI.th) ?_ rfl hP (by rw [p.1.2.2.2.2.2.2.1, p.1.2.2.2.2.2.2.2.1])
    have : ∀ (d : Nat) (τ : SG), mDays nT d τ 27 0 = τ 27 0 := by
      intro d
      induction d with
      | zero => intro τ; rfl
      | succ d ih => intro τ; exact (ih _).trans (mEnd_ne (by decide))
    rw [this]; exact thr_27
theorem sx_advance {vd : Int32} (hR : RR0 σ qs nT nW f τ D N) (hI : RI τ nT) (hx : xP_advance G A ad σ qs nT nW vd f E H) (hc : cm_advance τ nT vd x τ') : (E = xIA ∧ EXT G A ad H N 1 τ') ∨ (E = xIS ∧ EXT G A ad H N 2 τ') := by
  obtain ⟨hP, hx⟩ := hx
  have hN := hR.1
  simp only [← inB_not] at hx
  have key : ∀ d, d ≠ 0 → d ≤ 60 → vd = nI d → inB vd 1 60 = true := fun d d0 d6 e => by
    subst e
    exact inB_iff.mpr ⟨fun z => by
      have := (nI_ltI (b := 1) (by omega) (by decide)).mp z
      omega, (nI_leI (b := 60) (by omega) (by decide)).mpr d6⟩
  rcases hc with ⟨h1, rfl⟩ | ⟨d', a0, a6, e, h1, rfl⟩ | ⟨d', a0, a6, e, h1, rfl, rfl⟩
  · rcases hx with ⟨rfl, a1⟩ | ⟨rfl, d, d0, d6, e, -⟩
    · exact Or.inl ⟨rfl, hR.ext hI hP 1⟩
    · rw [key d d0 d6 e] at h1; cases h1
  · rcases hx with ⟨rfl, a1⟩ | ⟨rfl, -⟩
    · rw [key d' a0 a6 e] at a1; cases a1
    · exact Or.inr ⟨rfl, hR.ext hI hP 2⟩
  · rcases hx with ⟨rfl, a1⟩ | ⟨rfl, d, d0, d6, e2, a1⟩
    · rw [key d' a0 a6 e] at a1; cases a1
    · obtain rfl := nIe (by omega) (by omega) (e2.symm.trans e)
      rw [hN.2.2.2.2.2.2.1] at a1
      rw [hN.2.2.2.2.2.2.2.1] at h1
      exact absurd h1 a1
/-! questions -/
theorem RR0.ask (hR : RR0 σ qs nT nW f τ D N) (hI : RI τ nT) (hP : PX G A ad σ qs nT nW H) (hv : v = some (.int x)) : OKT G A ad H N v x (thr τ 0) := hR.th.okt hI.th thr_27 rfl hP hv
theorem st_whereIs {vt : Int32} (hR : RR0 σ qs nT nW f τ D N) (hI : RI τ nT) (hq : qP_whereIs G A ad σ qs nT nW vt v H) (hc : cm_whereIs τ nT vt x τ') : OKT G A ad H N v x τ' := by
  obtain ⟨⟨t, ht, rfl, rfl⟩, hP⟩ := hq
  have h80 := hR.n80
  rcases hc with ⟨h1, rfl⟩ | ⟨t', ht', e, rfl, rfl⟩
  · exact absurd ⟨t, ht, rfl⟩ h1
  · obtain rfl := nIe (by omega) (by omega) e
    refine hR.ask hI hP ?_
    rw [thr_o (by decide)]
    obtain ⟨hN, hP, hM, hT, hZ, hD, hW, hB, hA, hRR, hV, hO, -⟩ := hR
    rcases (hO t ht).1 with ⟨a1, a2, a3⟩ | ⟨r, hr, a1, ⟨a2, a3⟩ | ⟨a2, a3⟩⟩
    · rw [a1, a2, a3]; rfl
    · rw [a1, a2, a3]; rfl
    · rw [a1, a2, a3]; rfl
theorem st_seen {vt : Int32} (hR : RR0 σ qs nT nW f τ D N) (hI : RI τ nT) (hq : qP_seen G A ad σ qs nT nW vt v H) (hc : cm_seen τ nT vt x τ') : OKT G A ad H N v x τ' := by
  obtain ⟨⟨t, ht, rfl, rfl⟩, hP⟩ := hq
  have h80 := hR.n80
  rcases hc with ⟨h1, rfl⟩ | ⟨t', ht', e, rfl, rfl⟩
  · exact absurd ⟨t, ht, rfl⟩ h1
  · obtain rfl := nIe (by omega) (by omega) e
    exact hR.ask hI hP (by rw [thr_o (by decide), (hR.2.2.2.1 t ht).2.2.2.2.2])
theorem st_inside {vr : Int32} (hR : RR0 σ qs nT nW f τ D N) (hI : RI τ nT) (hq : qP_inside G A ad σ qs nT nW vr v H) (hc : cm_inside τ nT vr x τ') : OKT G A ad H N v x τ' := by
  obtain ⟨⟨t, ht, rfl, rfl⟩, hP⟩ := hq
  rcases hc with ⟨h1, rfl⟩ | ⟨t', ht', e, rfl, rfl⟩
  · exact absurd ⟨t, ht, rfl⟩ h1
  · obtain rfl := nIe (by omega) (by omega) e
    exact hR.ask hI hP (by rw [(hR.th (k := 0)).k.2.2.2.2.2.2.2.2.1 t ht])
theorem st_views {vw : Int32} (hR : RR0 σ qs nT nW f τ D N) (hI : RI τ nT) (hq : qP_views G A ad σ qs nT nW vw v H) (hc : cm_views τ nW vw x τ') : OKT G A ad H N v x τ' := by
  obtain ⟨⟨t, ht, rfl, rfl⟩, hP⟩ := hq
  have h80 := hR.n80
  rcases hc with ⟨h1, rfl⟩ | ⟨t', ht', e, rfl, rfl⟩
  · exact absurd ⟨t, ht, rfl⟩ h1
  · obtain rfl := nIe (by omega) (by omega) e
    exact hR.ask hI hP (by rw [thr_o (by decide), (wk7 hR ht).2.2.2.2.2.2])
theorem st_queued {vr vp : Int32} (hR : RR0 σ qs nT nW f τ D N) (hI : RI τ nT) (hq : qP_queued G A ad σ qs nT nW vr vp v H) (hc : cm_queued τ nT vr vp x τ') : OKT G A ad H N v x τ' := by
  obtain ⟨⟨r, hr, rfl, hp, hq⟩, hP⟩ := hq
  have h80 := hR.n80
  have hQ := (hR.th (k := 0)).k.2.2.2.2.2.2.2.2.2.2.1
  rcases hc with ⟨h1, rfl⟩ | ⟨r', hr', e, -, rfl, rfl⟩
  · exact absurd ⟨⟨r, hr, rfl⟩, hp⟩ h1
  · obtain rfl := nIe (by omega) (by omega) e
    rcases hq with ⟨i, u, rfl, hi, rfl⟩ | ⟨hl, rfl⟩
    · exact hR.ask hI hP (by rw [mQ_at hQ h80.1 hr hi])
    · have hne : ∀ j, j < (qs r).length → ¬ nI j = vp := fun j hj z => by
        rw [← z] at hl
        have hlen := q_len hQ hr
        have := (nI_leI (by omega) (by omega)).mp hl
        omega
      exact hR.ask hI hP (by rw [mQ_no hQ h80.1 hr hne])
theorem st_money {hh : Int32} (hR : RR0 σ qs nT nW f τ D N) (hI : RI τ nT) (hq : qP_money G A ad σ qs nT nW hh v H) (hc : cm_money τ hh x τ') : OKT G A ad H N v x τ' := by
  obtain ⟨⟨j, hj, ej, rfl⟩, hP⟩ := hq
  have hA := hR.2.2.2.2.2.2.2.2.1
  rcases hc with ⟨h1, rfl⟩ | ⟨h1, rfl, rfl⟩ | ⟨h, hh4, e, rfl, rfl⟩
  · exact absurd (hs_iff.mp ⟨j, hj, ej⟩) h1
  · obtain rfl : j = 0 := nIe (by omega) (by decide) (ej.symm.trans (hs_0.mpr h1))
    exact hR.ask hI hP (by rw [thr_o (by decide), hA.1])
  · obtain rfl : j = h + 1 := nIe (by omega) (by omega) (ej.symm.trans (hs_s.mpr e))
    exact hR.ask hI hP (by rw [thr_o (by decide), hA.2 h hh4])
theorem st_moneyBySeen {hh : Int32} (hR : RR0 σ qs nT nW f τ D N) (hI : RI τ nT) (hq : qP_moneyBySeen G A ad σ qs nT nW hh f v H) (hc : cm_moneyBySeen τ hh x τ') : OKT G A ad H N v x τ' := by
  obtain ⟨⟨j, hj, ej, rfl⟩, hP⟩ := hq
  have hY := hR.2.2.2.2.2.2.2.2.2.2.2.2.2.2.2.2.2 j hj
  have e : nI j - 1 = hh := by rw [← ej]; exact Int32.add_sub_cancel _ _
  rw [e] at hY
  exact st_money hR hI (v := some (.int (σ 2 j + σ 3 j + σ 4 j + fBrT σ hh f + fBrM σ hh f))) ⟨⟨j, hj, ej, by rw [hY]⟩, hP⟩ hc
theorem st_titleAt {vw vp : Int32} (hR : RR0 σ qs nT nW f τ D N) (hI : RI τ nT) (hq : qP_titleAt G A ad σ qs nT nW vw vp v H) (hc : cm_titleAt τ nW vw vp x τ') : OKT G A ad H N v x τ' := by
  obtain ⟨⟨u, h, b, fe, hu, rfl, hh4, eh, hb, eb, hfe, ef, hp, n, F, hF, hv⟩, hP⟩ := hq
  have h80 := hR.n80
  obtain ⟨e17, e18, e19, e20, -⟩ := wk7 hR hu
  rcases hc with ⟨h1, rfl⟩ | ⟨u', h', b', fe', hu', e, -, hh', eh', hb', eb', hfe', ef', M, S, hS, rfl, hx⟩
  · exact absurd ⟨⟨u, hu, rfl⟩, hp⟩ h1
  · obtain rfl := nIe (by omega) (by omega) e
    obtain rfl := nIe (by omega) (by omega) (eh.symm.trans (e17.symm.trans eh'))
    obtain rfl := nIe (by omega) (by omega) (eb.symm.trans (e18.symm.trans eb'))
    obtain rfl := nIe (by omega) (by omega) (ef.symm.trans (e20.symm.trans ef'))
    have bnd : dgn u ≤ 4 ∧ dgn b ≤ 4 ∧ dgn fe ≤ 4 := ⟨(dgn_leM u).2, (dgn_leM b).2, (dgn_leM fe).2⟩
    have key : ∃ K, n = K ∧ M = K ∧ K < 100 ∧ CA F τ' K ∧ (∀ g, g ≠ 27 ∧ g ≠ 28 ∧ g ≠ 29 → ∀ i, τ' g i = τ g i) ∧ τ' 27 0 = 0 := by
      rcases hF with ⟨l1, n1, f1⟩ | ⟨l1, n1, f1⟩ <;> rcases hS with ⟨m1, M1, s1⟩ | ⟨m1, M1, s1⟩
      · refine ⟨1 + dgn u + 1 + dgn b, by omega, M1, by omega, by rw [f1, s1]; exact ti0_eq (by omega) hb, fun g hg i => ?_, ?_⟩
        · rw [s1, mTi0_ne ⟨hg.2.1, hg.2.2⟩, thr_o hg.1]
        · rw [s1, mTi0_ne (by decide)]; exact thr_27
      · exact absurd (e19.trans l1) m1
      · exact absurd (e19.symm.trans m1) l1
      · refine ⟨1 + dgn u + 1 + dgn b + 1 + dgn fe, by omega, M1, by omega, by rw [f1, s1]; exact ti1_eq (by omega) hb hfe, fun g hg i => ?_, ?_⟩
        · rw [s1, mTi1_ne ⟨hg.2.1, hg.2.2⟩, thr_o hg.1]
        · rw [s1, mTi1_ne (by decide)]; exact thr_27
    obtain ⟨K, rfl, rfl, hK, hca, hne, h27⟩ := key
    have hR' : RR0 σ qs nT nW f τ' D N := by
      obtain ⟨hRN, hRP, hRM, hRT, hRZ, hRD, hRW, hRB, hRA, hRR, hRV, hRO, hRQ, hRC, hRF, hRS, hRX, hRY⟩ := hR
      have t : ∀ gs, (∀ g ∈ gs, g ≠ 27 ∧ g ≠ 28 ∧ g ≠ 29) → agr gs τ τ' := fun gs h g hg i => hne g (h g hg) i
      exact ⟨hRN.co agr.rf (t _ (by decide)), hRP.co agr.rf (t _ (by decide)), hRM.co agr.rf (t _ (by decide)), hRT.co agr.rf (t _ (by decide)), hRZ.co (t _ (by decide)), hRD.co (t _ (by decide)), hRW.co agr.rf (t _ (by decide)), hRB, hRA.co agr.rf (t _ (by decide)), hRR.co agr.rf (t _ (by decide)), hRV.co agr.rf (t _ (by decide)), hRO.co agr.rf (t _ (by decide)), hRQ.co (t _ (by decide)), hRC.co (t _ (by decide)), hRF.co agr.rf (t _ (by decide)), hRS, hRX, hRY⟩
    refine hR'.okt (hI.co (fun g hg i => hne g (by simp at hg; omega) i)) h27 rfl hP ?_
    rcases hv with ⟨i, hi, rfl, rfl⟩ | ⟨hl, rfl⟩ <;> rcases hx with ⟨k, hk, e2, rfl⟩ | ⟨hl2, rfl⟩
    · obtain rfl := nIe (by omega) (by omega) e2
      rw [hca i hi]
    · have := (nI_leI (by omega) (by omega)).mp hl2
      omega
    · rw [e2] at hl
      have := (nI_leI (by omega) (by omega)).mp hl
      omega
    · rfl
end STEPS3
