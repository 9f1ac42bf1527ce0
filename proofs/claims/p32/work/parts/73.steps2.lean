section STEPS2
variable {G : GE} {A : Nat → Prop} {ad : Nat → Nat → Nat} {σ τ τ' : SG} {qs : Nat → List Nat} {nT nW f D N : Nat} {H : Heap} {v : Option Value} {x : Int32} {E : String}
theorem RR0.n80 (hR : RR0 σ qs nT nW f τ D N) : nT ≤ 80 ∧ nW ≤ 12 ∧ f ≤ nT := ⟨hR.1.2.2.1, hR.1.2.2.2.2.2.1, hR.1.2.1⟩
theorem now_f (hR : RR0 σ qs nT nW f τ D N) {t : Nat} (ht : t < nT) (h : mNow τ t = true) : f ≤ t := by
  have h80 := hR.n80
  have h1 := ((now_use hR ht).mp h).1
  rw [hR.1.1] at h1
  exact Nat.le_of_not_lt (fun z => h1 ((nI_ltI (by omega) (by omega)).mpr z))
theorem cl_eq (hR : RR0 σ qs nT nW f τ D N) {t : Nat} (ht : t < nT) : (∀ r, r < 12 → ¬ (mFor τ t (nI (r / 3)) = true ∧ τ 15 r = 0)) ↔ fClosed σ t = true := by
  rw [fClosed_iff]
  have e : ∀ r, r < 12 → (mFor τ t (nI (r / 3)) = true ∧ τ 15 r = 0 ↔ fFor (σ 11 t) (nI (r / 3)) = true ∧ σ 6 r = 0) := fun r hr => by
    rw [for_eq hR ht, (hR.2.2.2.2.2.2.2.2.2.1 r hr).2.1]
  exact ⟨fun h r hr z => h r hr ((e r hr).mpr z), fun h r hr z => h r hr ((e r hr).mp z)⟩
/-- nowhere: not in a room, for none has been seen; not waiting -/
theorem nowh (hR : RR0 σ qs nT nW f τ D N) (hI : RI τ nT) {t : Nat} (ht : t < nT) (h15 : σ 15 t = 0) : τ 10 t = -1 ↔ σ 17 t = 0 := by
  have e13 : τ 13 t = 0 := (hR.2.2.2.1 t ht).2.2.2.2.2.trans h15
  obtain ⟨hN, hP, hM, hT, hZ, hD, hW, hB, hA, hRR, hV, hO, -⟩ := hR
  rcases (hO t ht).1 with ⟨-, a2, a3⟩ | ⟨r, hr, a1, ⟨a2, a3⟩ | ⟨a2, a3⟩⟩
  · rw [a2, a3]
    exact ⟨fun _ => rfl, fun _ => rfl⟩
  · exact absurd e13 (hI t ht r hr a3)
  · rw [a2, a3]
    exact ⟨fun z => absurd z.symm (q_m1 r hr), fun z => absurd z (by decide)⟩
theorem st_giveBack {vt : Int32} (hR : RR0 σ qs nT nW f τ D N) (hI : RI τ nT) (hq : qP_giveBack G A ad σ qs nT nW vt v H) (hc : cm_giveBack τ nT vt x τ') : OKT G A ad H N v x τ' := by
  obtain ⟨t, ht, rfl, hu, ⟨s1, s2, s3⟩, rfl, hP⟩ := hq
  have h80 := hR.n80
  have ok : mNow τ t = true ∧ τ 13 t = 0 ∧ τ 10 t = -1 := ⟨(now_use hR ht).mpr hu, (hR.2.2.2.1 t ht).2.2.2.2.2.trans s1, (nowh hR hI ht s1).mpr s2⟩
  rcases hc with ⟨h1, rfl⟩ | ⟨t', ht', e, h1, rfl⟩ | ⟨t', ht', e, h1, ⟨r, hr, h2⟩, rfl⟩ | ⟨t', ht', e, h1, h2, rfl, rfl⟩
  · exact absurd ⟨t, ht, rfl⟩ h1
  · obtain rfl := nIe (by omega) (by omega) e
    exact absurd ok h1
  · obtain rfl := nIe (by omega) (by omega) e
    exact absurd h2 ((cl_eq hR ht).mpr s3 r hr)
  · obtain rfl := nIe (by omega) (by omega) e
    exact (pr_giveBack ht (now_f hR ht ok.1) hR).okt (hI.co (by simp [agr, up, thr])) (by simp [up, thr]) rfl hP (by rw [thr_o (by decide), (hR.2.2.2.1 t ht).2.2.2.1])
theorem sx_giveBack {vt : Int32} (hR : RR0 σ qs nT nW f τ D N) (hI : RI τ nT) (hx : xP_giveBack G A ad σ qs nT nW vt E H) (hc : cm_giveBack τ nT vt x τ') : (E = xIO ∧ EXT G A ad H N 1 τ') ∨ (E = xIS ∧ EXT G A ad H N 2 τ') := by
  obtain ⟨hP, hx⟩ := hx
  have h80 := hR.n80
  rcases hc with ⟨h1, rfl⟩ | ⟨t', ht', e, h1, rfl⟩ | ⟨t', ht', e, h1, ⟨r, hr, h2⟩, rfl⟩ | ⟨t', ht', e, h1, h2, rfl, rfl⟩
  · rcases hx with ⟨rfl, a1⟩ | ⟨rfl, k, hk, e, -⟩ | ⟨rfl, k, hk, e, -⟩
    · exact Or.inl ⟨rfl, hR.ext hI hP 1⟩
    · exact absurd ⟨k, hk, e⟩ h1
    · exact absurd ⟨k, hk, e⟩ h1
  · rcases hx with ⟨rfl, a1⟩ | ⟨rfl, -⟩ | ⟨rfl, -⟩
    · exact absurd ⟨t', ht', e⟩ a1
    · exact Or.inr ⟨rfl, hR.ext hI hP 2⟩
    · exact Or.inr ⟨rfl, hR.ext hI hP 2⟩
  · rcases hx with ⟨rfl, a1⟩ | ⟨rfl, -⟩ | ⟨rfl, -⟩
    · exact absurd ⟨t', ht', e⟩ a1
    · exact Or.inr ⟨rfl, hR.ext hI hP 2⟩
    · exact Or.inr ⟨rfl, hR.ext hI hP 2⟩
  · obtain ⟨b1, b2, b3⟩ := h1
    have b1' := (now_use hR ht').mp b1
    have b2' : σ 15 t' = 0 := (hR.2.2.2.1 t' ht').2.2.2.2.2.symm.trans b2
    have b3' := (nowh hR hI ht' b2').mp b3
    rcases hx with ⟨rfl, a1⟩ | ⟨rfl, k, hk, e2, a1⟩ | ⟨rfl, k, hk, e2, a1⟩
    · exact absurd ⟨t', ht', e⟩ a1
    · obtain rfl := nIe (by omega) (by omega) (e2.symm.trans e)
      rcases a1 with a1 | a1
      · exact absurd a1 b1'.1
      · exact absurd b1'.2 a1
    · obtain rfl := nIe (by omega) (by omega) (e2.symm.trans e)
      exact absurd ⟨b2', b3', (cl_eq hR ht').mp h2⟩ a1
theorem cap_of {vv : Int32} {c : Nat} (e : vv = nI c) (hc : c ≤ 20) : inB vv 0 20 = true := by
  subst e
  exact inB_iff.mpr ⟨fun z => (nI_pos (by omega)) z, (nI_leI (b := 20) (by omega) (by decide)).mpr hc⟩
theorem st_setCap {vr vv : Int32} (hR : RR0 σ qs nT nW f τ D N) (hI : RI τ nT) (hq : qP_setCap G A ad σ qs nT nW vr vv v H) (hc : cm_setCap τ nT nW vr vv x τ') : OKT G A ad H N v x τ' := by
  obtain ⟨r, c, v9, hr, rfl, hc20, ec, h7, hv9, rfl, hP⟩ := hq
  rcases hc with ⟨h1, rfl⟩ | ⟨h1, h2, rfl⟩ | ⟨r', hr', e, h1, rfl, rfl⟩
  · exact absurd ⟨r, hr, rfl⟩ h1
  · rw [cap_of ec hc20] at h2; cases h2
  · obtain rfl := nIe (by omega) (by omega) e
    subst ec
    obtain ⟨p1, p2⟩ := pr_setCap hR hr hc20 h7 hv9
    exact p1.okt (RI.lets hr _ _ (hI.co (by simp [agr, up, thr]))) (by rw [mLet_ne (by decide)]; simp [up, thr]) rfl hP (by rw [p2])
theorem sx_setCap {vr vv : Int32} (hR : RR0 σ qs nT nW f τ D N) (hI : RI τ nT) (hx : xP_setCap G A ad σ qs nT nW vr vv E H) (hc : cm_setCap τ nT nW vr vv x τ') : (E = xIO ∧ EXT G A ad H N 1 τ') ∨ (E = xIA ∧ EXT G A ad H N 2 τ') := by
  obtain ⟨hP, hx⟩ := hx
  simp only [← inB_not] at hx
  rcases hc with ⟨h1, rfl⟩ | ⟨h1, h2, rfl⟩ | ⟨r', hr', e, h1, rfl, rfl⟩
  · rcases hx with ⟨rfl, a1⟩ | ⟨rfl, a1, a2⟩
    · exact Or.inl ⟨rfl, hR.ext hI hP 1⟩
    · exact absurd a1 h1
  · rcases hx with ⟨rfl, a1⟩ | ⟨rfl, a1, a2⟩
    · exact absurd h1 a1
    · exact Or.inr ⟨rfl, hR.ext hI hP 2⟩
  · rcases hx with ⟨rfl, a1⟩ | ⟨rfl, a1, a2⟩
    · exact absurd ⟨r', hr', e⟩ a1
    · rw [a2] at h1; cases h1
/-- a room is closed or opened -/
theorem pr_shut {r : Nat} {b : Int32} (hr : r < 12) (hR : RR0 σ qs nT nW f τ D N) : RR0 (up σ 6 r b) qs nT nW f (up (thr τ 0) 15 r b) D N := by
  obtain ⟨hRN, hRP, hRM, hRT, hRZ, hRD, hRW, hRB, hRA, hRR, hRV, hRO, hRQ, hRC, hRF, hRS, hRX, hRY⟩ := hR
  have s : ∀ gs, 6 ∉ gs → agr gs σ (up σ 6 r b) := fun gs h => agr_up h
  have t : ∀ gs, 15 ∉ gs ∧ 27 ∉ gs → agr gs τ (up (thr τ 0) 15 r b) := fun gs h => (show agr gs τ (thr τ 0) from agr_up h.2).tr (agr_up h.1)
  refine ⟨hRN.co (s _ (by decide)) (t _ (by decide)), hRP.co (s _ (by decide)) (t _ (by decide)), hRM.co (s _ (by decide)) (t _ (by decide)), hRT.co (s _ (by decide)) (t _ (by decide)), hRZ.co (t _ (by decide)), hRD.co (t _ (by decide)), hRW.co (s _ (by decide)) (t _ (by decide)), hRB.co (s _ (by decide)), hRA.co (s _ (by decide)) (t _ (by decide)), fun r' hr' => ?_, hRV.co (s _ (by decide)) (t _ (by decide)), hRO.co (s _ (by decide)) (t _ (by decide)), hRQ.co (t _ (by decide)), hRC.co (t _ (by decide)), hRF.co (s _ (by decide)) (t _ (by decide)), hRS.co (s _ (by decide)), hRX.co (s _ (by decide)), hRY.co (s _ (by decide))⟩
  obtain ⟨x1, x2, x3⟩ := hRR r' hr'
  by_cases d : r' = r
  · subst d
    simp [up, thr, x1]
    exact x3
  · simp [up, thr, d]
    exact ⟨x1, x2, x3⟩
theorem st_close {vr : Int32} {gb : Bool} (hR : RR0 σ qs nT nW f τ D N) (hI : RI τ nT) (hq : qP_close G A ad σ qs nT nW vr gb f v H) (hc : cm_close τ nT vr gb x τ') : OKT G A ad H N v x τ' := by
  obtain ⟨r, hr, rfl, hq⟩ := hq
  have hs := pr_shut (b := b2i gb) hr hR
  have hI1 : RI (up (thr τ 0) 15 r (b2i gb)) nT := hI.co (by simp [agr, up, thr])
  rcases hc with ⟨h1, rfl⟩ | ⟨r', hr', e, h1, rfl, rfl⟩ | ⟨r', hr', e, h1, rfl, rfl⟩
  · exact absurd ⟨r, hr, rfl⟩ h1
  · obtain rfl := nIe (by omega) (by omega) e
    rcases hq with ⟨-, rfl, hP⟩ | ⟨g2, -⟩
    · obtain ⟨c1, c2, c3, c4⟩ := clear_sim hs.k hr
      obtain ⟨hC, hF⟩ := hs.c
      refine (c1.all (hC.less (fun g hg i => mClear_ne (by simp at hg; omega)) c4) (fun r' c' hr' hc' hq' e5 => ?_)).okt (hI1.clear rfl) (by rw [mClear_ne (by decide)]; simp [up, thr]) rfl hP (by rw [c2]; simp [up])
      by_cases d : r' = r
      · subst d
        exact absurd sq_s hq'
      · rw [c3 r' hr' d]
        rw [sq_n d] at hq'
        rw [fSend_ne (by decide)] at e5
        exact hF r' c' hr' hc' hq' e5
    · rw [h1] at g2; cases g2
  · obtain rfl := nIe (by omega) (by omega) e
    rcases hq with ⟨g2, -⟩ | ⟨-, rfl, hP⟩
    · rw [h1] at g2; cases g2
    · exact hs.okt hI1 (by simp [up, thr]) rfl hP rfl
theorem sx_close {vr : Int32} {gb : Bool} (hR : RR0 σ qs nT nW f τ D N) (hI : RI τ nT) (hx : xP_close G A ad σ qs nT nW vr gb f E H) (hc : cm_close τ nT vr gb x τ') : E = xIO ∧ EXT G A ad H N 1 τ' := by
  obtain ⟨hP, rfl, a1⟩ := hx
  rcases hc with ⟨h1, rfl⟩ | ⟨r', hr', e, h1, rfl, rfl⟩ | ⟨r', hr', e, h1, rfl, rfl⟩
  · exact ⟨rfl, hR.ext hI hP 1⟩
  · exact absurd ⟨r', hr', e⟩ a1
  · exact absurd ⟨r', hr', e⟩ a1
theorem st_enter {vt vr : Int32} (hR : RR0 σ qs nT nW f τ D N) (hI : RI τ nT) (hN2 : N < 1000) (hq : qP_enter G A ad σ qs nT nW vt vr v H) (hc : cm_enter τ nT nW vt vr x τ') : OKT G A ad H N v x τ' := by
  obtain ⟨t, r, c, v9, ht, rfl, hr, rfl, hu, ⟨f1, f2, f3⟩, ⟨g1, g2, g3, g4⟩, rfl, hP⟩ := hq
  have h80 := hR.n80
  have hRR := hR.2.2.2.2.2.2.2.2.2.1 r hr
  have ok : mNow τ t = true ∧ mFor τ t (nI (r / 3)) = true ∧ τ 10 t = -1 ∧ τ 15 r = 0 := ⟨(now_use hR ht).mpr hu, by rw [for_eq hR ht]; exact f1, (m1_iff hR ht).mpr f2, hRR.2.1.trans f3⟩
  have hft := now_f hR ht ok.1
  have e14 : thr τ 0 14 r = nI c := by rw [thr_o (by decide), hRR.1, g1]
  have hin := in_le (τ := τ) (r := r) (nT := nT)
  have ein : cntF (mIn (thr τ 0) (nI r)) 0 nT = cntF (mIn τ (nI r)) 0 nT := by
    rw [mIn.co (show agr [10] τ (thr τ 0) from agr_up (by decide))]
  rcases hc with ⟨h1, rfl⟩ | ⟨t', r', ht', e, hr', e', h1, rfl⟩ | ⟨t', r', ht', e, hr', e', h1, ⟨h2, h3⟩, rfl, rfl⟩ | ⟨t', r', ht', e, hr', e', h1, h2, rfl, rfl⟩
  · exact absurd ⟨⟨t, ht, rfl⟩, ⟨r, hr, rfl⟩⟩ h1
  · obtain rfl := nIe (by omega) (by omega) e
    obtain rfl := nIe (by omega) (by omega) e'
    exact absurd ok h1
  · obtain rfl := nIe (by omega) (by omega) e
    obtain rfl := nIe (by omega) (by omega) e'
    rw [ein, e14] at h2
    have hlt := (nI_ltI (by omega) (by omega)).mp h2
    have hq0 : qs r = [] := Classical.byContradiction (fun z => by
      have := hR.c.2 r c hr g3 z g1
      omega)
    obtain ⟨p1, p2⟩ := pr_enterR hR ht hft hr ok.2.2.1 g1 g2 g3 g4 hlt hq0
    exact p2.okt (hI.th.see hr) (by rw [mSee_ne (by decide)]; exact thr_27) rfl hP (by rw [p1]; rfl)
  · obtain rfl := nIe (by omega) (by omega) e
    obtain rfl := nIe (by omega) (by omega) e'
    have hge : c ≤ cntF (mIn τ (nI r)) 0 nT := Nat.le_of_not_lt (fun z => h2 ⟨by rw [ein, e14]; exact (nI_ltI (by omega) (by omega)).mpr z, mQ_no hR.th.k.2.2.2.2.2.2.2.2.2.2.1 h80.1 hr (fun j hj => by
      have hq0 : qs r = [] := Classical.byContradiction (fun y => by
        have := hR.c.2 r c hr g3 y g1
        omega)
      rw [hq0] at hj
      exact absurd hj (Nat.not_lt_zero j))⟩)
    obtain ⟨p1, p2⟩ := pr_enterQ hR hN2 ht hft hr ok.2.2.1 g1 g2 g3 g4 hge
    refine ⟨by simp [up, thr], by rw [p1]; rfl, ad, _, _, nT, nW, f, D, rfl, hP, p2, ?_⟩
    exact hI.put (t := t) (x := 100 + nI r) (fun r' hr' z => n_q hr' hr z.symm) (fun i => by simp [up, thr]) (fun u => by simp [up, thr])
theorem sx_enter {vt vr : Int32} (hR : RR0 σ qs nT nW f τ D N) (hI : RI τ nT) (hx : xP_enter G A ad σ qs nT nW vt vr E H) (hc : cm_enter τ nT nW vt vr x τ') : (E = xIO ∧ EXT G A ad H N 1 τ') ∨ (E = xIS ∧ EXT G A ad H N 2 τ') := by
  obtain ⟨hP, hx⟩ := hx
  have h80 := hR.n80
  have key : ∀ t' r', t' < nT → vt = nI t' → r' < 12 → vr = nI r' → (mNow τ t' = true ∧ mFor τ t' (nI (r' / 3)) = true ∧ τ 10 t' = -1 ∧ τ 15 r' = 0) → (E = xIO ∧ EXT G A ad H N 1 τ') ∨ (E = xIS ∧ EXT G A ad H N 2 τ') := by
    intro t' r' ht' e hr' e' ⟨b1, b2, b3, b4⟩
    have b1' := (now_use hR ht').mp b1
    rw [for_eq hR ht'] at b2
    have b4' := (hR.2.2.2.2.2.2.2.2.2.1 r' hr').2.1.symm.trans b4
    rcases hx with ⟨rfl, a1⟩ | ⟨rfl, a1⟩ | ⟨rfl, k, hk, e2, -, a1⟩ | ⟨rfl, k, hk, e2, w, hw, e3, a1⟩
    · exact absurd ⟨t', ht', e⟩ a1
    · exact absurd ⟨r', hr', e'⟩ a1
    · obtain rfl := nIe (by omega) (by omega) (e2.symm.trans e)
      rcases a1 with a1 | a1
      · exact absurd a1 b1'.1
      · exact absurd b1'.2 a1
    · obtain rfl := nIe (by omega) (by omega) (e2.symm.trans e)
      obtain rfl := nIe (by omega) (by omega) (e3.symm.trans e')
      exact absurd ⟨b2, (m1_iff hR ht').mp b3, b4'⟩ a1
  rcases hc with ⟨h1, rfl⟩ | ⟨t', r', ht', e, hr', e', h1, rfl⟩ | ⟨t', r', ht', e, hr', e', h1, h2, -, -⟩ | ⟨t', r', ht', e, hr', e', h1, h2, -, -⟩
  · rcases hx with ⟨rfl, a1⟩ | ⟨rfl, a1⟩ | ⟨rfl, k, hk, e2, a2, a1⟩ | ⟨rfl, k, hk, e2, w, hw, e3, a1⟩
    · exact Or.inl ⟨rfl, hR.ext hI hP 1⟩
    · exact Or.inl ⟨rfl, hR.ext hI hP 1⟩
    · exact absurd ⟨⟨k, hk, e2⟩, a2⟩ h1
    · exact absurd ⟨⟨k, hk, e2⟩, ⟨w, hw, e3⟩⟩ h1
  · rcases hx with ⟨rfl, a1⟩ | ⟨rfl, a1⟩ | ⟨rfl, -⟩ | ⟨rfl, -⟩
    · exact absurd ⟨t', ht', e⟩ a1
    · exact absurd ⟨r', hr', e'⟩ a1
    · exact Or.inr ⟨rfl, hR.ext hI hP 2⟩
    · exact Or.inr ⟨rfl, hR.ext hI hP 2⟩
  · exact key t' r' ht' e hr' e' h1
  · exact key t' r' ht' e hr' e' h1
theorem st_goOut {vt : Int32} (hR : RR0 σ qs nT nW f τ D N) (hI : RI τ nT) (hq : qP_goOut G A ad σ qs nT nW vt v H) (hc : cm_goOut τ nT nW vt x τ') : OKT G A ad H N v x τ' := by
  obtain ⟨t, r, c, v9, ht, rfl, hr, e16, ⟨g1, g2, g3, g4⟩, rfl, hq⟩ := hq
  have h80 := hR.n80
  rcases hc with ⟨h1, rfl⟩ | ⟨t', ht', e, h1, rfl⟩ | ⟨t', r', ht', e, hr', h1, rfl, rfl⟩
  · exact absurd ⟨t, ht, rfl⟩ h1
  · obtain rfl := nIe (by omega) (by omega) e
    exact absurd (((m1_iff hR ht).mp h1).symm.trans e16) (n_m1 r hr)
  · obtain rfl := nIe (by omega) (by omega) e
    have hI2 : ∀ r, r < 12 → RI (mLet nW nT r nT (up (thr τ 0) 10 t (-1))) nT := fun r hr => RI.lets hr _ _ (hI.put (t := t) (x := -1) (fun r hr => n_m1 r hr) (fun i => by simp [up, thr]) (fun u => n10l u))
    rcases hq with ⟨e17, hP⟩ | ⟨e17, -, hP⟩
    · obtain ⟨p1, p2⟩ := pr_outQ hR ht hr e16 e17 g1 g3 g2 g4
      have er : r' = r := by
        rcases h1 with h1 | h1
        · exact absurd (h1.symm.trans p1) (n_q hr' hr)
        · exact q_inj hr' hr (h1.symm.trans p1)
      subst er
      exact p2.okt (hI2 _ hr) (by rw [mLet_ne (by decide)]; simp [up, thr]) rfl hP rfl
    · obtain ⟨p1, -, p2⟩ := pr_outR hR ht hr e16 e17 g1 g3 g2 g4
      have er : r' = r := by
        rcases h1 with h1 | h1
        · exact nIe (by omega) (by omega) (h1.symm.trans p1)
        · exact absurd (p1.symm.trans h1) (n_q hr hr')
      subst er
      exact p2.okt (hI2 _ hr) (by rw [mLet_ne (by decide)]; simp [up, thr]) rfl hP rfl
theorem sx_goOut {vt : Int32} (hR : RR0 σ qs nT nW f τ D N) (hI : RI τ nT) (hx : xP_goOut G A ad σ qs nT nW vt E H) (hc : cm_goOut τ nT nW vt x τ') : (E = xIO ∧ EXT G A ad H N 1 τ') ∨ (E = xIS ∧ EXT G A ad H N 2 τ') := by
  obtain ⟨hP, hx⟩ := hx
  have h80 := hR.n80
  rcases hc with ⟨h1, rfl⟩ | ⟨t', ht', e, h1, rfl⟩ | ⟨t', r', ht', e, hr', h1, rfl, rfl⟩
  · rcases hx with ⟨rfl, a1⟩ | ⟨rfl, k, hk, e2, -⟩
    · exact Or.inl ⟨rfl, hR.ext hI hP 1⟩
    · exact absurd ⟨k, hk, e2⟩ h1
  · rcases hx with ⟨rfl, a1⟩ | ⟨rfl, -⟩
    · exact absurd ⟨t', ht', e⟩ a1
    · exact Or.inr ⟨rfl, hR.ext hI hP 2⟩
  · rcases hx with ⟨rfl, a1⟩ | ⟨rfl, k, hk, e2, a1⟩
    · exact absurd ⟨t', ht', e⟩ a1
    · obtain rfl := nIe (by omega) (by omega) (e2.symm.trans e)
      have b := (m1_iff hR hk).mpr a1
      rcases h1 with h1 | h1
      · exact absurd (b.symm.trans h1) (n_m1 r' hr')
      · exact absurd (b.symm.trans h1) (q_m1 r' hr')
end STEPS2
