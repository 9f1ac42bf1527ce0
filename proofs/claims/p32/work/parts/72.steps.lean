/-! STEPS: what the class answers is what the reference answers -/
theorem or0 {x y : Int32} (h : x ||| y = 0) : y = 0 := by
  apply Int32.toBitVec.inj
  have h1 : x.toBitVec ||| y.toBitVec = (0 : Int32).toBitVec := congrArg Int32.toBitVec h
  apply BitVec.eq_of_getLsbD_eq
  intro i hi
  have h2 := congrArg (fun z => z.getLsbD i) h1
  simp only [BitVec.getLsbD_or] at h2
  rw [show (0 : Int32).toBitVec = 0#32 from rfl, BitVec.getLsbD_zero] at h2 ⊢
  cases c : y.toBitVec.getLsbD i with
  | false => rfl
  | true => rw [c, Bool.or_true] at h2; cases h2
/-- who is in a room has seen one -/
def RI (τ : SG) (nT : Nat) : Prop := ∀ t, t < nT → ∀ r, r < 12 → τ 10 t = nI r → τ 13 t ≠ 0
def OKT (G : GE) (A : Nat → Prop) (ad : Nat → Nat → Nat) (H : Heap) (N : Nat) (v : Option Value) (x : Int32) (τ' : SG) : Prop :=
  τ' 27 0 = 0 ∧ v = some (.int x) ∧ ∃ (ad' : Nat → Nat → Nat) (σ' : SG) (qs' : Nat → List Nat) (nT' nW' f' D' : Nat), ad' 0 0 = ad 0 0 ∧ PX G A ad' σ' qs' nT' nW' H ∧ RR0 σ' qs' nT' nW' f' τ' D' (N + 1) ∧ RI τ' nT'
def EXT (G : GE) (A : Nat → Prop) (ad : Nat → Nat → Nat) (H : Heap) (N : Nat) (k : Int32) (τ' : SG) : Prop :=
  τ' 27 0 = k ∧ ∃ (ad' : Nat → Nat → Nat) (σ' : SG) (qs' : Nat → List Nat) (nT' nW' f' D' : Nat), ad' 0 0 = ad 0 0 ∧ PX G A ad' σ' qs' nT' nW' H ∧ RR0 σ' qs' nT' nW' f' τ' D' (N + 1) ∧ RI τ' nT'
section RIS
variable {τ τ' : SG} {nT nW r t : Nat}
theorem RI.co (h : RI τ nT) (a : agr [10, 13] τ τ') : RI τ' nT := fun t ht r hr e => by
  rw [a.at (by simp)] at e ⊢
  exact h t ht r hr e
theorem RI.th (h : RI τ nT) {k : Int32} : RI (thr τ k) nT := h.co (agr_up (by simp))
theorem RI.put (h : RI τ nT) {x : Int32} (hx : ∀ r, r < 12 → x ≠ nI r) (a : ∀ i, τ' 13 i = τ 13 i) (b : ∀ u, τ' 10 u = if u = t then x else τ 10 u) : RI τ' nT := fun u hu r hr e => by
  rw [b] at e
  rw [a]
  by_cases c : u = t
  · rw [if_pos c] at e; exact absurd e (hx r hr)
  · rw [if_neg c] at e; exact h u hu r hr e
theorem RI.see (h : RI τ nT) (hr : r < 12) : RI (mSee nW t r τ) nT := fun u hu r' hr' e => by
  have n13 : mSee nW t r τ 13 u = if u = t ∧ ¬ mBit (τ 13 t) r = 1 then τ 13 t ||| ((1 : Int32) <<< (nI r &&& 31)) else τ 13 u := by
    unfold mSee
    by_cases c : mBit (τ 13 t) r = 1
    · rw [if_pos c, if_neg (fun z => z.2 c), up_f (by decide)]
    · rw [if_neg c]
      unfold mSeeL
      rw [itr_neM (fun i σ => mView_ne (by decide))]
      by_cases d : u = t
      · rw [if_pos ⟨d, c⟩]; simp [up, d]
      · rw [if_neg (fun z => d z.1)]; simp [up, d]
  rw [n13]
  by_cases c : u = t
  · subst c
    by_cases d : mBit (τ 13 u) r = 1
    · rw [if_neg (fun z => z.2 d)]
      intro z
      rw [z] at d
      exact (by decide +kernel : ∀ r, r < 12 → ¬ mBit 0 r = 1) r hr d
    · rw [if_pos ⟨rfl, d⟩]
      exact fun z => (by decide +kernel : ∀ r, r < 12 → ¬ (1 : Int32) <<< (nI r &&& 31) = 0) r hr (or0 z)
  · rw [if_neg (fun z => c z.1)]
    rw [mSee_10] at e
    simp [up, c] at e
    exact h u hu r' hr' e
theorem RI.lets {n : Nat} (hr : r < 12) : ∀ (k : Nat) (τ : SG), RI τ nT → RI (mLet nW n r k τ) nT
  | 0, _, h => h
  | k + 1, τ, h => by
    unfold mLet
    split
    · exact RI.lets hr k _ (h.see hr)
    · exact h
theorem RI.clear {n : Nat} (h : RI τ nT) (hn : n = nT) : RI (mClear τ n r).1 nT := fun u hu r' hr' e => by
  subst hn
  rw [mClear_ne (by decide)]
  rw [clr_at] at e
  by_cases d : u < n ∧ mOut τ r u = true
  · rw [if_pos d] at e; exact absurd e (n_m1 r' hr')
  · rw [if_neg d] at e; exact h u hu r' hr' e
theorem RI.clears : ∀ (n a : Nat) (τ : SG), RI τ nT → RI (itr (mClrR nT) a n τ) nT
  | 0, _, _, h => h
  | n + 1, a, τ, h => RI.clears n (a + 1) _ (show RI (mClrR nT a τ) nT from h.clear rfl)
theorem RI.day (h : RI τ nT) : RI (mEnd nT τ) nT := by
  have h1 : RI (mEnd1 nT τ) nT := RI.clears 12 0 τ h
  have h2 : RI (mEnd2 nT τ) nT := h1.co (fun g hg i => itr_neM (fun _ _ => mShT_ne (by simp at hg; omega)) _ _ _)
  have h3 : RI (mEnd3 nT τ) nT := h2.co (fun g hg i => itr_neM (fun _ _ => mShM_ne (by simp at hg; omega)) _ _ _)
  unfold mEnd
  exact h3.co (agr_up (by simp))
theorem RI.days : ∀ (d : Nat) (τ : SG), RI τ nT → RI (mDays nT d τ) nT
  | 0, _, h => h
  | d + 1, τ, h => RI.days d _ h.day
theorem RI.make {so ho me co : Int32} (h : RI τ nT) : RI (mMake (thr τ 0) nT so ho me co) (nT + 1) := fun u hu r hr e => by
  by_cases c : u = nT
  · subst c
    simp [mMake, up] at e
    exact absurd e (n_m1 r hr)
  · rw [mk_τ (Or.inl c) (by decide)] at e ⊢
    exact h u (by omega) r hr e
end RIS
section STEPS
variable {G : GE} {A : Nat → Prop} {ad : Nat → Nat → Nat} {σ τ τ' : SG} {qs : Nat → List Nat} {nT nW f D N : Nat} {H : Heap} {v : Option Value} {x : Int32} {E : String}
theorem RR0.ext (hR : RR0 σ qs nT nW f τ D N) (hI : RI τ nT) (hP : PX G A ad σ qs nT nW H) (k : Int32) : EXT G A ad H N k (thr τ k) := ⟨thr_27, ad, σ, qs, nT, nW, f, D, rfl, hP, hR.th.more, hI.th⟩
theorem RR0.okt (hR : RR0 σ qs nT nW f τ' D N) (hI : RI τ' nT) (h27 : τ' 27 0 = 0) {ad' : Nat → Nat → Nat} (ha : ad' 0 0 = ad 0 0) (hP : PX G A ad' σ qs nT nW H) (hv : v = some (.int x)) : OKT G A ad H N v x τ' := ⟨h27, hv, ad', σ, qs, nT, nW, f, D, ha, hP, hR.more, hI⟩
theorem now_use (hR : RR0 σ qs nT nW f τ D N) {t : Nat} (ht : t < nT) : mNow τ t = true ↔ (¬ nI t < σ 26 0 ∧ σ 14 t = 0) := by
  obtain ⟨hN, hP, hM, hT, hZ, hD, -⟩ := hR
  have h80 := hN.2.2.1
  have hfn := hN.2.1
  rw [hN.1]
  by_cases c : t < f
  · rw [now_no hN hD c]
    exact ⟨fun z => (by cases z), fun z => absurd ((nI_ltI (by omega) (by omega)).mpr c) z.1⟩
  · rw [now_iff hN hD hT (by omega) ht]
    simp only [decide_eq_true_eq]
    exact ⟨fun z => ⟨fun y => c ((nI_ltI (by omega) (by omega)).mp y), z⟩, fun z => z.2⟩
theorem for_eq (hR : RR0 σ qs nT nW f τ D N) {t : Nat} (ht : t < nT) (hh : Int32) : mFor τ t hh = fFor (σ 11 t) hh := by
  obtain ⟨hN, hP, hM, hT, hZ, hD, hW, hB, hA, hRR, hV, hO, hQ, hC, hF, hS, -⟩ := hR
  obtain ⟨e4, e5, -⟩ := hT t ht
  unfold mFor fFor
  rw [e4, e5]
  rcases (hS t ht).1 with ⟨a1, h, a2, a3⟩ | ⟨a1, a2⟩
  · rw [a3]
    have : ¬ nI h = -1 := nI_ne1 a2
    simp [a1, this]
  · simp [a1, a2]
theorem m1_iff (hR : RR0 σ qs nT nW f τ D N) {t : Nat} (ht : t < nT) : τ 10 t = -1 ↔ σ 16 t = -1 := by
  obtain ⟨hN, hP, hM, hT, hZ, hD, hW, hB, hA, hRR, hV, hO, -⟩ := hR
  rcases (hO t ht).1 with ⟨a1, -, a3⟩ | ⟨r, hr, a1, ⟨-, a3⟩ | ⟨-, a3⟩⟩
  · rw [a1, a3]
  · rw [a1, a3]
  · rw [a1, a3]
    exact ⟨fun z => absurd z.symm (q_m1 r hr), fun z => absurd z.symm (n_m1 r hr)⟩
theorem bel_eq (hR : RR0 σ qs nT nW f τ D N) {k : Nat} (hk : k < 6) : fBel (τ 2 k) (τ 26 0) = fBel (σ 9 k) (σ 25 0) := by
  obtain ⟨hN, hP, hM, -⟩ := hR
  rw [hM k hk, hN.2.2.2.2.2.2.1, hN.2.2.2.2.2.2.2.1]
theorem has_cnt (hR : RR0 σ qs nT nW f τ D N) (mm so : Int32) : cntF (mHas τ mm so) 0 nT = cntF (pOf σ mm so) f (nT - f) := by
  obtain ⟨hN, hP, hM, hT, hZ, hD, -⟩ := hR
  have hfn := hN.2.1
  have h := cnt_add (p := mHas τ mm so) f (nT - f) 0
  rw [show f + (nT - f) = nT by omega, Nat.zero_add, cnt_zero f 0 (fun i _ h2 => by rw [has_no hN hD (by omega)]; exact fun z => by cases z), Nat.zero_add] at h
  rw [h]
  exact cnt_co _ _ (fun i h1 h2 => has_iff hN hD hT h1 (by omega) mm so)
theorem cnt_none {p : Nat → Bool} : ∀ (n a : Nat), cntF p a n = 0 → ∀ i, a ≤ i → i < a + n → ¬ p i = true
  | 0, a, _, i, h1, h2 => by omega
  | n + 1, a, h, i, h1, h2 => by
    simp only [cntF] at h
    by_cases c : i = a
    · subst c
      intro z
      rw [if_pos z] at h
      omega
    · exact cnt_none n (a + 1) (by omega) i (by omega) (by omega)
theorem st_setPrice {hh vv : Int32} (hR : RR0 σ qs nT nW f τ D N) (hI : RI τ nT) (hq : qP_setPrice G A ad σ qs nT nW hh vv v H) (hc : cm_setPrice τ hh vv x τ') : OKT G A ad H N v x τ' := by
  obtain ⟨j, hj, ej, hv, rfl, hP⟩ := hq
  rcases hc with ⟨h1, rfl⟩ | ⟨h1, h2, rfl⟩ | ⟨h1, h2, rfl, rfl⟩ | ⟨h, hh4, e1, h2, rfl, rfl⟩
  · exact absurd (hs_iff.mp ⟨j, hj, ej⟩) h1
  · rw [inB_iff.mpr hv] at h2; cases h2
  · obtain rfl : j = 0 := nIe (by omega) (by decide) (ej.symm.trans (hs_0.mpr h1))
    exact (pr_price0 hR).okt (hI.co (by simp [agr, up, thr])) (by simp [up, thr]) rfl hP (by rw [thr_o (by decide), hR.2.1.1])
  · obtain rfl : j = h + 1 := nIe (by omega) (by omega) (ej.symm.trans (hs_s.mpr e1))
    exact (pr_priceh hh4 hR).okt (hI.co (by simp [agr, up, thr])) (by simp [up, thr]) rfl hP (by rw [thr_o (by decide), hR.2.1.2 h hh4])
theorem sx_setPrice {hh vv : Int32} (hR : RR0 σ qs nT nW f τ D N) (hI : RI τ nT) (hx : xP_setPrice G A ad σ qs nT nW hh vv E H) (hc : cm_setPrice τ hh vv x τ') : (E = xIO ∧ EXT G A ad H N 1 τ') ∨ (E = xIA ∧ EXT G A ad H N 2 τ') := by
  obtain ⟨hP, hx⟩ := hx
  simp only [hs_iff, ← inB_not] at hx
  rcases hx with ⟨rfl, a1⟩ | ⟨rfl, a1, a2⟩
  · rcases hc with ⟨h1, rfl⟩ | ⟨h1, h2, rfl⟩ | ⟨h1, h2, rfl, rfl⟩ | ⟨h, hh4, e1, h2, rfl, rfl⟩
    · exact Or.inl ⟨rfl, hR.ext hI hP 1⟩
    · exact absurd h1 a1
    · exact absurd (Or.inl h1) a1
    · exact absurd (Or.inr ⟨h, hh4, e1⟩) a1
  · rcases hc with ⟨h1, rfl⟩ | ⟨h1, h2, rfl⟩ | ⟨h1, h2, rfl, rfl⟩ | ⟨h, hh4, e1, h2, rfl, rfl⟩
    · exact absurd a1 h1
    · exact Or.inr ⟨rfl, hR.ext hI hP 2⟩
    · rw [a2] at h2; cases h2
    · rw [a2] at h2; cases h2
theorem st_buy {hh : Int32} (hR : RR0 σ qs nT nW f τ D N) (hI : RI τ nT) (hq : qP_buy G A ad σ qs nT nW hh v H) (hc : cm_buy τ nT hh x τ') : OKT G A ad H N v x τ' := by
  obtain ⟨j, hj, ej, h80, rfl, q, hP⟩ := hq
  rcases hc with ⟨h1, rfl⟩ | ⟨h1, h2, rfl⟩ | ⟨h1, h2, rfl, e2⟩ | ⟨h, hh4, e1, h2, rfl, e2⟩
  · exact absurd (hs_iff.mp ⟨j, hj, ej⟩) h1
  · omega
  · obtain rfl : j = 0 := nIe (by omega) (by decide) (ej.symm.trans (hs_0.mpr h1))
    subst h1
    rw [thr_o (by decide), hR.2.1.1] at e2
    subst e2
    exact (pr_make (so := 1) (ho := -1) (me := -1) h80 (Or.inr ⟨by decide, rfl⟩) (fun z => absurd z (by decide)) (fun z => absurd z (by decide)) hR).okt hI.make (by simp [mMake, up, thr]) (by simp [adN]) hP rfl
  · obtain rfl : j = h + 1 := nIe (by omega) (by omega) (ej.symm.trans (hs_s.mpr e1))
    subst e1
    rw [thr_o (by decide), hR.2.1.2 h hh4] at e2
    subst e2
    rw [show b2i (decide (nI h = -1)) = 0 from by rw [decide_eq_false (nI_ne1 hh4)]; rfl] at hP
    exact (pr_make (so := 0) (ho := nI h) (me := -1) h80 (Or.inl ⟨rfl, h, hh4, rfl⟩) (fun z => absurd z (by decide)) (fun z => absurd z (by decide)) hR).okt hI.make (by simp [mMake, up, thr]) (by simp [adN]) hP rfl
theorem sx_buy {hh : Int32} (hR : RR0 σ qs nT nW f τ D N) (hI : RI τ nT) (hx : xP_buy G A ad σ qs nT nW hh E H) (hc : cm_buy τ nT hh x τ') : (E = xIO ∧ EXT G A ad H N 1 τ') ∨ (E = xIS ∧ EXT G A ad H N 2 τ') := by
  obtain ⟨hP, hx⟩ := hx
  simp only [hs_iff] at hx
  rcases hx with ⟨rfl, a1⟩ | ⟨rfl, a1, a2⟩
  · rcases hc with ⟨h1, rfl⟩ | ⟨h1, h2, rfl⟩ | ⟨h1, h2, rfl, rfl⟩ | ⟨h, hh4, e1, h2, rfl, rfl⟩
    · exact Or.inl ⟨rfl, hR.ext hI hP 1⟩
    · exact absurd h1 a1
    · exact absurd (Or.inl h1) a1
    · exact absurd (Or.inr ⟨h, hh4, e1⟩) a1
  · rcases hc with ⟨h1, rfl⟩ | ⟨h1, h2, rfl⟩ | ⟨h1, h2, rfl, rfl⟩ | ⟨h, hh4, e1, h2, rfl, rfl⟩
    · exact absurd a1 h1
    · exact Or.inr ⟨rfl, hR.ext hI hP 2⟩
    · omega
    · omega
theorem st_admitM {vm : Int32} (hR : RR0 σ qs nT nW f τ D N) (hI : RI τ nT) (hq : qP_admitM G A ad σ qs nT nW vm f v H) (hc : cm_admitM τ nT vm x τ') : OKT G A ad H N v x τ' := by
  obtain ⟨k, hk, rfl, hb, hc0, h80, rfl, q, hP⟩ := hq
  have hb' := bel_eq hR.th (k := k) hk (τ := thr τ 0)
  rcases hc with ⟨h1, rfl⟩ | ⟨k', hk', ek, h1, rfl⟩ | ⟨k', hk', ek, h1, h2, h3, rfl, rfl⟩
  · exact absurd ⟨k, hk, rfl⟩ h1
  · obtain rfl := nIe (by omega) (by omega) ek
    rw [hb', has_cnt hR.th, hb] at h1
    rcases h1 with z | z | z
    · cases z
    · exact absurd hc0 z
    · omega
  · obtain rfl := nIe (by omega) (by omega) ek
    refine (pr_make (so := 2) (ho := -1) (me := nI k) (co := 0) h80 (Or.inr ⟨by decide, rfl⟩) (fun _ => ⟨k, hk, rfl, hb⟩) (fun _ t t1 t2 t3 t4 t5 => ?_) hR).okt hI.make (by simp [mMake, up, thr]) (by simp [adN]) hP rfl
    exact cnt_none _ _ hc0 t t1 (by omega) (pOf_iff.mpr ⟨t4, t3, t5⟩)
theorem sx_admitM {vm : Int32} (hR : RR0 σ qs nT nW f τ D N) (hI : RI τ nT) (hx : xP_admitM G A ad σ qs nT nW vm f E H) (hc : cm_admitM τ nT vm x τ') : (E = xIO ∧ EXT G A ad H N 1 τ') ∨ (E = xIS ∧ EXT G A ad H N 2 τ') := by
  obtain ⟨hP, hx⟩ := hx
  rcases hc with ⟨h1, rfl⟩ | ⟨k', hk', ek, h1, rfl⟩ | ⟨k', hk', ek, h1, h2, h3, rfl, rfl⟩
  · rcases hx with ⟨rfl, a1⟩ | ⟨rfl, k, hk, e, -⟩ | ⟨rfl, k, hk, e, -⟩ | ⟨rfl, a1, -⟩
    · exact Or.inl ⟨rfl, hR.ext hI hP 1⟩
    · exact absurd ⟨k, hk, e⟩ h1
    · exact absurd ⟨k, hk, e⟩ h1
    · exact absurd a1 h1
  · rcases hx with ⟨rfl, a1⟩ | ⟨rfl, -⟩ | ⟨rfl, -⟩ | ⟨rfl, -⟩
    · exact absurd ⟨k', hk', ek⟩ a1
    · exact Or.inr ⟨rfl, hR.ext hI hP 2⟩
    · exact Or.inr ⟨rfl, hR.ext hI hP 2⟩
    · exact Or.inr ⟨rfl, hR.ext hI hP 2⟩
  · rw [bel_eq hR.th hk'] at h1
    rw [has_cnt hR.th] at h2
    rcases hx with ⟨rfl, a1⟩ | ⟨rfl, k, hk, e, a1⟩ | ⟨rfl, k, hk, e, a1⟩ | ⟨rfl, -, a1⟩
    · exact absurd ⟨k', hk', ek⟩ a1
    · obtain rfl := nIe (by omega) (by omega) (e.symm.trans ek)
      rw [h1] at a1; cases a1
    · obtain rfl := nIe (by omega) (by omega) (e.symm.trans ek)
      exact absurd h2 a1
    · omega
theorem st_admitG {vm : Int32} (hR : RR0 σ qs nT nW f τ D N) (hI : RI τ nT) (hq : qP_admitG G A ad σ qs nT nW vm f v H) (hc : cm_admitG τ nT vm x τ') : OKT G A ad H N v x τ' := by
  obtain ⟨k, hk, rfl, hb, hc0, h80, rfl, q, hP⟩ := hq
  have hb' := bel_eq hR.th (k := k) hk (τ := thr τ 0)
  rcases hc with ⟨h1, rfl⟩ | ⟨k', hk', ek, h1, rfl⟩ | ⟨k', hk', ek, h1, h2, h3, rfl, e2⟩
  · exact absurd ⟨k, hk, rfl⟩ h1
  · obtain rfl := nIe (by omega) (by omega) ek
    rw [hb', has_cnt hR.th, has_cnt hR.th, hb] at h1
    rcases h1 with z | z | z
    · cases z
    · exact absurd hc0 z
    · omega
  · obtain rfl := nIe (by omega) (by omega) ek
    rw [thr_o (by decide), hR.2.1.1] at e2
    subst e2
    exact (pr_make (so := 3) (ho := -1) (me := nI k) h80 (Or.inr ⟨by decide, rfl⟩) (fun z => absurd z (by decide)) (fun z => absurd z (by decide)) hR).okt hI.make (by simp [mMake, up, thr]) (by simp [adN]) hP rfl
theorem sx_admitG {vm : Int32} (hR : RR0 σ qs nT nW f τ D N) (hI : RI τ nT) (hx : xP_admitG G A ad σ qs nT nW vm f E H) (hc : cm_admitG τ nT vm x τ') : (E = xIO ∧ EXT G A ad H N 1 τ') ∨ (E = xIS ∧ EXT G A ad H N 2 τ') := by
  obtain ⟨hP, hx⟩ := hx
  rcases hc with ⟨h1, rfl⟩ | ⟨k', hk', ek, h1, rfl⟩ | ⟨k', hk', ek, h1, h2, h3, rfl, rfl⟩
  · rcases hx with ⟨rfl, a1⟩ | ⟨rfl, k, hk, e, -⟩ | ⟨rfl, k, hk, e, -⟩ | ⟨rfl, k, hk, e, -⟩ | ⟨rfl, a1, -⟩
    · exact Or.inl ⟨rfl, hR.ext hI hP 1⟩
    · exact absurd ⟨k, hk, e⟩ h1
    · exact absurd ⟨k, hk, e⟩ h1
    · exact absurd ⟨k, hk, e⟩ h1
    · exact absurd a1 h1
  · rcases hx with ⟨rfl, a1⟩ | ⟨rfl, -⟩ | ⟨rfl, -⟩ | ⟨rfl, -⟩ | ⟨rfl, -⟩
    · exact absurd ⟨k', hk', ek⟩ a1
    · exact Or.inr ⟨rfl, hR.ext hI hP 2⟩
    · exact Or.inr ⟨rfl, hR.ext hI hP 2⟩
    · exact Or.inr ⟨rfl, hR.ext hI hP 2⟩
    · exact Or.inr ⟨rfl, hR.ext hI hP 2⟩
  · rw [bel_eq hR.th hk'] at h1
    rw [has_cnt hR.th, has_cnt hR.th] at h2
    rcases hx with ⟨rfl, a1⟩ | ⟨rfl, k, hk, e, a1⟩ | ⟨rfl, k, hk, e, a1⟩ | ⟨rfl, k, hk, e, a1⟩ | ⟨rfl, -, a1⟩
    · exact absurd ⟨k', hk', ek⟩ a1
    · obtain rfl := nIe (by omega) (by omega) (e.symm.trans ek)
      rw [h1] at a1; cases a1
    · obtain rfl := nIe (by omega) (by omega) (e.symm.trans ek)
      exact absurd a1 h2.1
    · obtain rfl := nIe (by omega) (by omega) (e.symm.trans ek)
      exact absurd h2.2 a1
    · omega
theorem st_join {vm : Int32} (hR : RR0 σ qs nT nW f τ D N) (hI : RI τ nT) (hq : qP_join G A ad σ qs nT nW vm v H) (hc : cm_join τ vm x τ') : OKT G A ad H N v x τ' := by
  obtain ⟨k, hk, rfl, hb, rfl, hP⟩ := hq
  have e25 : thr τ 0 26 0 = σ 25 0 := by rw [thr_o (by decide), hR.1.2.2.2.2.2.2.1, hR.1.2.2.2.2.2.2.2.1]
  rcases hc with ⟨h1, rfl⟩ | ⟨k', hk', ek, h1, rfl⟩ | ⟨k', hk', ek, h1, rfl, rfl⟩
  · exact absurd ⟨k, hk, rfl⟩ h1
  · obtain rfl := nIe (by omega) (by omega) ek
    rw [bel_eq hR hk, hb] at h1; cases h1
  · obtain rfl := nIe (by omega) (by omega) ek
    exact (pr_join hk hb hR).okt (hI.co (by simp [agr, up, thr])) (by simp [up, thr]) rfl hP (by rw [e25])
theorem sx_join {vm : Int32} (hR : RR0 σ qs nT nW f τ D N) (hI : RI τ nT) (hx : xP_join G A ad σ qs nT nW vm E H) (hc : cm_join τ vm x τ') : (E = xIO ∧ EXT G A ad H N 1 τ') ∨ (E = xIS ∧ EXT G A ad H N 2 τ') := by
  obtain ⟨hP, hx⟩ := hx
  rcases hc with ⟨h1, rfl⟩ | ⟨k', hk', ek, h1, rfl⟩ | ⟨k', hk', ek, h1, rfl, rfl⟩
  · rcases hx with ⟨rfl, a1⟩ | ⟨rfl, k, hk, e, -⟩
    · exact Or.inl ⟨rfl, hR.ext hI hP 1⟩
    · exact absurd ⟨k, hk, e⟩ h1
  · rcases hx with ⟨rfl, a1⟩ | ⟨rfl, -⟩
    · exact absurd ⟨k', hk', ek⟩ a1
    · exact Or.inr ⟨rfl, hR.ext hI hP 2⟩
  · rcases hx with ⟨rfl, a1⟩ | ⟨rfl, k, hk, e, a1⟩
    · exact absurd ⟨k', hk', ek⟩ a1
    · obtain rfl := nIe (by omega) (by omega) (e.symm.trans ek)
      rw [bel_eq hR hk, a1] at h1; cases h1
end STEPS
