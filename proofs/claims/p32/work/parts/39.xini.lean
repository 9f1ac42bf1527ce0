/-! THE CLASS'S CONSTRUCTOR -/
theorem any_own {A : Nat → Prop} {G : GE} {s : State} {H H0 : Heap} {y ci : Nat} {fs : List Value} {q : vw_C} (hE : EN A G s H0) (hq : mcl[ci]? = some q) (he : va_at G.1 mcl (y, .inr (ci, fs)) H) : va_Any q.1 s H y := by
  refine va_rAny (q0 := 0) hE.1.1 (at1 he) rfl hq ?_
  intro comp c0 h1 h2
  cases h1.symm.trans h2
  show s.vm.assignableAux _ _ _ = true
  unfold Vm.assignableAux
  simp
def adI (a q1 q2 q3 q4 q5 : Nat) : Nat → Nat → Nat := fun k i => match k with
  | 0 => a
  | 1 => q1
  | 2 => q2
  | 3 => q3
  | _ => if i = 12 then q4 else q5
def fPr (x : Nat) : Int32 := if x = 0 then 1500 else 600
def ceI (G : GE) (ad : Nat → Nat → Nat) (i j m : Nat) : Nat → Nat → va_E := fun k x => match k with
  | 0 => .inr (7, [.ref (ad 1 0), .ref (ad 2 0), .ref (ad 3 0), .ref (ad 7 12), .ref (ad 7 13), .int 0, .int 0, .int 0])
  | 1 => rArr (G.2.1 4) 5 (rfs i (ad 4))
  | 2 => rArr (G.2.1 3) 12 (rfs j (ad 5))
  | 3 => rArr (G.2.1 2) 6 (rfs m (ad 6))
  | 4 => .inr (5, [.int (fPr x), .int 0, .int 0, .int 0, .int 0])
  | 5 => .inr (3, [.int (nI x), .int (nI (x / 3)), .int 3, .int 0, .int 0, .ref (ad 7 x)])
  | 6 => .inr (2, [.int 0, .int (-1)])
  | 7 => .inr (1, [.int 0, .ref G.2.2.1, .int 0])
  | _ => .inr (0, [])
def dmI (i j m k x : Nat) : Prop := (k < 4 ∧ x = 0) ∨ (k = 7 ∧ (x = 12 ∨ x = 13 ∨ x < j)) ∨ (k = 4 ∧ x < i) ∨ (k = 5 ∧ x < j) ∨ (k = 6 ∧ x < m)
def FI (G : GE) (A : Nat → Prop) (ad : Nat → Nat → Nat) (i j m : Nat) (H : Heap) : Prop := FAM G.1 mcl ad (dmI i j m) (ceI G ad i j m) A H
theorem FAM.add {D : va_G} {cl : List vw_C} {ad : Nat → Nat → Nat} {dm : Nat → Nat → Prop} {ce : Nat → Nat → va_E} {A : Nat → Prop} {H : Heap} (h : FAM D cl ad dm ce A H) {k i q : Nat} {e : va_E} (hq : ∀ k i, dm k i → ad k i ≠ q) (hA : A q) (he : va_at D cl (q, e) H) : FAM D cl (adN ad k i q) (fun k' i' => dm k' i' ∨ (k' = k ∧ i' = i)) (fun k' i' => if k' = k ∧ i' = i then e else ce k' i') A H := by
  refine ⟨fun k' i' hd => ?_, fun k1 i1 k2 i2 h1 h2 ee => ?_, fun k' i' hd => ?_⟩
  · by_cases c : k' = k ∧ i' = i
    · simp only [adN, if_pos c]; exact he
    · simp only [adN, if_neg c]; exact h.1 k' i' (hd.resolve_right c)
  · by_cases c1 : k1 = k ∧ i1 = i
    · by_cases c2 : k2 = k ∧ i2 = i
      · exact ⟨c1.1.trans c2.1.symm, c1.2.trans c2.2.symm⟩
      · simp only [adN, if_pos c1, if_neg c2] at ee
        exact absurd ee.symm (hq _ _ (h2.resolve_right c2))
    · by_cases c2 : k2 = k ∧ i2 = i
      · simp only [adN, if_neg c1, if_pos c2] at ee
        exact absurd ee (hq _ _ (h1.resolve_right c1))
      · simp only [adN, if_neg c1, if_neg c2] at ee
        exact h.2.1 _ _ _ _ (h1.resolve_right c1) (h2.resolve_right c2) ee
  · by_cases c : k' = k ∧ i' = i
    · simp only [adN, if_pos c]; exact hA
    · simp only [adN, if_neg c]; exact h.2.2 _ _ (hd.resolve_right c)
theorem rfs_up {n q : Nat} {f g : Nat → Nat} (hf : ∀ x, x < n → g x = f x) (hg : g n = q) : va_up (rfs n f) n (some q) = rfs (n + 1) g := by
  funext x
  unfold va_up rfs
  by_cases h : x = n
  · subst h
    simp [hg]
  · by_cases h2 : x < n
    · have : x < n + 1 := by omega
      simp [h, h2, this, hf x h2]
    · have : ¬ x < n + 1 := by omega
      simp [h, h2, this]
section FIS
variable {G : GE} {A : Nat → Prop} {ad : Nat → Nat → Nat} {i j m q q' : Nat} {H H1 H2 : Heap}
theorem adN_o {k x k' x' : Nat} (h : ¬ (k' = k ∧ x' = x)) : adN ad k x q k' x' = ad k' x' := if_neg h
theorem adN_s {k x : Nat} : adN ad k x q k x = q := if_pos ⟨rfl, rfl⟩
theorem adN_p {k x k' : Nat} (h : k' ≠ k) : adN ad k x q k' = ad k' := funext fun x' => if_neg (fun z => h z.1)
theorem FI.old (h : FI G A ad i j m H) (hk : KF (fun z => H.size ≤ z) H H1) : FI G A ad i j m H1 := FAM.keep h hk
theorem FI.main (h : FI G A ad i j m H) {a : Nat} (ha : ad 0 0 = a) : va_at G.1 mcl (a, .inr (7, [.ref (ad 1 0), .ref (ad 2 0), .ref (ad 3 0), .ref (ad 7 12), .ref (ad 7 13), .int 0, .int 0, .int 0])) H := ha ▸ h.1 0 0 (Or.inl ⟨by decide, rfl⟩)
theorem FI.a1 (h : FI G A ad i j m H) : va_at G.1 mcl (ad 1 0, rArr (G.2.1 4) 5 (rfs i (ad 4))) H ∧ A (ad 1 0) := ⟨h.1 1 0 (Or.inl ⟨by decide, rfl⟩), h.2.2 1 0 (Or.inl ⟨by decide, rfl⟩)⟩
theorem FI.a2 (h : FI G A ad i j m H) : va_at G.1 mcl (ad 2 0, rArr (G.2.1 3) 12 (rfs j (ad 5))) H ∧ A (ad 2 0) := ⟨h.1 2 0 (Or.inl ⟨by decide, rfl⟩), h.2.2 2 0 (Or.inl ⟨by decide, rfl⟩)⟩
theorem FI.a3 (h : FI G A ad i j m H) : va_at G.1 mcl (ad 3 0, rArr (G.2.1 2) 6 (rfs m (ad 6))) H ∧ A (ad 3 0) := ⟨h.1 3 0 (Or.inl ⟨by decide, rfl⟩), h.2.2 3 0 (Or.inl ⟨by decide, rfl⟩)⟩
theorem FI.till (h : FI G A ad i j m H) (hk : KF (fun z => H.size ≤ z) H H1) (hq : H.size ≤ q) (hA : A q) (he : va_at G.1 mcl (q, .inr (5, [.int (fPr i), .int 0, .int 0, .int 0, .int 0])) H1) (he2 : va_at G.1 mcl (ad 1 0, rArr (G.2.1 4) 5 (va_up (rfs i (ad 4)) i (some q))) H2) (oq : ∀ z, z ≠ ad 1 0 → H2[z]? = H1[z]?) : FI G A (adN ad 4 i q) (i + 1) j m H2 := by
  have h1 := FAM.new (k := 4) (i := i) h hk hq hA he
  have h2 := FAM.put (k := 1) (i := 0) (ce' := ceI G (adN ad 4 i q) (i + 1) j m) h1 (Or.inl (Or.inl ⟨by decide, rfl⟩)) (by
      rw [adN_o (by omega)]
      have ee := rfs_up (q := q) (f := ad 4) (g := adN ad 4 i q 4) (n := i) (fun x hx => adN_o (by omega)) adN_s
      simp only [ceI, ← ee]
      exact he2) (by rw [adN_o (by omega)]; exact oq) (fun k' i' hne hd => ?_)
  · refine FAM.ext h2 (fun k x hd => ?_) (fun _ _ _ => rfl) (fun _ _ _ => rfl)
    unfold dmI at hd ⊢
    omega
  · by_cases c : k' = 4 ∧ i' = i
    · rw [if_pos c, c.1, c.2]
      simp only [ceI]
    · rw [if_neg c]
      have hd := hd.resolve_right c
      unfold dmI at hd
      match k', hne, c, hd with
      | 0, hne, c, hd => simp [ceI, adN, adN_p]
      | 1, hne, c, hd => first | (exact absurd ⟨rfl, by omega⟩ hne; done) | simp [ceI, adN, adN_p]
      | 2, hne, c, hd => simp [ceI, adN, adN_p]
      | 3, hne, c, hd => first | (exact absurd ⟨rfl, by omega⟩ hne; done) | simp [ceI, adN, adN_p]
      | 4, hne, c, hd => simp [ceI]
      | 5, hne, c, hd => simp [ceI, adN, adN_p]
      | 6, hne, c, hd => simp [ceI]
      | 7, hne, c, hd => simp [ceI]
      | k + 8, hne, c, hd => omega
theorem FI.member (h : FI G A ad i j m H) (hk : KF (fun z => H.size ≤ z) H H1) (hq : H.size ≤ q) (hA : A q) (he : va_at G.1 mcl (q, .inr (2, [.int 0, .int (-1)])) H1) (he2 : va_at G.1 mcl (ad 3 0, rArr (G.2.1 2) 6 (va_up (rfs m (ad 6)) m (some q))) H2) (oq : ∀ z, z ≠ ad 3 0 → H2[z]? = H1[z]?) : FI G A (adN ad 6 m q) i j (m + 1) H2 := by
  have h1 := FAM.new (k := 6) (i := m) h hk hq hA he
  have h2 := FAM.put (k := 3) (i := 0) (ce' := ceI G (adN ad 6 m q) i j (m + 1)) h1 (Or.inl (Or.inl ⟨by decide, rfl⟩)) (by
      rw [adN_o (by omega)]
      have ee := rfs_up (q := q) (f := ad 6) (g := adN ad 6 m q 6) (n := m) (fun x hx => adN_o (by omega)) adN_s
      simp only [ceI, ← ee]
      exact he2) (by rw [adN_o (by omega)]; exact oq) (fun k' i' hne hd => ?_)
  · refine FAM.ext h2 (fun k x hd => ?_) (fun _ _ _ => rfl) (fun _ _ _ => rfl)
    unfold dmI at hd ⊢
    omega
  · by_cases c : k' = 6 ∧ i' = m
    · rw [if_pos c, c.1, c.2]
      simp only [ceI]
    · rw [if_neg c]
      have hd := hd.resolve_right c
      unfold dmI at hd
      match k', hne, c, hd with
      | 0, hne, c, hd => simp [ceI, adN, adN_p]
      | 1, hne, c, hd => first | (exact absurd ⟨rfl, by omega⟩ hne; done) | simp [ceI, adN, adN_p]
      | 2, hne, c, hd => simp [ceI, adN, adN_p]
      | 3, hne, c, hd => first | (exact absurd ⟨rfl, by omega⟩ hne; done) | simp [ceI, adN, adN_p]
      | 4, hne, c, hd => simp [ceI]
      | 5, hne, c, hd => simp [ceI, adN, adN_p]
      | 6, hne, c, hd => simp [ceI]
      | 7, hne, c, hd => simp [ceI]
      | k + 8, hne, c, hd => omega
theorem FI.room (h : FI G A ad i j m H) (hne9 : q ≠ q') (hj : j < 12) (hk : KF (fun z => H.size ≤ z) H H1) (hq : H.size ≤ q) (hA : A q) (hq' : H.size ≤ q') (hA' : A q') (he : va_at G.1 mcl (q, .inr (3, [.int (nI j), .int (nI (j / 3)), .int 3, .int 0, .int 0, .ref q'])) H1) (he' : va_at G.1 mcl (q', .inr (1, [.int 0, .ref G.2.2.1, .int 0])) H1) (he2 : va_at G.1 mcl (ad 2 0, rArr (G.2.1 3) 12 (va_up (rfs j (ad 5)) j (some q))) H2) (oq : ∀ z, z ≠ ad 2 0 → H2[z]? = H1[z]?) : FI G A (adN (adN ad 7 j q') 5 j q) i (j + 1) m H2 := by
  have h1 : FAM G.1 mcl (adN (adN ad 7 j q') 5 j q) (fun k x => (dmI i j m k x ∨ (k = 7 ∧ x = j)) ∨ (k = 5 ∧ x = j)) (fun k x => if k = 5 ∧ x = j then .inr (3, [.int (nI j), .int (nI (j / 3)), .int 3, .int 0, .int 0, .ref q']) else if k = 7 ∧ x = j then .inr (1, [.int 0, .ref G.2.2.1, .int 0]) else ceI G ad i j m k x) A H1 := by
    have h0 := FAM.new (k := 7) (i := j) h hk hq' hA' he'
    refine FAM.add (k := 5) (i := j) h0 (fun k x hd z => ?_) hA he
    by_cases c : k = 7 ∧ x = j
    · simp only [adN, if_pos c] at z
      exact hne9 z.symm
    · simp only [adN, if_neg c] at z
      have := (h.1 k x (hd.resolve_right c)).lt
      have : ad k x < H.size := this
      omega
  have h2 := FAM.put (k := 2) (i := 0) (ce' := ceI G (adN (adN ad 7 j q') 5 j q) i (j + 1) m) h1 (Or.inl (Or.inl (Or.inl ⟨by decide, rfl⟩))) (by
      rw [adN_o (by omega), adN_o (by omega)]
      have ee := rfs_up (q := q) (f := ad 5) (g := adN (adN ad 7 j q') 5 j q 5) (n := j) (fun x hx => by rw [adN_o (by omega), adN_o (by omega)]) adN_s
      simp only [ceI, ← ee]
      exact he2) (by rw [adN_o (by omega), adN_o (by omega)]; exact oq) (fun k' i' hne hd => ?_)
  · refine FAM.ext h2 (fun k x hd => ?_) (fun _ _ _ => rfl) (fun _ _ _ => rfl)
    unfold dmI at hd ⊢
    omega
  · by_cases c : k' = 5 ∧ i' = j
    · rw [if_pos c, c.1, c.2]
      simp [ceI, adN, adN_p]
    · rw [if_neg c]
      have hd := hd.resolve_right c
      by_cases c' : k' = 7 ∧ i' = j
      · rw [if_pos c', c'.1]
        simp only [ceI]
      · rw [if_neg c']
        have hd := hd.resolve_right c'
        unfold dmI at hd
        match k', hne, c, c', hd with
        | 0, hne, c, c', hd =>
          have : ¬ 12 = j := by omega
          have : ¬ 13 = j := by omega
          simp [ceI, adN, adN_p, *]
        | 1, hne, c, c', hd => simp [ceI, adN, adN_p]
        | 2, hne, c, c', hd => exact absurd ⟨rfl, by omega⟩ hne
        | 3, hne, c, c', hd => simp [ceI, adN, adN_p]
        | 4, hne, c, c', hd => simp [ceI]
        | 5, hne, c, c', hd =>
          have : ¬ i' = j := by omega
          simp [ceI, adN, this]
        | 6, hne, c, c', hd => simp [ceI]
        | 7, hne, c, c', hd => simp [ceI]
        | k + 8, hne, c, c', hd => omega
def fInit : SG := fun f i => if f = 0 then fPr i else if f = 5 then 3 else if f = 9 then -1 else 0
theorem FI.px (h : FI G A ad 5 12 6 H) : PX G A ad fInit (fun _ => []) 0 0 H := by
  refine ⟨fun _ => 0, fun _ => 0, fun _ => 0, FAM.ext h (fun k x hd => ?_) (fun k x hd => ?_) (fun k x hd => ?_), by decide, by decide, fun i _ => ⟨?_, Nat.zero_le _⟩, fun r _ t ht => absurd ht (by simp)⟩
  · unfold dmX dmO at hd
    unfold dmI
    split at hd
    · omega
    · split at hd
      · exact absurd rfl hd.2
      · omega
  · unfold dmX at hd
    unfold adB
    rw [if_neg]
    intro z
    rw [if_neg (by omega), if_pos z] at hd
    exact hd.2 rfl
  · unfold dmX dmO at hd
    unfold ceX
    split
    · next c => rw [c]; simp [ceI, lsX, nI]
    · next c =>
      rw [if_neg c] at hd
      split at hd
      · exact absurd rfl hd.2
      · next c8 =>
        rw [if_neg c8]
        match k, c, c8, hd with
        | 0, c, c8, hd => simp [ceI, ceO, fInit]
        | 1, c, c8, hd => simp [ceI, ceO]
        | 2, c, c8, hd => simp [ceI, ceO]
        | 3, c, c8, hd => simp [ceI, ceO]
        | 4, c, c8, hd => simp [ceI, ceO, fInit]
        | 5, c, c8, hd => simp [ceI, ceO, fInit]
        | 6, c, c8, hd => simp [ceI, ceO, fInit]
        | k + 9, c, c8, hd => omega
  · simp [lsX]
end FIS
set_option maxHeartbeats 4000000 in
set_option maxRecDepth 100000 in
theorem cI_main (l : Launch) (G : GE) (A : Nat → Prop) (a : Nat) (hAa : A a) : KM l G A yX5_init cX5_init 2 none (rmL 5 40 180) [.ref a] (fun H => va_at G.1 mcl (a, .inr (7, [.null, .null, .null, .null, .null, .int 0, .int 0, .int 0])) H) (fun v H => v = none ∧ ∃ ad : Nat → Nat → Nat, ad 0 0 = a ∧ PX G A ad fInit (fun _ => []) 0 0 H) (fun _ _ => False) := by
  refine KM.of (by decide) (Nat.le_of_ble_eq_true rfl) ?_
  intro p e s m args below meth c F hP ls hl
  have hx := F.1.1
  have hb := F.1.2.1
  have hown := F.1.2.2.2.1
  have hts := F.1.2.2.2.2
  have hr := F.2.1
  have hlocks := F.2.2.1
  have hE := F.2.2.2.2.2.1
  have hA := F.2.2.2.2.2.2
  have hS : va_S A s.heap s.heap [] := va_S.rf
  have hl : lv_has ls 2 [(0, .ref a)] := hl
  have hO := hP
  refine lv_aload_n hx hb dX5_init_0 rfl (lv_at hl 0 rfl) ?_
  refine W.objInit hx hb hown (hts _ wML_X5_3) (hts _ wz_62) (hts _ wCO_obj) rfl (by rw [F.1.2.2.1]; exact hl.1) rfl dX5_init_1 (Nat.le_of_ble_eq_true rfl) (Nat.le_of_ble_eq_true rfl) ?_
  refine W.eq (g2 := F0 m 4 ls []) rfl ?_
  refine lv_aload_n hx hb dX5_init_4 rfl (lv_at hl 0 rfl) ?_
  refine lv_iconst (v := 5) hx hb dX5_init_5 (by decide) ?_
  have hz := hS.1
  refine xanew hx hb hown (hts _ wCL_X5_9) (hE.1.2.2.2.1 RX3 (by simp [nwArr])) hE.1.1 4 rfl hS (n := 5) (N := 5) rfl (by decide) (by decide) (by decide) dX5_init_6 (fun H1 hq1 z1 oq1 hS => ?_)
  obtain ⟨q1, eq1⟩ : ∃ q, q = s.heap.size := ⟨_, rfl⟩
  rw [← eq1] at hq1 ⊢
  have hAq1 : A q1 := hA _ (eq1 ▸ hz)
  have lq1a : a < q1 := eq1 ▸ hO.lt
  have hO := hO.kept (oq1 _ hO.lt)
  refine pfX5 F hS hO hAa 0 (by decide) wFL_X5_11 (fun _ h9 => h9) rfl rfl rfl rfl rfl (by simp) dX5_init_9 (fun H_1 locs1 hO z1 oq1 hS => ?_)
  have hO : va_at G.1 mcl (a, .inr (7, [.ref q1, .null, .null, .null, .null, .int 0, .int 0, .int 0])) H_1 := hO
  have hq1 := hq1.kept (oq1 _ (Nat.ne_of_gt lq1a))
  refine lv_aload_n hx hb dX5_init_12 rfl (lv_at hl 0 rfl) ?_
  refine lv_bipush (v := 12) hx hb dX5_init_13 (by decide) ?_
  have hz := hS.1
  refine xanew hx hb hown (hts _ wCL_X5_15) (hE.1.2.2.2.1 RX1 (by simp [nwArr])) hE.1.1 3 rfl hS (n := 12) (N := 12) rfl (by decide) (by decide) (by decide) dX5_init_15 (fun H1 hq2 z1 oq1 hS => ?_)
  obtain ⟨q2, eq2⟩ : ∃ q, q = H_1.size := ⟨_, rfl⟩
  rw [← eq2] at hq2 ⊢
  have hAq2 : A q2 := hA _ (eq2 ▸ hz)
  have lq2a : a < q2 := eq2 ▸ hO.lt
  have hO := hO.kept (oq1 _ hO.lt)
  have lq2q1 : q1 < q2 := eq2 ▸ hq1.lt
  have hq1 := hq1.kept (oq1 _ hq1.lt)
  refine pfX5 F hS hO hAa 1 (by decide) wFL_X5_17 (fun _ h9 => h9) rfl rfl rfl rfl rfl (by simp) dX5_init_18 (fun H_2 locs1 hO z1 oq1 hS => ?_)
  have hO : va_at G.1 mcl (a, .inr (7, [.ref q1, .ref q2, .null, .null, .null, .int 0, .int 0, .int 0])) H_2 := hO
  have hq1 := hq1.kept (oq1 _ (Nat.ne_of_gt lq1a))
  have hq2 := hq2.kept (oq1 _ (Nat.ne_of_gt lq2a))
  refine lv_aload_n hx hb dX5_init_21 rfl (lv_at hl 0 rfl) ?_
  refine lv_bipush (v := 6) hx hb dX5_init_22 (by decide) ?_
  have hz := hS.1
  refine xanew hx hb hown (hts _ wCL_X5_21) (hE.1.2.2.2.1 RX0 (by simp [nwArr])) hE.1.1 2 rfl hS (n := 6) (N := 6) rfl (by decide) (by decide) (by decide) dX5_init_24 (fun H1 hq3 z1 oq1 hS => ?_)
  obtain ⟨q3, eq3⟩ : ∃ q, q = H_2.size := ⟨_, rfl⟩
  rw [← eq3] at hq3 ⊢
  have hAq3 : A q3 := hA _ (eq3 ▸ hz)
  have lq3a : a < q3 := eq3 ▸ hO.lt
  have hO := hO.kept (oq1 _ hO.lt)
  have lq3q1 : q1 < q3 := eq3 ▸ hq1.lt
  have hq1 := hq1.kept (oq1 _ hq1.lt)
  have lq3q2 : q2 < q3 := eq3 ▸ hq2.lt
  have hq2 := hq2.kept (oq1 _ hq2.lt)
  refine pfX5 F hS hO hAa 2 (by decide) wFL_X5_23 (fun _ h9 => h9) rfl rfl rfl rfl rfl (by simp) dX5_init_27 (fun H_3 locs1 hO z1 oq1 hS => ?_)
  have hO : va_at G.1 mcl (a, .inr (7, [.ref q1, .ref q2, .ref q3, .null, .null, .int 0, .int 0, .int 0])) H_3 := hO
  have hq1 := hq1.kept (oq1 _ (Nat.ne_of_gt lq1a))
  have hq2 := hq2.kept (oq1 _ (Nat.ne_of_gt lq2a))
  have hq3 := hq3.kept (oq1 _ (Nat.ne_of_gt lq3a))
  refine lv_aload_n hx hb dX5_init_30 rfl (lv_at hl 0 rfl) ?_
  have hz := hS.1
  refine xnew (ci := 1) (N := 3) hx hb hts inG_Jx4a65c tyJx4a65c tyJx4a65c_ok hown wCL_X5_27 wIS_Jx4a65c wIN_Jx4a65c hE.1.1 hS (show mcl[1]? = some (RJx4a65c, TJx4a65c, 3) from rfl) (fs := [.int 0, .null, .int 0]) (by decide) (Nat.le_of_ble_eq_true rfl) (Nat.le_of_ble_eq_true rfl) dX5_init_31 (fun H1 hq4 z1 oq1 hS => ?_)
  obtain ⟨q4, eq4⟩ : ∃ q, q = H_3.size := ⟨_, rfl⟩
  rw [← eq4] at hq4 ⊢
  have hAq4 : A q4 := hA _ (eq4 ▸ hz)
  have lq4a : a < q4 := eq4 ▸ hO.lt
  have hO := hO.kept (oq1 _ hO.lt)
  have lq4q1 : q1 < q4 := eq4 ▸ hq1.lt
  have hq1 := hq1.kept (oq1 _ hq1.lt)
  have lq4q2 : q2 < q4 := eq4 ▸ hq2.lt
  have hq2 := hq2.kept (oq1 _ hq2.lt)
  have lq4q3 : q3 < q4 := eq4 ▸ hq3.lt
  have hq3 := hq3.kept (oq1 _ hq3.lt)
  refine lv_dup hx hb dX5_init_34 rfl ?_
  refine kcallI (n := 0) F (cI_list l G (fun z => z = q4 ∨ H1.size ≤ z) q4 (Or.inl rfl)) wML_X5_29 wIM_Jx4a65c_init_da8c8 wIN_Jx4a65c wCO_Jx4a65c_init_da8c8 rfl (by decide) rfl ⟨by decide, by decide⟩ hS (fun z h => h.elim (fun e => e ▸ hAq4) (fun h => hA z (Nat.le_trans hS.1 h))) (fun z h => Or.inr h) hq4 rfl hl.1 (Nat.le_of_ble_eq_true rfl) dX5_init_35 ⟨by decide, by decide⟩ (fun E ce q9 H1 locs1 hx9 _ _ _ _ _ => hx9.elim) (fun v H1 locs1 hv hk hS => ?_)
  have hO := hO.kept (hk.2 _ hO.lt (fun z => z.elim (Nat.ne_of_lt lq4a) (fun z => absurd z (Nat.not_le.mpr hO.lt))))
  have hq1 := hq1.kept (hk.2 _ hq1.lt (fun z => z.elim (Nat.ne_of_lt lq4q1) (fun z => absurd z (Nat.not_le.mpr hq1.lt))))
  have hq2 := hq2.kept (hk.2 _ hq2.lt (fun z => z.elim (Nat.ne_of_lt lq4q2) (fun z => absurd z (Nat.not_le.mpr hq2.lt))))
  have hq3 := hq3.kept (hk.2 _ hq3.lt (fun z => z.elim (Nat.ne_of_lt lq4q3) (fun z => absurd z (Nat.not_le.mpr hq3.lt))))
  obtain ⟨rfl, hq4⟩ := hv
  refine pfX5 F hS hO hAa 3 (by decide) wFL_X5_30 (fun _ h9 => h9) rfl rfl rfl rfl rfl (by simp) dX5_init_38 (fun H_4 locs1 hO z1 oq1 hS => ?_)
  have hO : va_at G.1 mcl (a, .inr (7, [.ref q1, .ref q2, .ref q3, .ref q4, .null, .int 0, .int 0, .int 0])) H_4 := hO
  have hq1 := hq1.kept (oq1 _ (Nat.ne_of_gt lq1a))
  have hq2 := hq2.kept (oq1 _ (Nat.ne_of_gt lq2a))
  have hq3 := hq3.kept (oq1 _ (Nat.ne_of_gt lq3a))
  have hq4 := hq4.kept (oq1 _ (Nat.ne_of_gt lq4a))
  refine lv_aload_n hx hb dX5_init_41 rfl (lv_at hl 0 rfl) ?_
  have hz := hS.1
  refine xnew (ci := 1) (N := 3) hx hb hts inG_Jx4a65c tyJx4a65c tyJx4a65c_ok hown wCL_X5_27 wIS_Jx4a65c wIN_Jx4a65c hE.1.1 hS (show mcl[1]? = some (RJx4a65c, TJx4a65c, 3) from rfl) (fs := [.int 0, .null, .int 0]) (by decide) (Nat.le_of_ble_eq_true rfl) (Nat.le_of_ble_eq_true rfl) dX5_init_42 (fun H1 hq5 z1 oq1 hS => ?_)
  obtain ⟨q5, eq5⟩ : ∃ q, q = H_4.size := ⟨_, rfl⟩
  rw [← eq5] at hq5 ⊢
  have hAq5 : A q5 := hA _ (eq5 ▸ hz)
  have lq5a : a < q5 := eq5 ▸ hO.lt
  have hO := hO.kept (oq1 _ hO.lt)
  have lq5q1 : q1 < q5 := eq5 ▸ hq1.lt
  have hq1 := hq1.kept (oq1 _ hq1.lt)
  have lq5q2 : q2 < q5 := eq5 ▸ hq2.lt
  have hq2 := hq2.kept (oq1 _ hq2.lt)
  have lq5q3 : q3 < q5 := eq5 ▸ hq3.lt
  have hq3 := hq3.kept (oq1 _ hq3.lt)
  have lq5q4 : q4 < q5 := eq5 ▸ hq4.lt
  have hq4 := hq4.kept (oq1 _ hq4.lt)
  refine lv_dup hx hb dX5_init_45 rfl ?_
  refine kcallI (n := 0) F (cI_list l G (fun z => z = q5 ∨ H1.size ≤ z) q5 (Or.inl rfl)) wML_X5_29 wIM_Jx4a65c_init_da8c8 wIN_Jx4a65c wCO_Jx4a65c_init_da8c8 rfl (by decide) rfl ⟨by decide, by decide⟩ hS (fun z h => h.elim (fun e => e ▸ hAq5) (fun h => hA z (Nat.le_trans hS.1 h))) (fun z h => Or.inr h) hq5 rfl hl.1 (Nat.le_of_ble_eq_true rfl) dX5_init_46 ⟨by decide, by decide⟩ (fun E ce q9 H1 locs1 hx9 _ _ _ _ _ => hx9.elim) (fun v H1 locs1 hv hk hS => ?_)
  have hO := hO.kept (hk.2 _ hO.lt (fun z => z.elim (Nat.ne_of_lt lq5a) (fun z => absurd z (Nat.not_le.mpr hO.lt))))
  have hq1 := hq1.kept (hk.2 _ hq1.lt (fun z => z.elim (Nat.ne_of_lt lq5q1) (fun z => absurd z (Nat.not_le.mpr hq1.lt))))
  have hq2 := hq2.kept (hk.2 _ hq2.lt (fun z => z.elim (Nat.ne_of_lt lq5q2) (fun z => absurd z (Nat.not_le.mpr hq2.lt))))
  have hq3 := hq3.kept (hk.2 _ hq3.lt (fun z => z.elim (Nat.ne_of_lt lq5q3) (fun z => absurd z (Nat.not_le.mpr hq3.lt))))
  have hq4 := hq4.kept (hk.2 _ hq4.lt (fun z => z.elim (Nat.ne_of_lt lq5q4) (fun z => absurd z (Nat.not_le.mpr hq4.lt))))
  obtain ⟨rfl, hq5⟩ := hv
  refine pfX5 F hS hO hAa 4 (by decide) wFL_X5_34 (fun _ h9 => h9) rfl rfl rfl rfl rfl (by simp) dX5_init_49 (fun H_5 locs1 hO z1 oq1 hS => ?_)
  have hO : va_at G.1 mcl (a, .inr (7, [.ref q1, .ref q2, .ref q3, .ref q4, .ref q5, .int 0, .int 0, .int 0])) H_5 := hO
  have hq1 := hq1.kept (oq1 _ (Nat.ne_of_gt lq1a))
  have hq2 := hq2.kept (oq1 _ (Nat.ne_of_gt lq2a))
  have hq3 := hq3.kept (oq1 _ (Nat.ne_of_gt lq3a))
  have hq4 := hq4.kept (oq1 _ (Nat.ne_of_gt lq4a))
  have hq5 := hq5.kept (oq1 _ (Nat.ne_of_gt lq5a))
  refine lv_iconst (v := 0) hx hb dX5_init_52 (by decide) ?_
  refine lv_istore_n (lv' := [(1, .int 0), (0, .ref a)]) hx hb dX5_init_53 rfl hl (by decide) rfl (fun ls hl => ?_)
  have hF0 : FI G A (adI a q1 q2 q3 q4 q5) 0 0 0 H_5 := by
    refine ⟨fun k x hd => ?_, fun k x k2 x2 hd hd2 ee => ?_, fun k x hd => ?_⟩
    · unfold dmI at hd
      rcases hd with ⟨h1, rfl⟩ | ⟨rfl, h | h | h⟩ | h | h | h
      · match k, h1 with
        | 0, _ => exact hO
        | 1, _ => exact hq1
        | 2, _ => exact hq2
        | 3, _ => exact hq3
      · subst h; exact hq4
      · subst h; exact hq5
      all_goals omega
    · unfold dmI at hd hd2
      have c1 : (k = 0 ∨ k = 1 ∨ k = 2 ∨ k = 3) ∧ x = 0 ∨ k = 7 ∧ (x = 12 ∨ x = 13) := by omega
      have c2 : (k2 = 0 ∨ k2 = 1 ∨ k2 = 2 ∨ k2 = 3) ∧ x2 = 0 ∨ k2 = 7 ∧ (x2 = 12 ∨ x2 = 13) := by omega
      rcases c1 with ⟨rfl | rfl | rfl | rfl, rfl⟩ | ⟨rfl, rfl | rfl⟩ <;> rcases c2 with ⟨rfl | rfl | rfl | rfl, rfl⟩ | ⟨rfl, rfl | rfl⟩ <;> simp [adI] at ee ⊢ <;> omega
    · unfold dmI at hd
      rcases hd with ⟨h1, rfl⟩ | ⟨rfl, h | h | h⟩ | h | h | h
      · match k, h1 with
        | 0, _ => exact hAa
        | 1, _ => exact hAq1
        | 2, _ => exact hAq2
        | 3, _ => exact hAq3
      · subst h; exact hAq4
      · subst h; exact hAq5
      all_goals omega
  have L54 : ∀ (n9 : Nat) (i : Nat) (ad : Nat → Nat → Nat) (cc9 ss9 : Nat) (hf9 : 6 ≤ i + n9) (hi5 : i ≤ 5) (hcc : cc9 = 5 + i) (hss : ss9 = 29 + 5 * i) (ha : ad 0 0 = a) (H : Heap) (locs : List Loc) (ls : Array Slot), va_S A s.heap H locs → FI G A ad i 0 0 H → lv_has ls 2 [(0, .ref a), (1, .int (nI i))] → W p l e (rmL 5 40 180) s m args below meth c H locs cc9 ss9 (KE below A (fun v H => v = none ∧ ∃ ad : Nat → Nat → Nat, ad 0 0 = a ∧ PX G A ad fInit (fun _ => []) 0 0 H) (fun _ _ => False) args s (rmL 5 40 180)) (F0 m 54 ls []) := by
    intro n9
    induction n9 with
    | zero =>
      intro i ad cc9 ss9 hf9 hi5 hcc hss ha H locs ls hS hP hl
      exact absurd True.intro (by omega)
    | succ n9 ih54 =>
      intro i ad cc9 ss9 hf9 hi5 hcc hss ha H locs ls hS hP hl
      refine lv_iload_n hx hb dX5_init_54 rfl (lv_at hl 1 rfl) ?_
      refine lv_aload_n hx hb dX5_init_55 rfl (lv_at hl 0 rfl) ?_
      refine gX5 F (hP.main ha) 0 (by decide) wFL_X5_11 (fun _ h9 => h9) (v := .ref (ad 1 0)) rfl dX5_init_56 ?_
      refine xalen hx hb hE.1.1 hP.a1.1 4 rfl dX5_init_59 ?_
      refine lv_icmp_ge (tgt := 95) hx hb dX5_init_60 (by decide) (fun c_60_6 => ?_) (fun c_60_6 => ?_)
      · have hi9 : i = 5 := nI_eqle hi5 (by decide) c_60_6
        refine lv_iconst (v := 0) hx hb dX5_init_95 (by decide) ?_
        refine lv_istore_n (lv' := [(1, .int 0), (0, .ref a)]) hx hb dX5_init_96 rfl hl (by decide) rfl (fun ls hl => ?_)
        have L97 : ∀ (n9 : Nat) (j : Nat) (ad : Nat → Nat → Nat) (cc9 ss9 : Nat) (hf9 : 13 ≤ j + n9) (hj12 : j ≤ 12) (hcc : cc9 = 10 + 2 * j) (hss : ss9 = 54 + 9 * j) (ha : ad 0 0 = a) (H : Heap) (locs : List Loc) (ls : Array Slot), va_S A s.heap H locs → FI G A ad 5 j 0 H → lv_has ls 2 [(0, .ref a), (1, .int (nI j))] → W p l e (rmL 5 40 180) s m args below meth c H locs cc9 ss9 (KE below A (fun v H => v = none ∧ ∃ ad : Nat → Nat → Nat, ad 0 0 = a ∧ PX G A ad fInit (fun _ => []) 0 0 H) (fun _ _ => False) args s (rmL 5 40 180)) (F0 m 97 ls []) := by
          intro n9
          induction n9 with
          | zero =>
            intro j ad cc9 ss9 hf9 hj12 hcc hss ha H locs ls hS hP hl
            exact absurd True.intro (by omega)
          | succ n9 ih97 =>
            intro j ad cc9 ss9 hf9 hj12 hcc hss ha H locs ls hS hP hl
            refine lv_iload_n hx hb dX5_init_97 rfl (lv_at hl 1 rfl) ?_
            refine lv_aload_n hx hb dX5_init_98 rfl (lv_at hl 0 rfl) ?_
            refine gX5 F (hP.main ha) 1 (by decide) wFL_X5_17 (fun _ h9 => h9) (v := .ref (ad 2 0)) rfl dX5_init_99 ?_
            refine xalen hx hb hE.1.1 hP.a2.1 3 rfl dX5_init_102 ?_
            refine lv_icmp_ge (tgt := 126) hx hb dX5_init_103 (by decide) (fun c_103_7 => ?_) (fun c_103_7 => ?_)
            · have hj9 : j = 12 := nI_eqle hj12 (by decide) c_103_7
              refine lv_iconst (v := 0) hx hb dX5_init_126 (by decide) ?_
              refine lv_istore_n (lv' := [(1, .int 0), (0, .ref a)]) hx hb dX5_init_127 rfl hl (by decide) rfl (fun ls hl => ?_)
              have L128 : ∀ (n9 : Nat) (k9 : Nat) (ad : Nat → Nat → Nat) (cc9 ss9 : Nat) (hf9 : 7 ≤ k9 + n9) (hk96 : k9 ≤ 6) (hcc : cc9 = 34 + k9) (hss : ss9 = 162 + 2 * k9) (ha : ad 0 0 = a) (H : Heap) (locs : List Loc) (ls : Array Slot), va_S A s.heap H locs → FI G A ad 5 12 k9 H → lv_has ls 2 [(0, .ref a), (1, .int (nI k9))] → W p l e (rmL 5 40 180) s m args below meth c H locs cc9 ss9 (KE below A (fun v H => v = none ∧ ∃ ad : Nat → Nat → Nat, ad 0 0 = a ∧ PX G A ad fInit (fun _ => []) 0 0 H) (fun _ _ => False) args s (rmL 5 40 180)) (F0 m 128 ls []) := by
                intro n9
                induction n9 with
                | zero =>
                  intro k9 ad cc9 ss9 hf9 hk96 hcc hss ha H locs ls hS hP hl
                  exact absurd True.intro (by omega)
                | succ n9 ih128 =>
                  intro k9 ad cc9 ss9 hf9 hk96 hcc hss ha H locs ls hS hP hl
                  refine lv_iload_n hx hb dX5_init_128 rfl (lv_at hl 1 rfl) ?_
                  refine lv_aload_n hx hb dX5_init_129 rfl (lv_at hl 0 rfl) ?_
                  refine gX5 F (hP.main ha) 2 (by decide) wFL_X5_23 (fun _ h9 => h9) (v := .ref (ad 3 0)) rfl dX5_init_130 ?_
                  refine xalen hx hb hE.1.1 hP.a3.1 2 rfl dX5_init_133 ?_
                  refine lv_icmp_ge (tgt := 156) hx hb dX5_init_134 (by decide) (fun c_134_8 => ?_) (fun c_134_8 => ?_)
                  · have hk99 : k9 = 6 := nI_eqle hk96 (by decide) c_134_8
                    exact kvret hx hb hr hlocks hS (by show cc9 ≤ 40; omega) (by show ss9 ≤ 180; omega) dX5_init_156 (⟨rfl, ad, ha, (hk99 ▸ hP).px⟩)
                  · have hk9 : k9 < 6 := nI_lt' hk96 (by decide) c_134_8
                    refine lv_aload_n hx hb dX5_init_137 rfl (lv_at hl 0 rfl) ?_
                    refine gX5 F (hP.main ha) 2 (by decide) wFL_X5_23 (fun _ h9 => h9) (v := .ref (ad 3 0)) rfl dX5_init_138 ?_
                    refine lv_iload_n hx hb dX5_init_141 rfl (lv_at hl 1 rfl) ?_
                    have hz := hS.1
                    refine xnew (ci := 2) (N := 2) hx hb hts inG_X0 tyX0 tyX0_ok hown wCL_X5_21 wIS_X0 wIN_X0 hE.1.1 hS (show mcl[2]? = some (RX0, TX0, 2) from rfl) (fs := [.int 0, .int 0]) (by decide) (by show cc9 + 1 ≤ 40; omega) (by show ss9 + 2 ≤ 180; omega) dX5_init_142 (fun H1 he z1 oq1 hS => ?_)
                    obtain ⟨q, eq9⟩ : ∃ q, q = H.size := ⟨_, rfl⟩
                    rw [← eq9] at he ⊢
                    have hAq : A q := hA _ (eq9 ▸ hz)
                    have hk0 : KF (fun z => H.size ≤ z) H H1 := ⟨by omega, fun q hq _ => oq1 q hq⟩
                    refine lv_dup hx hb dX5_init_145 rfl ?_
                    refine kcallIN (n := 0) F (cX0_initC l G (fun z => z = q ∨ H1.size ≤ z) q (Or.inl rfl)) hE.1.2.2.2.2.1.1 wIM_X0_init wIN_X0 wCO_X0_init rfl (by decide) rfl ⟨by decide, by decide⟩ hS (fun z h => h.elim (fun e => e ▸ hAq) (fun h => hA z (Nat.le_trans hS.1 h))) (fun z h => Or.inr h) he rfl hl.1 (Nat.le_of_ble_eq_true rfl) dX5_init_146 ⟨by show cc9 + 1 + 0 ≤ 40; omega, by show ss9 + 2 + 0 ≤ 180; omega⟩ (fun E ce q9 H1 locs1 hx9 _ _ _ _ _ => hx9.elim) (fun v H1 locs1 hv hk hS => ?_)
                    obtain ⟨rfl, he⟩ := hv
                    have hk0 := hk0.new hk (fun z h => h.elim (fun e => by rw [e, eq9]; exact Nat.le_refl _) (fun h => Nat.le_trans hk0.1 h))
                    have hP1 := hP.old hk0
                    refine xaast hx hb hE.1.1 hS hP1.a3.1 hP1.a3.2 2 rfl (any_own hE (show mcl[2]? = some _ from rfl) he) (k := k9) rfl hk9 (by decide) dX5_init_149 (fun H2 locs2 he2 z2 oq2 hS => ?_)
                    have hP := hP.member hk0 (Nat.le_of_eq eq9.symm) hAq he he2 oq2
                    refine lv_iinc (v := (nI (k9 + 1))) (lv' := [(1, .int (nI (k9 + 1))), (0, .ref a)]) hx hb dX5_init_150 hl (k := 1) rfl (nI_1 _) (by decide) rfl (fun ls hl => ?_)
                    refine lv_goto (tgt := 128) hx hb dX5_init_153 (by decide) ?_
                    exact ih128 (k9 + 1) (adN ad 6 k9 q) (cc9 + 1) (ss9 + 2) (by omega) (by omega) (by omega) (by omega) (by rw [adN_o (by omega)]; exact ha) H2 locs2 ls hS hP (lv_sub hl [1, 0] rfl)
              exact L128 7 0 ad cc9 ss9 (by decide) (by decide) (by omega) (by omega) ha H locs ls hS (hj9 ▸ hP) (lv_sub hl [1, 0] rfl)
            · have hj : j < 12 := nI_lt' hj12 (by decide) c_103_7
              refine lv_aload_n hx hb dX5_init_106 rfl (lv_at hl 0 rfl) ?_
              refine gX5 F (hP.main ha) 1 (by decide) wFL_X5_17 (fun _ h9 => h9) (v := .ref (ad 2 0)) rfl dX5_init_107 ?_
              refine lv_iload_n hx hb dX5_init_110 rfl (lv_at hl 1 rfl) ?_
              have hz := hS.1
              refine xnew (ci := 3) (N := 6) hx hb hts inG_X1 tyX1 tyX1_ok hown wCL_X5_15 wIS_X1 wIN_X1 hE.1.1 hS (show mcl[3]? = some (RX1, TX1, 6) from rfl) (fs := [.int 0, .int 0, .int 0, .int 0, .int 0, .null]) (by decide) (by show cc9 + 1 ≤ 40; omega) (by show ss9 + 6 ≤ 180; omega) dX5_init_111 (fun H1 he z1 oq1 hS => ?_)
              obtain ⟨q, eq9⟩ : ∃ q, q = H.size := ⟨_, rfl⟩
              rw [← eq9] at he ⊢
              have hAq : A q := hA _ (eq9 ▸ hz)
              have hk0 : KF (fun z => H.size ≤ z) H H1 := ⟨by omega, fun q hq _ => oq1 q hq⟩
              refine lv_dup hx hb dX5_init_114 rfl ?_
              refine lv_iload_n hx hb dX5_init_115 rfl (lv_at hl 1 rfl) ?_
              refine kcallI (n := 1) F (cI_room l G (fun z => z = q ∨ H1.size ≤ z) q (Or.inl rfl) H1.size j hj) wML_X5_40 wIM_X1_init wIN_X1 wCO_X1_init rfl (by decide) rfl ⟨by decide, by decide⟩ hS (fun z h => h.elim (fun e => e ▸ hAq) (fun h => hA z (Nat.le_trans hS.1 h))) (fun z h => Or.inr h) ⟨rfl, he⟩ rfl hl.1 (Nat.le_of_ble_eq_true rfl) dX5_init_116 ⟨by show cc9 + 1 + 1 ≤ 40; omega, by show ss9 + 6 + 3 ≤ 180; omega⟩ (fun E ce q9 H1 locs1 hx9 _ _ _ _ _ => hx9.elim) (fun v H1 locs1 hv hk hS => ?_)
              obtain ⟨rfl, q', hq', he, he'⟩ := hv
              have hk0 := hk0.new hk (fun z h => h.elim (fun e => by rw [e, eq9]; exact Nat.le_refl _) (fun h => Nat.le_trans hk0.1 h))
              have hP1 := hP.old hk0
              refine xaast hx hb hE.1.1 hS hP1.a2.1 hP1.a2.2 3 rfl (any_own hE (show mcl[3]? = some _ from rfl) he) (k := j) rfl hj (by decide) dX5_init_119 (fun H2 locs2 he2 z2 oq2 hS => ?_)
              have hP := hP.room (fun z => absurd hq' (by rw [← z]; omega)) hj hk0 (Nat.le_of_eq eq9.symm) hAq (by omega) (hA _ (by omega)) he he' he2 oq2
              refine lv_iinc (v := (nI (j + 1))) (lv' := [(1, .int (nI (j + 1))), (0, .ref a)]) hx hb dX5_init_120 hl (k := 1) rfl (nI_1 _) (by decide) rfl (fun ls hl => ?_)
              refine lv_goto (tgt := 97) hx hb dX5_init_123 (by decide) ?_
              exact ih97 (j + 1) (adN (adN ad 7 j q') 5 j q) (cc9 + 1 + 1) (ss9 + 6 + 3) (by omega) (by omega) (by omega) (by omega) (by rw [adN_o (by omega), adN_o (by omega)]; exact ha) H2 locs2 ls hS hP (lv_sub hl [1, 0] rfl)
        exact L97 13 0 ad cc9 ss9 (by decide) (by decide) (by omega) (by omega) ha H locs ls hS (hi9 ▸ hP) (lv_sub hl [1, 0] rfl)
      · have hi : i < 5 := nI_lt' hi5 (by decide) c_60_6
        refine lv_aload_n hx hb dX5_init_63 rfl (lv_at hl 0 rfl) ?_
        refine gX5 F (hP.main ha) 0 (by decide) wFL_X5_11 (fun _ h9 => h9) (v := .ref (ad 1 0)) rfl dX5_init_64 ?_
        refine lv_iload_n hx hb dX5_init_67 rfl (lv_at hl 1 rfl) ?_
        have hz := hS.1
        refine xnew (ci := 5) (N := 5) hx hb hts inG_X3 tyX3 tyX3_ok hown wCL_X5_9 wIS_X3 wIN_X3 hE.1.1 hS (show mcl[5]? = some (RX3, TX3, 5) from rfl) (fs := [.int 0, .int 0, .int 0, .int 0, .int 0]) (by decide) (by show cc9 + 1 ≤ 40; omega) (by show ss9 + 5 ≤ 180; omega) dX5_init_68 (fun H1 he z1 oq1 hS => ?_)
        obtain ⟨q, eq9⟩ : ∃ q, q = H.size := ⟨_, rfl⟩
        rw [← eq9] at he ⊢
        have hAq : A q := hA _ (eq9 ▸ hz)
        have hk0 : KF (fun z => H.size ≤ z) H H1 := ⟨by omega, fun q hq _ => oq1 q hq⟩
        refine lv_dup hx hb dX5_init_71 rfl ?_
        refine lv_iload_n hx hb dX5_init_72 rfl (lv_at hl 1 rfl) ?_
        refine lv_if_ne (tgt := 82) hx hb dX5_init_73 (by decide) (fun c_73_9 => ?_) (fun c_73_9 => ?_)
        · have hfp : fPr i = 600 := if_neg (fun z => c_73_9 (by rw [z]; rfl))
          refine lv_sipush (v := 600) hx hb dX5_init_82 (by decide) ?_
          refine kcallI (n := 1) F (cX3_initC l G (fun z => z = q ∨ H1.size ≤ z) q 0 0 0 0 0 (Or.inl rfl) 600) wML_X5_37 wIM_X3_init wIN_X3 wCO_X3_init rfl (by decide) rfl ⟨by decide, by decide⟩ hS (fun z h => h.elim (fun e => e ▸ hAq) (fun h => hA z (Nat.le_trans hS.1 h))) (fun z h => Or.inr h) he rfl hl.1 (Nat.le_of_ble_eq_true rfl) dX5_init_85 ⟨by show cc9 + 1 + 0 ≤ 40; omega, by show ss9 + 5 + 0 ≤ 180; omega⟩ (fun E ce q9 H1 locs1 hx9 _ _ _ _ _ => hx9.elim) (fun v H1 locs1 hv hk hS => ?_)
          obtain ⟨rfl, he⟩ := hv
          rw [← hfp] at he
          have hk0 := hk0.new hk (fun z h => h.elim (fun e => by rw [e, eq9]; exact Nat.le_refl _) (fun h => Nat.le_trans hk0.1 h))
          have hP1 := hP.old hk0
          refine xaast hx hb hE.1.1 hS hP1.a1.1 hP1.a1.2 4 rfl (any_own hE (show mcl[5]? = some _ from rfl) he) (k := i) rfl hi (by decide) dX5_init_88 (fun H2 locs2 he2 z2 oq2 hS => ?_)
          have hP := hP.till hk0 (Nat.le_of_eq eq9.symm) hAq he he2 oq2
          refine lv_iinc (v := (nI (i + 1))) (lv' := [(1, .int (nI (i + 1))), (0, .ref a)]) hx hb dX5_init_89 hl (k := 1) rfl (nI_1 _) (by decide) rfl (fun ls hl => ?_)
          refine lv_goto (tgt := 54) hx hb dX5_init_92 (by decide) ?_
          exact ih54 (i + 1) (adN ad 4 i q) (cc9 + 1) (ss9 + 5) (by omega) (by omega) (by omega) (by omega) (by rw [adN_o (by omega)]; exact ha) H2 locs2 ls hS hP (lv_sub hl [1, 0] rfl)
        · have hfp : fPr i = 1500 := if_pos (nI_le0 (by omega) (by rw [c_73_9]; decide))
          refine lv_sipush (v := 1500) hx hb dX5_init_76 (by decide) ?_
          refine lv_goto (tgt := 85) hx hb dX5_init_79 (by decide) ?_
          refine kcallI (n := 1) F (cX3_initC l G (fun z => z = q ∨ H1.size ≤ z) q 0 0 0 0 0 (Or.inl rfl) 1500) wML_X5_37 wIM_X3_init wIN_X3 wCO_X3_init rfl (by decide) rfl ⟨by decide, by decide⟩ hS (fun z h => h.elim (fun e => e ▸ hAq) (fun h => hA z (Nat.le_trans hS.1 h))) (fun z h => Or.inr h) he rfl hl.1 (Nat.le_of_ble_eq_true rfl) dX5_init_85 ⟨by show cc9 + 1 + 0 ≤ 40; omega, by show ss9 + 5 + 0 ≤ 180; omega⟩ (fun E ce q9 H1 locs1 hx9 _ _ _ _ _ => hx9.elim) (fun v H1 locs1 hv hk hS => ?_)
          obtain ⟨rfl, he⟩ := hv
          rw [← hfp] at he
          have hk0 := hk0.new hk (fun z h => h.elim (fun e => by rw [e, eq9]; exact Nat.le_refl _) (fun h => Nat.le_trans hk0.1 h))
          have hP1 := hP.old hk0
          refine xaast hx hb hE.1.1 hS hP1.a1.1 hP1.a1.2 4 rfl (any_own hE (show mcl[5]? = some _ from rfl) he) (k := i) rfl hi (by decide) dX5_init_88 (fun H2 locs2 he2 z2 oq2 hS => ?_)
          have hP := hP.till hk0 (Nat.le_of_eq eq9.symm) hAq he he2 oq2
          refine lv_iinc (v := (nI (i + 1))) (lv' := [(1, .int (nI (i + 1))), (0, .ref a)]) hx hb dX5_init_89 hl (k := 1) rfl (nI_1 _) (by decide) rfl (fun ls hl => ?_)
          refine lv_goto (tgt := 54) hx hb dX5_init_92 (by decide) ?_
          exact ih54 (i + 1) (adN ad 4 i q) (cc9 + 1) (ss9 + 5) (by omega) (by omega) (by omega) (by omega) (by rw [adN_o (by omega)]; exact ha) H2 locs2 ls hS hP (lv_sub hl [1, 0] rfl)
  exact L54 6 0 (adI a q1 q2 q3 q4 q5) 5 29 (by decide) (by decide) rfl rfl rfl _ _ ls hS hF0 (lv_sub hl [1, 0] rfl)

