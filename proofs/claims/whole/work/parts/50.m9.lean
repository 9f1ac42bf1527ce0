def ordM : Nat → Nat := fun f => match f with
  | 0 => 0
  | 2 => 1
  | 4 => 2
  | 5 => 3
  | 6 => 4
  | 7 => 5
  | 8 => 6
  | 9 => 7
  | 10 => 8
  | 11 => 9
  | 13 => 10
  | 14 => 11
  | 15 => 12
  | 17 => 13
  | 18 => 14
  | 19 => 15
  | 20 => 16
  | 21 => 17
  | 22 => 18
  | 23 => 19
  | 24 => 20
  | 28 => 21
  | _ => 30
def adK (a B : Nat) (f : Nat) : Nat := if f = 30 then a else B + ordM f
def rK (B k f : Nat) : Value := if ordM f < k then .ref (B + ordM f) else .null
def mK (B k : Nat) : List Value := [rK B k 0, .int 0, rK B k 2, .int 0, rK B k 4, rK B k 5, rK B k 6, rK B k 7, rK B k 8, rK B k 9, rK B k 10, rK B k 11, .int 0, rK B k 13, rK B k 14, rK B k 15, .int 0, rK B k 17, rK B k 18, rK B k 19, rK B k 20, rK B k 21, rK B k 22, rK B k 23, rK B k 24, .int 0, .int 0, .int 0, rK B k 28, .int 0]
def ceK (G : GE) (B k : Nat) : Nat → Nat → va_E := fun f _ => if f = 30 then .inr (8, mK B k) else .inl (G.2.1 (cyM f), szM f, .inl (fun _ => 0))
def dmK (k f i : Nat) : Prop := i = 0 ∧ (f = 30 ∨ (szM f ≠ 0 ∧ ordM f < k))
def FK (G : GE) (A : Nat → Prop) (a B k : Nat) (H : Heap) : Prop := FAM G.1 mcl (fun f _ => adK a B f) (dmK k) (ceK G B k) A H ∧ a < B ∧ H.size = B + k
theorem szM_lt {f : Nat} (h : szM f ≠ 0) : f < 29 := by
  unfold szM at h
  split at h <;> first | omega | exact absurd rfl h
theorem ordM_inj {f g : Nat} (hf : szM f ≠ 0) (hg : szM g ≠ 0) (e : ordM f = ordM g) : f = g :=
  (by decide +kernel : ∀ f, f < 29 → ∀ g, g < 29 → szM f ≠ 0 → szM g ≠ 0 → ordM f = ordM g → f = g) f (szM_lt hf) g (szM_lt hg) hf hg e
section FKS
variable {G : GE} {A : Nat → Prop} {a B k : Nat} {H H1 H2 : Heap}
theorem FK.main (h : FK G A a B k H) : va_at G.1 mcl (a, .inr (8, mK B k)) H ∧ A a := ⟨h.1.1 30 0 ⟨rfl, Or.inl rfl⟩, h.1.2.2 30 0 ⟨rfl, Or.inl rfl⟩⟩
theorem FK.step (h : FK G A a B k H) {f : Nat} (hf : szM f ≠ 0) (ho : ordM f = k) (hn : va_at G.1 mcl (H.size, .inl (G.2.1 (cyM f), szM f, .inl (fun _ => 0))) H1) (z1 : H1.size = H.size + 1) (oq1 : ∀ q : Nat, q < H.size → H1[q]? = H[q]?) (hA : A H.size) (he : va_at G.1 mcl (a, .inr (8, mK B (k + 1))) H2) (z2 : H2.size = H1.size) (oq : ∀ q, q ≠ a → H2[q]? = H1[q]?) : FK G A a B (k + 1) H2 := by
  obtain ⟨h1, h2, h3⟩ := h
  have hf30 : f ≠ 30 := fun z => by have := szM_lt hf; omega
  have hnew : adK a B f = H.size := by unfold adK; rw [if_neg hf30, ho, h3]
  have key : ∀ g i, dmK (k + 1) g i → dmK k g i ∨ g = f := fun g i hd => by
    obtain ⟨hi, hd | ⟨hd, hd2⟩⟩ := hd
    · exact Or.inl ⟨hi, Or.inl hd⟩
    · by_cases c : ordM g = k
      · exact Or.inr (ordM_inj hd hf (c.trans ho.symm))
      · exact Or.inl ⟨hi, Or.inr ⟨hd, by omega⟩⟩
  refine ⟨⟨fun g i hd => ?_, fun g i g' i' hd hd' ee => ?_, fun g i hd => ?_⟩, h2, by omega⟩
  · by_cases c : g = 30
    · subst c
      exact he
    · have hne : adK a B g ≠ a := by unfold adK; rw [if_neg c]; omega
      rcases key g i hd with q | q
      · have h5 := h1.1 g i q
        have h6 := (h5.kept (oq1 _ h5.lt)).kept (oq _ hne)
        have e1 : ceK G B (k + 1) g i = ceK G B k g i := by unfold ceK; rw [if_neg c, if_neg c]
        rw [e1]; exact h6
      · subst q
        have e1 : ceK G B (k + 1) g i = .inl (G.2.1 (cyM g), szM g, .inl (fun _ => 0)) := by unfold ceK; rw [if_neg c]
        rw [e1]
        show va_at G.1 mcl (adK a B g, _) H2
        rw [hnew] at hne ⊢
        exact hn.kept (oq _ hne)
  · obtain ⟨hi, hd⟩ := hd
    obtain ⟨hi', hd'⟩ := hd'
    refine ⟨?_, by rw [hi, hi']⟩
    simp only [adK] at ee
    split at ee
    · split at ee
      · next c c' => rw [c, c']
      · omega
    · split at ee
      · omega
      · next c c' => exact ordM_inj (hd.resolve_left c).1 (hd'.resolve_left c').1 (by omega)
  · rcases key g i hd with q | q
    · exact h1.2.2 g i q
    · subst q
      show A (adK a B g)
      rw [hnew]; exact hA
theorem FK.pm (h : FK G A a B 22 H) : PM G A (adK a B) (fun _ _ => 0) H := by
  refine FAM.ext h.1 (fun f i hd => ?_) (fun _ _ _ => rfl) (fun f i hd => ?_)
  · obtain ⟨hd, hi⟩ := hd
    refine ⟨hi, hd.imp id (fun q => ⟨q, ?_⟩)⟩
    exact (by decide +kernel : ∀ f, f < 29 → szM f ≠ 0 → ordM f < 22) f (szM_lt q) q
  · unfold ceM ceK
    split
    · rfl
    · rfl
end FKS
def mI (c0 c1 c2 c3 : Nat) : SG := fun f i => if f = 0 ∧ i < c0 then 600 else if f = 1 ∧ i < c1 then 1500 else if f = 14 ∧ i < c2 then 3 else if f = 2 ∧ i < c3 then -1 else 0
theorem mI_0 {j : Nat} : up (mI j 0 0 0) 0 j 600 = mI (j + 1) 0 0 0 := by
  funext f i
  simp only [up, mI]
  by_cases h : f = 0
  · subst h
    by_cases h2 : i = j
    · subst h2; simp
    · by_cases h3 : i < j
      · have : i < j + 1 := by omega
        simp [h2, h3, this]
      · have : ¬ i < j + 1 := by omega
        simp [h2, h3, this]
  · simp [h]
theorem mI_1 : up (mI 4 0 0 0) 1 0 1500 = mI 4 1 0 0 := by
  funext f i
  simp only [up, mI]
  by_cases h : f = 1
  · subst h
    by_cases h2 : i = 0
    · subst h2; simp
    · simp [h2]
  · simp [h]
theorem mI_2 {j : Nat} : up (mI 4 1 j 0) 14 j 3 = mI 4 1 (j + 1) 0 := by
  funext f i
  simp only [up, mI]
  by_cases h : f = 14
  · subst h
    by_cases h2 : i = j
    · subst h2; simp
    · by_cases h3 : i < j
      · have : i < j + 1 := by omega
        simp [h2, h3, this]
      · have : ¬ i < j + 1 := by omega
        simp [h2, h3, this]
  · simp [h]
theorem mI_3 {j : Nat} : up (mI 4 1 12 j) 2 j (-1) = mI 4 1 12 (j + 1) := by
  funext f i
  simp only [up, mI]
  by_cases h : f = 2
  · subst h
    by_cases h2 : i = j
    · subst h2; simp
    · by_cases h3 : i < j
      · have : i < j + 1 := by omega
        simp [h2, h3, this]
      · have : ¬ i < j + 1 := by omega
        simp [h2, h3, this]
  · simp [h]
theorem mI_z : mI 0 0 0 0 = fun _ _ => 0 := by funext f i; simp [mI]
theorem nIj {j : Nat} : nI j = nI j := rfl
set_option maxHeartbeats 4000000 in
set_option maxRecDepth 100000 in
theorem kR_init (l : Launch) (G : GE) (A : Nat → Prop) (a : Nat) (hAa : A a) : KM l G A yX6_init cX6_init 2 none (rmL 2 22 859) [.ref a] (fun H => va_at G.1 mcl (a, .inr (8, mK 0 0)) H) (fun v H => v = none ∧ ∃ ad : Nat → Nat, ad 30 = a ∧ PM G A ad (mI 4 1 12 6) H) (fun _ _ => False) := by
  refine KM.of (by decide) (Nat.le_of_ble_eq_true rfl) ?_
  intro p e s m args below meth c F hP ls hl
  have hx := F.1.1
  have hb := F.1.2.1
  have hown := F.1.2.2.2.1
  have hts := F.1.2.2.2.2
  have hr := F.2.1
  have hlocks := F.2.2.1
  have hE := F.2.2.2.2.2.1
  have hA := F.2.2.2.2.2.2
  have hS : va_S A s.heap s.heap [] := va_S.rf
  have hl : lv_has ls 2 [(0, .ref a)] := hl
  have hO := hP
  obtain ⟨B, hB⟩ : ∃ B, B = s.heap.size := ⟨_, rfl⟩
  have hF : FK G A a B 0 s.heap := ⟨⟨fun f i hd => by
    obtain ⟨hi, hd⟩ := hd
    have : f = 30 := hd.resolve_right (fun q => absurd q.2 (Nat.not_lt_zero _))
    subst this; exact hO, fun f i g j hd hd2 _ => ⟨(hd.2.resolve_right (fun q => absurd q.2 (Nat.not_lt_zero _))).trans (hd2.2.resolve_right (fun q => absurd q.2 (Nat.not_lt_zero _))).symm, hd.1.trans hd2.1.symm⟩, fun f i hd => by
    have : f = 30 := hd.2.resolve_right (fun q => absurd q.2 (Nat.not_lt_zero _))
    subst this; exact hAa⟩, hB ▸ hO.lt, hB.symm⟩
  refine lv_aload_n hx hb dX6_init_0 rfl (lv_at hl 0 rfl) ?_
  refine W.objInit hx hb hown (hts _ wML_X6_1) (hts _ wz_81) (hts _ wCO_obj) rfl (by rw [F.1.2.2.1]; exact hl.1) rfl dX6_init_1 (Nat.le_of_ble_eq_true rfl) (Nat.le_of_ble_eq_true rfl) ?_
  refine W.eq (g2 := F0 m 4 ls []) rfl ?_
  refine lv_aload_n hx hb dX6_init_4 rfl (lv_at hl 0 rfl) ?_
  refine lv_iconst (v := 4) hx hb dX6_init_5 (by decide) ?_
  have hz := hS.1
  refine xnewa hx hb (atype := .int) (ty := .int) rfl (hts _ wAC_int) hE.1.1 0 rfl (fun h => h) hS (a0 := (4, .inl (fun _ => 0))) rfl (n := 4) (N := 4) (by decide) (by decide) (by decide) (Nat.le_of_ble_eq_true rfl) (Nat.le_of_ble_eq_true rfl) dX6_init_6 (fun H1 hN z1 oq1 hS => ?_)
  have hO := hF.main.1.kept (oq1 _ hF.main.1.lt)
  have hsz := hF.2.2
  refine pfX6 F hS hO hF.main.2 0 (by decide) wFL_X6_7 (fun _ h9 => h9) rfl rfl rfl rfl rfl (by simp [mK]) dX6_init_8 (fun H2 locs2 hO z2 oq2 hS => ?_)
  have hF : FK G A a B 1 H2 := hF.step (f := 0) (by decide) rfl hN z1 oq1 (hA _ hz) (by rw [hsz] at hO; exact hO) z2 oq2
  refine lv_aload_n hx hb dX6_init_11 rfl (lv_at hl 0 rfl) ?_
  refine lv_bipush (v := 6) hx hb dX6_init_12 (by decide) ?_
  have hz := hS.1
  refine xnewa hx hb (atype := .int) (ty := .int) rfl (hts _ wAC_int) hE.1.1 0 rfl (fun h => h) hS (a0 := (6, .inl (fun _ => 0))) rfl (n := 6) (N := 6) (by decide) (by decide) (by decide) (Nat.le_of_ble_eq_true rfl) (Nat.le_of_ble_eq_true rfl) dX6_init_14 (fun H1 hN z1 oq1 hS => ?_)
  have hO := hF.main.1.kept (oq1 _ hF.main.1.lt)
  have hsz := hF.2.2
  refine pfX6 F hS hO hF.main.2 2 (by decide) wFL_X6_13 (fun _ h9 => h9) rfl rfl rfl rfl rfl (by simp [mK]) dX6_init_16 (fun H2 locs2 hO z2 oq2 hS => ?_)
  have hF : FK G A a B 2 H2 := hF.step (f := 2) (by decide) rfl hN z1 oq1 (hA _ hz) (by rw [hsz] at hO; exact hO) z2 oq2
  refine lv_aload_n hx hb dX6_init_19 rfl (lv_at hl 0 rfl) ?_
  refine lv_bipush (v := 80) hx hb dX6_init_20 (by decide) ?_
  have hz := hS.1
  refine xnewa hx hb (atype := .int) (ty := .int) rfl (hts _ wAC_int) hE.1.1 0 rfl (fun h => h) hS (a0 := (80, .inl (fun _ => 0))) rfl (n := 80) (N := 80) (by decide) (by decide) (by decide) (Nat.le_of_ble_eq_true rfl) (Nat.le_of_ble_eq_true rfl) dX6_init_22 (fun H1 hN z1 oq1 hS => ?_)
  have hO := hF.main.1.kept (oq1 _ hF.main.1.lt)
  have hsz := hF.2.2
  refine pfX6 F hS hO hF.main.2 4 (by decide) wFL_X6_16 (fun _ h9 => h9) rfl rfl rfl rfl rfl (by simp [mK]) dX6_init_24 (fun H2 locs2 hO z2 oq2 hS => ?_)
  have hF : FK G A a B 3 H2 := hF.step (f := 4) (by decide) rfl hN z1 oq1 (hA _ hz) (by rw [hsz] at hO; exact hO) z2 oq2
  refine lv_aload_n hx hb dX6_init_27 rfl (lv_at hl 0 rfl) ?_
  refine lv_bipush (v := 80) hx hb dX6_init_28 (by decide) ?_
  have hz := hS.1
  refine xnewa hx hb (atype := .int) (ty := .int) rfl (hts _ wAC_int) hE.1.1 0 rfl (fun h => h) hS (a0 := (80, .inl (fun _ => 0))) rfl (n := 80) (N := 80) (by decide) (by decide) (by decide) (Nat.le_of_ble_eq_true rfl) (Nat.le_of_ble_eq_true rfl) dX6_init_30 (fun H1 hN z1 oq1 hS => ?_)
  have hO := hF.main.1.kept (oq1 _ hF.main.1.lt)
  have hsz := hF.2.2
  refine pfX6 F hS hO hF.main.2 5 (by decide) wFL_X6_19 (fun _ h9 => h9) rfl rfl rfl rfl rfl (by simp [mK]) dX6_init_32 (fun H2 locs2 hO z2 oq2 hS => ?_)
  have hF : FK G A a B 4 H2 := hF.step (f := 5) (by decide) rfl hN z1 oq1 (hA _ hz) (by rw [hsz] at hO; exact hO) z2 oq2
  refine lv_aload_n hx hb dX6_init_35 rfl (lv_at hl 0 rfl) ?_
  refine lv_bipush (v := 80) hx hb dX6_init_36 (by decide) ?_
  have hz := hS.1
  refine xnewa hx hb (atype := .int) (ty := .int) rfl (hts _ wAC_int) hE.1.1 0 rfl (fun h => h) hS (a0 := (80, .inl (fun _ => 0))) rfl (n := 80) (N := 80) (by decide) (by decide) (by decide) (Nat.le_of_ble_eq_true rfl) (Nat.le_of_ble_eq_true rfl) dX6_init_38 (fun H1 hN z1 oq1 hS => ?_)
  have hO := hF.main.1.kept (oq1 _ hF.main.1.lt)
  have hsz := hF.2.2
  refine pfX6 F hS hO hF.main.2 6 (by decide) wFL_X6_22 (fun _ h9 => h9) rfl rfl rfl rfl rfl (by simp [mK]) dX6_init_40 (fun H2 locs2 hO z2 oq2 hS => ?_)
  have hF : FK G A a B 5 H2 := hF.step (f := 6) (by decide) rfl hN z1 oq1 (hA _ hz) (by rw [hsz] at hO; exact hO) z2 oq2
  refine lv_aload_n hx hb dX6_init_43 rfl (lv_at hl 0 rfl) ?_
  refine lv_bipush (v := 80) hx hb dX6_init_44 (by decide) ?_
  have hz := hS.1
  refine xnewa hx hb (atype := .int) (ty := .int) rfl (hts _ wAC_int) hE.1.1 0 rfl (fun h => h) hS (a0 := (80, .inl (fun _ => 0))) rfl (n := 80) (N := 80) (by decide) (by decide) (by decide) (Nat.le_of_ble_eq_true rfl) (Nat.le_of_ble_eq_true rfl) dX6_init_46 (fun H1 hN z1 oq1 hS => ?_)
  have hO := hF.main.1.kept (oq1 _ hF.main.1.lt)
  have hsz := hF.2.2
  refine pfX6 F hS hO hF.main.2 7 (by decide) wFL_X6_25 (fun _ h9 => h9) rfl rfl rfl rfl rfl (by simp [mK]) dX6_init_48 (fun H2 locs2 hO z2 oq2 hS => ?_)
  have hF : FK G A a B 6 H2 := hF.step (f := 7) (by decide) rfl hN z1 oq1 (hA _ hz) (by rw [hsz] at hO; exact hO) z2 oq2
  refine lv_aload_n hx hb dX6_init_51 rfl (lv_at hl 0 rfl) ?_
  refine lv_bipush (v := 80) hx hb dX6_init_52 (by decide) ?_
  have hz := hS.1
  refine xnewa hx hb (atype := .int) (ty := .int) rfl (hts _ wAC_int) hE.1.1 0 rfl (fun h => h) hS (a0 := (80, .inl (fun _ => 0))) rfl (n := 80) (N := 80) (by decide) (by decide) (by decide) (Nat.le_of_ble_eq_true rfl) (Nat.le_of_ble_eq_true rfl) dX6_init_54 (fun H1 hN z1 oq1 hS => ?_)
  have hO := hF.main.1.kept (oq1 _ hF.main.1.lt)
  have hsz := hF.2.2
  refine pfX6 F hS hO hF.main.2 8 (by decide) wFL_X6_28 (fun _ h9 => h9) rfl rfl rfl rfl rfl (by simp [mK]) dX6_init_56 (fun H2 locs2 hO z2 oq2 hS => ?_)
  have hF : FK G A a B 7 H2 := hF.step (f := 8) (by decide) rfl hN z1 oq1 (hA _ hz) (by rw [hsz] at hO; exact hO) z2 oq2
  refine lv_aload_n hx hb dX6_init_59 rfl (lv_at hl 0 rfl) ?_
  refine lv_bipush (v := 80) hx hb dX6_init_60 (by decide) ?_
  have hz := hS.1
  refine xnewa hx hb (atype := .boolean) (ty := .boolean) rfl (hts _ wAC_boolean) hE.1.1 1 rfl (fun h => h) hS (a0 := (80, .inl (fun _ => 0))) rfl (n := 80) (N := 80) (by decide) (by decide) (by decide) (Nat.le_of_ble_eq_true rfl) (Nat.le_of_ble_eq_true rfl) dX6_init_62 (fun H1 hN z1 oq1 hS => ?_)
  have hO := hF.main.1.kept (oq1 _ hF.main.1.lt)
  have hsz := hF.2.2
  refine pfX6 F hS hO hF.main.2 9 (by decide) wFL_X6_31 (fun _ h9 => h9) rfl rfl rfl rfl rfl (by simp [mK]) dX6_init_64 (fun H2 locs2 hO z2 oq2 hS => ?_)
  have hF : FK G A a B 8 H2 := hF.step (f := 9) (by decide) rfl hN z1 oq1 (hA _ hz) (by rw [hsz] at hO; exact hO) z2 oq2
  refine lv_aload_n hx hb dX6_init_67 rfl (lv_at hl 0 rfl) ?_
  refine lv_bipush (v := 80) hx hb dX6_init_68 (by decide) ?_
  have hz := hS.1
  refine xnewa hx hb (atype := .int) (ty := .int) rfl (hts _ wAC_int) hE.1.1 0 rfl (fun h => h) hS (a0 := (80, .inl (fun _ => 0))) rfl (n := 80) (N := 80) (by decide) (by decide) (by decide) (Nat.le_of_ble_eq_true rfl) (Nat.le_of_ble_eq_true rfl) dX6_init_70 (fun H1 hN z1 oq1 hS => ?_)
  have hO := hF.main.1.kept (oq1 _ hF.main.1.lt)
  have hsz := hF.2.2
  refine pfX6 F hS hO hF.main.2 10 (by decide) wFL_X6_35 (fun _ h9 => h9) rfl rfl rfl rfl rfl (by simp [mK]) dX6_init_72 (fun H2 locs2 hO z2 oq2 hS => ?_)
  have hF : FK G A a B 9 H2 := hF.step (f := 10) (by decide) rfl hN z1 oq1 (hA _ hz) (by rw [hsz] at hO; exact hO) z2 oq2
  refine lv_aload_n hx hb dX6_init_75 rfl (lv_at hl 0 rfl) ?_
  refine lv_bipush (v := 80) hx hb dX6_init_76 (by decide) ?_
  have hz := hS.1
  refine xnewa hx hb (atype := .int) (ty := .int) rfl (hts _ wAC_int) hE.1.1 0 rfl (fun h => h) hS (a0 := (80, .inl (fun _ => 0))) rfl (n := 80) (N := 80) (by decide) (by decide) (by decide) (Nat.le_of_ble_eq_true rfl) (Nat.le_of_ble_eq_true rfl) dX6_init_78 (fun H1 hN z1 oq1 hS => ?_)
  have hO := hF.main.1.kept (oq1 _ hF.main.1.lt)
  have hsz := hF.2.2
  refine pfX6 F hS hO hF.main.2 11 (by decide) wFL_X6_38 (fun _ h9 => h9) rfl rfl rfl rfl rfl (by simp [mK]) dX6_init_80 (fun H2 locs2 hO z2 oq2 hS => ?_)
  have hF : FK G A a B 10 H2 := hF.step (f := 11) (by decide) rfl hN z1 oq1 (hA _ hz) (by rw [hsz] at hO; exact hO) z2 oq2
  refine lv_aload_n hx hb dX6_init_83 rfl (lv_at hl 0 rfl) ?_
  refine lv_bipush (v := 80) hx hb dX6_init_84 (by decide) ?_
  have hz := hS.1
  refine xnewa hx hb (atype := .int) (ty := .int) rfl (hts _ wAC_int) hE.1.1 0 rfl (fun h => h) hS (a0 := (80, .inl (fun _ => 0))) rfl (n := 80) (N := 80) (by decide) (by decide) (by decide) (Nat.le_of_ble_eq_true rfl) (Nat.le_of_ble_eq_true rfl) dX6_init_86 (fun H1 hN z1 oq1 hS => ?_)
  have hO := hF.main.1.kept (oq1 _ hF.main.1.lt)
  have hsz := hF.2.2
  refine pfX6 F hS hO hF.main.2 13 (by decide) wFL_X6_41 (fun _ h9 => h9) rfl rfl rfl rfl rfl (by simp [mK]) dX6_init_88 (fun H2 locs2 hO z2 oq2 hS => ?_)
  have hF : FK G A a B 11 H2 := hF.step (f := 13) (by decide) rfl hN z1 oq1 (hA _ hz) (by rw [hsz] at hO; exact hO) z2 oq2
  refine lv_aload_n hx hb dX6_init_91 rfl (lv_at hl 0 rfl) ?_
  refine lv_bipush (v := 12) hx hb dX6_init_92 (by decide) ?_
  have hz := hS.1
  refine xnewa hx hb (atype := .int) (ty := .int) rfl (hts _ wAC_int) hE.1.1 0 rfl (fun h => h) hS (a0 := (12, .inl (fun _ => 0))) rfl (n := 12) (N := 12) (by decide) (by decide) (by decide) (Nat.le_of_ble_eq_true rfl) (Nat.le_of_ble_eq_true rfl) dX6_init_94 (fun H1 hN z1 oq1 hS => ?_)
  have hO := hF.main.1.kept (oq1 _ hF.main.1.lt)
  have hsz := hF.2.2
  refine pfX6 F hS hO hF.main.2 14 (by decide) wFL_X6_44 (fun _ h9 => h9) rfl rfl rfl rfl rfl (by simp [mK]) dX6_init_96 (fun H2 locs2 hO z2 oq2 hS => ?_)
  have hF : FK G A a B 12 H2 := hF.step (f := 14) (by decide) rfl hN z1 oq1 (hA _ hz) (by rw [hsz] at hO; exact hO) z2 oq2
  refine lv_aload_n hx hb dX6_init_99 rfl (lv_at hl 0 rfl) ?_
  refine lv_bipush (v := 12) hx hb dX6_init_100 (by decide) ?_
  have hz := hS.1
  refine xnewa hx hb (atype := .boolean) (ty := .boolean) rfl (hts _ wAC_boolean) hE.1.1 1 rfl (fun h => h) hS (a0 := (12, .inl (fun _ => 0))) rfl (n := 12) (N := 12) (by decide) (by decide) (by decide) (Nat.le_of_ble_eq_true rfl) (Nat.le_of_ble_eq_true rfl) dX6_init_102 (fun H1 hN z1 oq1 hS => ?_)
  have hO := hF.main.1.kept (oq1 _ hF.main.1.lt)
  have hsz := hF.2.2
  refine pfX6 F hS hO hF.main.2 15 (by decide) wFL_X6_47 (fun _ h9 => h9) rfl rfl rfl rfl rfl (by simp [mK]) dX6_init_104 (fun H2 locs2 hO z2 oq2 hS => ?_)
  have hF : FK G A a B 13 H2 := hF.step (f := 15) (by decide) rfl hN z1 oq1 (hA _ hz) (by rw [hsz] at hO; exact hO) z2 oq2
  refine lv_aload_n hx hb dX6_init_107 rfl (lv_at hl 0 rfl) ?_
  refine lv_bipush (v := 12) hx hb dX6_init_108 (by decide) ?_
  have hz := hS.1
  refine xnewa hx hb (atype := .int) (ty := .int) rfl (hts _ wAC_int) hE.1.1 0 rfl (fun h => h) hS (a0 := (12, .inl (fun _ => 0))) rfl (n := 12) (N := 12) (by decide) (by decide) (by decide) (Nat.le_of_ble_eq_true rfl) (Nat.le_of_ble_eq_true rfl) dX6_init_110 (fun H1 hN z1 oq1 hS => ?_)
  have hO := hF.main.1.kept (oq1 _ hF.main.1.lt)
  have hsz := hF.2.2
  refine pfX6 F hS hO hF.main.2 17 (by decide) wFL_X6_50 (fun _ h9 => h9) rfl rfl rfl rfl rfl (by simp [mK]) dX6_init_112 (fun H2 locs2 hO z2 oq2 hS => ?_)
  have hF : FK G A a B 14 H2 := hF.step (f := 17) (by decide) rfl hN z1 oq1 (hA _ hz) (by rw [hsz] at hO; exact hO) z2 oq2
  refine lv_aload_n hx hb dX6_init_115 rfl (lv_at hl 0 rfl) ?_
  refine lv_bipush (v := 12) hx hb dX6_init_116 (by decide) ?_
  have hz := hS.1
  refine xnewa hx hb (atype := .int) (ty := .int) rfl (hts _ wAC_int) hE.1.1 0 rfl (fun h => h) hS (a0 := (12, .inl (fun _ => 0))) rfl (n := 12) (N := 12) (by decide) (by decide) (by decide) (Nat.le_of_ble_eq_true rfl) (Nat.le_of_ble_eq_true rfl) dX6_init_118 (fun H1 hN z1 oq1 hS => ?_)
  have hO := hF.main.1.kept (oq1 _ hF.main.1.lt)
  have hsz := hF.2.2
  refine pfX6 F hS hO hF.main.2 18 (by decide) wFL_X6_53 (fun _ h9 => h9) rfl rfl rfl rfl rfl (by simp [mK]) dX6_init_120 (fun H2 locs2 hO z2 oq2 hS => ?_)
  have hF : FK G A a B 15 H2 := hF.step (f := 18) (by decide) rfl hN z1 oq1 (hA _ hz) (by rw [hsz] at hO; exact hO) z2 oq2
  refine lv_aload_n hx hb dX6_init_123 rfl (lv_at hl 0 rfl) ?_
  refine lv_bipush (v := 12) hx hb dX6_init_124 (by decide) ?_
  have hz := hS.1
  refine xnewa hx hb (atype := .boolean) (ty := .boolean) rfl (hts _ wAC_boolean) hE.1.1 1 rfl (fun h => h) hS (a0 := (12, .inl (fun _ => 0))) rfl (n := 12) (N := 12) (by decide) (by decide) (by decide) (Nat.le_of_ble_eq_true rfl) (Nat.le_of_ble_eq_true rfl) dX6_init_126 (fun H1 hN z1 oq1 hS => ?_)
  have hO := hF.main.1.kept (oq1 _ hF.main.1.lt)
  have hsz := hF.2.2
  refine pfX6 F hS hO hF.main.2 19 (by decide) wFL_X6_56 (fun _ h9 => h9) rfl rfl rfl rfl rfl (by simp [mK]) dX6_init_128 (fun H2 locs2 hO z2 oq2 hS => ?_)
  have hF : FK G A a B 16 H2 := hF.step (f := 19) (by decide) rfl hN z1 oq1 (hA _ hz) (by rw [hsz] at hO; exact hO) z2 oq2
  refine lv_aload_n hx hb dX6_init_131 rfl (lv_at hl 0 rfl) ?_
  refine lv_bipush (v := 12) hx hb dX6_init_132 (by decide) ?_
  have hz := hS.1
  refine xnewa hx hb (atype := .int) (ty := .int) rfl (hts _ wAC_int) hE.1.1 0 rfl (fun h => h) hS (a0 := (12, .inl (fun _ => 0))) rfl (n := 12) (N := 12) (by decide) (by decide) (by decide) (Nat.le_of_ble_eq_true rfl) (Nat.le_of_ble_eq_true rfl) dX6_init_134 (fun H1 hN z1 oq1 hS => ?_)
  have hO := hF.main.1.kept (oq1 _ hF.main.1.lt)
  have hsz := hF.2.2
  refine pfX6 F hS hO hF.main.2 20 (by decide) wFL_X6_59 (fun _ h9 => h9) rfl rfl rfl rfl rfl (by simp [mK]) dX6_init_136 (fun H2 locs2 hO z2 oq2 hS => ?_)
  have hF : FK G A a B 17 H2 := hF.step (f := 20) (by decide) rfl hN z1 oq1 (hA _ hz) (by rw [hsz] at hO; exact hO) z2 oq2
  refine lv_aload_n hx hb dX6_init_139 rfl (lv_at hl 0 rfl) ?_
  refine lv_bipush (v := 12) hx hb dX6_init_140 (by decide) ?_
  have hz := hS.1
  refine xnewa hx hb (atype := .int) (ty := .int) rfl (hts _ wAC_int) hE.1.1 0 rfl (fun h => h) hS (a0 := (12, .inl (fun _ => 0))) rfl (n := 12) (N := 12) (by decide) (by decide) (by decide) (Nat.le_of_ble_eq_true rfl) (Nat.le_of_ble_eq_true rfl) dX6_init_142 (fun H1 hN z1 oq1 hS => ?_)
  have hO := hF.main.1.kept (oq1 _ hF.main.1.lt)
  have hsz := hF.2.2
  refine pfX6 F hS hO hF.main.2 21 (by decide) wFL_X6_62 (fun _ h9 => h9) rfl rfl rfl rfl rfl (by simp [mK]) dX6_init_144 (fun H2 locs2 hO z2 oq2 hS => ?_)
  have hF : FK G A a B 18 H2 := hF.step (f := 21) (by decide) rfl hN z1 oq1 (hA _ hz) (by rw [hsz] at hO; exact hO) z2 oq2
  refine lv_aload_n hx hb dX6_init_147 rfl (lv_at hl 0 rfl) ?_
  refine lv_bipush (v := 12) hx hb dX6_init_148 (by decide) ?_
  have hz := hS.1
  refine xnewa hx hb (atype := .int) (ty := .int) rfl (hts _ wAC_int) hE.1.1 0 rfl (fun h => h) hS (a0 := (12, .inl (fun _ => 0))) rfl (n := 12) (N := 12) (by decide) (by decide) (by decide) (Nat.le_of_ble_eq_true rfl) (Nat.le_of_ble_eq_true rfl) dX6_init_150 (fun H1 hN z1 oq1 hS => ?_)
  have hO := hF.main.1.kept (oq1 _ hF.main.1.lt)
  have hsz := hF.2.2
  refine pfX6 F hS hO hF.main.2 22 (by decide) wFL_X6_65 (fun _ h9 => h9) rfl rfl rfl rfl rfl (by simp [mK]) dX6_init_152 (fun H2 locs2 hO z2 oq2 hS => ?_)
  have hF : FK G A a B 19 H2 := hF.step (f := 22) (by decide) rfl hN z1 oq1 (hA _ hz) (by rw [hsz] at hO; exact hO) z2 oq2
  refine lv_aload_n hx hb dX6_init_155 rfl (lv_at hl 0 rfl) ?_
  refine lv_bipush (v := 12) hx hb dX6_init_156 (by decide) ?_
  have hz := hS.1
  refine xnewa hx hb (atype := .int) (ty := .int) rfl (hts _ wAC_int) hE.1.1 0 rfl (fun h => h) hS (a0 := (12, .inl (fun _ => 0))) rfl (n := 12) (N := 12) (by decide) (by decide) (by decide) (Nat.le_of_ble_eq_true rfl) (Nat.le_of_ble_eq_true rfl) dX6_init_158 (fun H1 hN z1 oq1 hS => ?_)
  have hO := hF.main.1.kept (oq1 _ hF.main.1.lt)
  have hsz := hF.2.2
  refine pfX6 F hS hO hF.main.2 23 (by decide) wFL_X6_68 (fun _ h9 => h9) rfl rfl rfl rfl rfl (by simp [mK]) dX6_init_160 (fun H2 locs2 hO z2 oq2 hS => ?_)
  have hF : FK G A a B 20 H2 := hF.step (f := 23) (by decide) rfl hN z1 oq1 (hA _ hz) (by rw [hsz] at hO; exact hO) z2 oq2
  refine lv_aload_n hx hb dX6_init_163 rfl (lv_at hl 0 rfl) ?_
  refine lv_iconst (v := 5) hx hb dX6_init_164 (by decide) ?_
  have hz := hS.1
  refine xnewa hx hb (atype := .int) (ty := .int) rfl (hts _ wAC_int) hE.1.1 0 rfl (fun h => h) hS (a0 := (5, .inl (fun _ => 0))) rfl (n := 5) (N := 5) (by decide) (by decide) (by decide) (Nat.le_of_ble_eq_true rfl) (Nat.le_of_ble_eq_true rfl) dX6_init_165 (fun H1 hN z1 oq1 hS => ?_)
  have hO := hF.main.1.kept (oq1 _ hF.main.1.lt)
  have hsz := hF.2.2
  refine pfX6 F hS hO hF.main.2 24 (by decide) wFL_X6_71 (fun _ h9 => h9) rfl rfl rfl rfl rfl (by simp [mK]) dX6_init_167 (fun H2 locs2 hO z2 oq2 hS => ?_)
  have hF : FK G A a B 21 H2 := hF.step (f := 24) (by decide) rfl hN z1 oq1 (hA _ hz) (by rw [hsz] at hO; exact hO) z2 oq2
  refine lv_aload_n hx hb dX6_init_170 rfl (lv_at hl 0 rfl) ?_
  refine lv_bipush (v := 16) hx hb dX6_init_171 (by decide) ?_
  have hz := hS.1
  refine xnewa hx hb (atype := .int) (ty := .int) rfl (hts _ wAC_int) hE.1.1 0 rfl (fun h => h) hS (a0 := (16, .inl (fun _ => 0))) rfl (n := 16) (N := 16) (by decide) (by decide) (by decide) (Nat.le_of_ble_eq_true rfl) (Nat.le_of_ble_eq_true rfl) dX6_init_173 (fun H1 hN z1 oq1 hS => ?_)
  have hO := hF.main.1.kept (oq1 _ hF.main.1.lt)
  have hsz := hF.2.2
  refine pfX6 F hS hO hF.main.2 28 (by decide) wFL_X6_74 (fun _ h9 => h9) rfl rfl rfl rfl rfl (by simp [mK]) dX6_init_175 (fun H2 locs2 hO z2 oq2 hS => ?_)
  have hF : FK G A a B 22 H2 := hF.step (f := 28) (by decide) rfl hN z1 oq1 (hA _ hz) (by rw [hsz] at hO; exact hO) z2 oq2
  refine lv_iconst (v := 0) hx hb dX6_init_178 (by decide) ?_
  refine lv_istore_n (lv' := [(1, .int 0), (0, .ref a)]) hx hb dX6_init_179 rfl hl (by decide) rfl (fun ls hl => ?_)
  have hP : PM G A (adK a B) (mI 0 0 0 0) H2 := by rw [mI_z]; exact hF.pm
  have ad30 : adK a B 30 = a := rfl
  have L180 : ∀ (n9 : Nat) (j : Nat) (h1 : j ≤ 4) (h2 : 4 < j + n9) (H : Heap) (locs : List Loc) (ls : Array Slot), va_S A s.heap H locs → PM G A (adK a B) (mI j 0 0 0) H → lv_has ls 2 [(1, .int (nI j)), (0, .ref a)] → W p l e (rmL 2 22 859) s m args below meth c H locs (0 + 1 + 1 + 1 + 1 + 1 + 1 + 1 + 1 + 1 + 1 + 1 + 1 + 1 + 1 + 1 + 1 + 1 + 1 + 1 + 1 + 1 + 1) (0 + 4 + 6 + 80 + 80 + 80 + 80 + 80 + 80 + 80 + 80 + 80 + 12 + 12 + 12 + 12 + 12 + 12 + 12 + 12 + 12 + 5 + 16) (KE below A (fun v H => v = none ∧ ∃ ad : Nat → Nat, ad 30 = a ∧ PM G A ad (mI 4 1 12 6) H) (fun _ _ => False) args s (rmL 2 22 859)) (F0 m 180 ls []) := by
    intro n9
    induction n9 with
    | zero =>
      intro j h1 h2 H locs ls hS hP hl
      exact absurd True.intro (by omega)
    | succ n9 ih180 =>
      intro j h1 h2 H locs ls hS hP hl
      refine lv_iload_n hx hb dX6_init_180 rfl (lv_at hl 0 rfl) ?_
      refine lv_iconst (v := 4) hx hb dX6_init_181 (by decide) ?_
      refine lv_icmp_ge (tgt := 200) hx hb dX6_init_182 (by decide) (fun c_182_1 => ?_) (fun c_182_1 => ?_)
      · obtain rfl := nI_eqle (n := 4) h1 (by decide) c_182_1
        refine lv_aload_n hx hb dX6_init_200 rfl (lv_at hl 1 rfl) ?_
        refine lv_sipush (v := 1500) hx hb dX6_init_201 (by decide) ?_
        refine pX6 F hS (ad30 ▸ hP.main) (ad30 ▸ hP.omain) 1 (by decide) wFL_X6_77 (fun _ h9 => h9) rfl rfl rfl (by simp) dX6_init_204 (fun H1 locs1 he1 z1 oq1 hS => ?_)
        have hP := hP.p1 (ad30 ▸ he1) (ad30 ▸ oq1)
        rw [mI_1] at hP
        refine lv_iconst (v := 0) hx hb dX6_init_207 (by decide) ?_
        refine lv_istore_n (lv' := [(1, .int 0), (0, .ref a)]) hx hb dX6_init_208 rfl hl (by decide) rfl (fun ls hl => ?_)
        have L209 : ∀ (n9 : Nat) (j : Nat) (h1 : j ≤ 12) (h2 : 12 < j + n9) (H : Heap) (locs : List Loc) (ls : Array Slot), va_S A s.heap H locs → PM G A (adK a B) (mI 4 1 j 0) H → lv_has ls 2 [(1, .int (nI j)), (0, .ref a)] → W p l e (rmL 2 22 859) s m args below meth c H locs (0 + 1 + 1 + 1 + 1 + 1 + 1 + 1 + 1 + 1 + 1 + 1 + 1 + 1 + 1 + 1 + 1 + 1 + 1 + 1 + 1 + 1 + 1) (0 + 4 + 6 + 80 + 80 + 80 + 80 + 80 + 80 + 80 + 80 + 80 + 12 + 12 + 12 + 12 + 12 + 12 + 12 + 12 + 12 + 5 + 16) (KE below A (fun v H => v = none ∧ ∃ ad : Nat → Nat, ad 30 = a ∧ PM G A ad (mI 4 1 12 6) H) (fun _ _ => False) args s (rmL 2 22 859)) (F0 m 209 ls []) := by
          intro n9
          induction n9 with
          | zero =>
            intro j h1 h2 H locs ls hS hP hl
            exact absurd True.intro (by omega)
          | succ n9 ih209 =>
            intro j h1 h2 H locs ls hS hP hl
            refine lv_iload_n hx hb dX6_init_209 rfl (lv_at hl 0 rfl) ?_
            refine lv_bipush (v := 12) hx hb dX6_init_210 (by decide) ?_
            refine lv_icmp_ge (tgt := 228) hx hb dX6_init_212 (by decide) (fun c_212_2 => ?_) (fun c_212_2 => ?_)
            · obtain rfl := nI_eqle (n := 12) h1 (by decide) c_212_2
              refine lv_iconst (v := 0) hx hb dX6_init_228 (by decide) ?_
              refine lv_istore_n (lv' := [(1, .int 0), (0, .ref a)]) hx hb dX6_init_229 rfl hl (by decide) rfl (fun ls hl => ?_)
              have L230 : ∀ (n9 : Nat) (j : Nat) (h1 : j ≤ 6) (h2 : 6 < j + n9) (H : Heap) (locs : List Loc) (ls : Array Slot), va_S A s.heap H locs → PM G A (adK a B) (mI 4 1 12 j) H → lv_has ls 2 [(1, .int (nI j)), (0, .ref a)] → W p l e (rmL 2 22 859) s m args below meth c H locs (0 + 1 + 1 + 1 + 1 + 1 + 1 + 1 + 1 + 1 + 1 + 1 + 1 + 1 + 1 + 1 + 1 + 1 + 1 + 1 + 1 + 1 + 1) (0 + 4 + 6 + 80 + 80 + 80 + 80 + 80 + 80 + 80 + 80 + 80 + 12 + 12 + 12 + 12 + 12 + 12 + 12 + 12 + 12 + 5 + 16) (KE below A (fun v H => v = none ∧ ∃ ad : Nat → Nat, ad 30 = a ∧ PM G A ad (mI 4 1 12 6) H) (fun _ _ => False) args s (rmL 2 22 859)) (F0 m 230 ls []) := by
                intro n9
                induction n9 with
                | zero =>
                  intro j h1 h2 H locs ls hS hP hl
                  exact absurd True.intro (by omega)
                | succ n9 ih230 =>
                  intro j h1 h2 H locs ls hS hP hl
                  refine lv_iload_n hx hb dX6_init_230 rfl (lv_at hl 0 rfl) ?_
                  refine lv_bipush (v := 6) hx hb dX6_init_231 (by decide) ?_
                  refine lv_icmp_ge (tgt := 249) hx hb dX6_init_233 (by decide) (fun c_233_3 => ?_) (fun c_233_3 => ?_)
                  · obtain rfl := nI_eqle (n := 6) h1 (by decide) c_233_3
                    exact kvret hx hb hr hlocks hS (by decide) (by decide) dX6_init_249 (⟨rfl, adK a B, rfl, hP⟩)
                  · have hi := nI_lt' (n := 6) h1 (by decide) c_233_3
                    refine lv_aload_n hx hb dX6_init_236 rfl (lv_at hl 1 rfl) ?_
                    refine gX6 F (ad30 ▸ hP.main) 2 (by decide) wFL_X6_13 (fun _ h9 => h9) (v := .ref (adK a B 2)) rfl dX6_init_237 ?_
                    refine lv_iload_n hx hb dX6_init_240 rfl (lv_at hl 0 rfl) ?_
                    refine lv_iconst (v := (-1)) hx hb dX6_init_241 (by decide) ?_
                    refine xiast hx hb hE.1.1 hS (hP.arr 2 (by decide) (by decide)) (hP.oarr 2 (by decide)) 0 rfl (k := j) rfl (show _ < 6 by omega) (by decide) dX6_init_242 (fun H1 locs1 he1 z1 oq1 hS => ?_)
                    have hP := hP.parr 2 j (by decide) (by decide) he1 oq1
                    rw [mI_3] at hP
                    refine lv_iinc (v := (nI (j + 1))) (lv' := [(1, .int (nI (j + 1))), (0, .ref a)]) hx hb dX6_init_243 hl (k := 0) rfl (nI_1 _) (by decide) rfl (fun ls hl => ?_)
                    refine lv_goto (tgt := 230) hx hb dX6_init_246 (by decide) ?_
                    exact ih230 (j + 1) (by omega) (by omega) _ _ _ hS hP (lv_sub hl [0, 1] rfl)
              exact L230 7 0 (by decide) (by decide) _ _ _ hS hP (lv_sub hl [0, 1] rfl)
            · have hi := nI_lt' (n := 12) h1 (by decide) c_212_2
              refine lv_aload_n hx hb dX6_init_215 rfl (lv_at hl 1 rfl) ?_
              refine gX6 F (ad30 ▸ hP.main) 14 (by decide) wFL_X6_44 (fun _ h9 => h9) (v := .ref (adK a B 14)) rfl dX6_init_216 ?_
              refine lv_iload_n hx hb dX6_init_219 rfl (lv_at hl 0 rfl) ?_
              refine lv_iconst (v := 3) hx hb dX6_init_220 (by decide) ?_
              refine xiast hx hb hE.1.1 hS (hP.arr 14 (by decide) (by decide)) (hP.oarr 14 (by decide)) 0 rfl (k := j) rfl (show _ < 12 by omega) (by decide) dX6_init_221 (fun H1 locs1 he1 z1 oq1 hS => ?_)
              have hP := hP.parr 14 j (by decide) (by decide) he1 oq1
              rw [mI_2] at hP
              refine lv_iinc (v := (nI (j + 1))) (lv' := [(1, .int (nI (j + 1))), (0, .ref a)]) hx hb dX6_init_222 hl (k := 0) rfl (nI_1 _) (by decide) rfl (fun ls hl => ?_)
              refine lv_goto (tgt := 209) hx hb dX6_init_225 (by decide) ?_
              exact ih209 (j + 1) (by omega) (by omega) _ _ _ hS hP (lv_sub hl [0, 1] rfl)
        exact L209 13 0 (by decide) (by decide) _ _ _ hS hP (lv_sub hl [0, 1] rfl)
      · have hi := nI_lt' (n := 4) h1 (by decide) c_182_1
        refine lv_aload_n hx hb dX6_init_185 rfl (lv_at hl 1 rfl) ?_
        refine gX6 F (ad30 ▸ hP.main) 0 (by decide) wFL_X6_7 (fun _ h9 => h9) (v := .ref (adK a B 0)) rfl dX6_init_186 ?_
        refine lv_iload_n hx hb dX6_init_189 rfl (lv_at hl 0 rfl) ?_
        refine lv_sipush (v := 600) hx hb dX6_init_190 (by decide) ?_
        refine xiast hx hb hE.1.1 hS (hP.arr 0 (by decide) (by decide)) (hP.oarr 0 (by decide)) 0 rfl (k := j) rfl (show _ < 4 by omega) (by decide) dX6_init_193 (fun H1 locs1 he1 z1 oq1 hS => ?_)
        have hP := hP.parr 0 j (by decide) (by decide) he1 oq1
        rw [mI_0] at hP
        refine lv_iinc (v := (nI (j + 1))) (lv' := [(1, .int (nI (j + 1))), (0, .ref a)]) hx hb dX6_init_194 hl (k := 0) rfl (nI_1 _) (by decide) rfl (fun ls hl => ?_)
        refine lv_goto (tgt := 180) hx hb dX6_init_197 (by decide) ?_
        exact ih180 (j + 1) (by omega) (by omega) _ _ _ hS hP (lv_sub hl [0, 1] rfl)
  exact L180 5 0 (by decide) (by decide) _ _ _ hS hP (lv_sub hl [0, 1] rfl)

