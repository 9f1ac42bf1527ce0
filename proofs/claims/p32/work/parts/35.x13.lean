/-- signs of titles are small -/
def BF (f : Nat → Int32) : Prop := ∀ j, ∃ c, c < 128 ∧ f j = nI c
theorem bf0 : BF (fun _ => 0) := fun _ => ⟨0, by decide, rfl⟩
theorem bf_u {f : Nat → Int32} {k c : Nat} (hc : c < 128) (h : BF f) : BF (upd f k (nI c)) := fun j => by
  unfold upd
  split
  · exact ⟨c, hc, rfl⟩
  · exact h j
theorem bf_l {f : Nat → Int32} {q i : Nat} (hq : q < 100) (h : BF f) : BF (gcLow q i f) := by
  unfold gcLow
  split
  · exact bf_u (by omega) h
  · exact bf_u (by omega) (bf_u (by omega) h)
theorem bf_g {f : Nat → Int32} {k i : Nat} (hk : k ≤ 1000) (h : BF f) : BF (gch k i f) := by
  unfold gch
  split
  · exact bf_l (by assumption) h
  · exact bf_l (by omega) (bf_u (by omega) (bf_u (by omega) h))
theorem tt_chr (h : Nat) (hh : h < 4) : ((65 + nI h).toUInt32 % 65536).toInt32 = nI (65 + h) := (by decide +kernel : ∀ h, h < 4 → ((65 + nI h).toUInt32 % 65536).toInt32 = nI (65 + h)) h hh
set_option maxHeartbeats 4000000 in
set_option maxRecDepth 100000 in
theorem kP_titleAt (l : Launch) (G : GE) (A1 A : Nat → Prop) (ad : Nat → Nat → Nat) (σ : SG) (qs : Nat → List Nat) (nT nW : Nat) (hl9 : l.stackTraces = false) (vw vp : Int32) (hnW : nW ≤ 12) (hW0 : WFw σ nW) (hWr : ∀ u, u < nW → ∃ b, b < 12 ∧ σ 19 u = nI b) (hFe : ∀ u, u < nW → ∃ fe, fe ≤ 1000 ∧ σ 21 u = nI fe) : KM l G A1 yX5_titleAt cX5_titleAt 5 (some .int) (rmL 6 4 60) [.ref (ad 0 0), .int vw, .int vp] (PX G A ad σ qs nT nW) (fun v _ => ∃ u h9 b fe, u < nW ∧ vw = nI u ∧ h9 < 4 ∧ σ 18 u = nI h9 ∧ b < 12 ∧ σ 19 u = nI b ∧ fe ≤ 1000 ∧ σ 21 u = nI fe ∧ 0 ≤ vp ∧ ∃ n F, ((σ 20 u = 0 ∧ n = 0 + 1 + dgn u + 1 + dgn b ∧ F = gch b (0 + 1 + dgn u + 1 + dgn b) (upd (gch u (0 + 1 + dgn u) (upd (fun _ => 0) 0 (nI (65 + h9)))) (0 + 1 + dgn u) (nI 64))) ∨ (¬ σ 20 u = 0 ∧ n = 0 + 1 + dgn u + 1 + dgn b + 1 + dgn fe ∧ F = gch fe (0 + 1 + dgn u + 1 + dgn b + 1 + dgn fe) (upd (gch b (0 + 1 + dgn u + 1 + dgn b) (upd (gch u (0 + 1 + dgn u) (upd (fun _ => 0) 0 (nI (65 + h9)))) (0 + 1 + dgn u) (nI 64))) (0 + 1 + dgn u + 1 + dgn b) (nI 36)))) ∧ ((∃ i, i < n ∧ vp = nI i ∧ v = some (.int (F i))) ∨ (nI n ≤ vp ∧ v = some (.int (-1))))) (fun E _ => (E = xIO ∧ ¬ (∃ j, j < nW ∧ vw = nI j)) ∨ (E = xIO ∧ ¬ 0 ≤ vp)) := by
  refine KM.of (by decide) (Nat.le_of_ble_eq_true rfl) ?_
  intro p e s m args below meth c F hP ls hl
  have hx := F.1.1
  have hb := F.1.2.1
  have hown := F.1.2.2.2.1
  have hts := F.1.2.2.2.2
  have hr := F.2.1
  have hlocks := F.2.2.1
  have hE := F.2.2.2.2.2.1
  have hA := F.2.2.2.2.2.2
  have hS : va_S A1 s.heap s.heap [] := va_S.rf
  have hl : lv_has ls 5 [(0, .ref (ad 0 0)), (1, .int vw), (2, .int vp)] := hl
  have hP := hP
  refine lv_aload_n hx hb dX5_titleAt_0 rfl (lv_at hl 0 rfl) ?_
  refine lv_iload_n hx hb dX5_titleAt_1 rfl (lv_at hl 1 rfl) ?_
  refine kcallV (n := 1) F (kX5_workAt l G (fun q => s.heap.size ≤ q) A ad σ qs nT nW hl9 vw hnW) wML_X5_189 wIM_X5_workAt wSE_X5_X5_workAt wIN_X5 wCO_X5_workAt (by decide) rfl ⟨by decide, by decide⟩ (frec F (hP.main rfl) _ rfl) hS (fun q h => hA q (Nat.le_trans hS.1 h)) (fun q h => h) hP rfl hl.1 (Nat.le_of_ble_eq_true rfl) dX5_titleAt_2 ⟨by decide, by decide⟩ (fun E ce q9 H1 locs1 hx9 hk9 hS hc9 hv9 hf9 => kout (G := G) F.2.2.2.2.1 hlocks hS (by decide) (by decide) hc9 hv9 hf9 (Or.inl (⟨hx9.1, hx9.2⟩))) (fun v H1 locs1 hv hk hS => ?_)
  have hP := hP.old hk
  obtain ⟨u, hu, rfl, rfl⟩ := hv
  refine lv_astore_n (lv' := [(3, .ref (ad 9 u)), (0, .ref (ad 0 0)), (1, .int (nI u)), (2, .int vp)]) hx hb dX5_titleAt_5 rfl hl (by decide) rfl (fun ls hl => ?_)
  refine lv_iload_n hx hb dX5_titleAt_6 rfl (lv_at hl 3 rfl) ?_
  refine kcallS (n := 1) F (kX5_checkPlace l G (fun q => H1.size ≤ q) hl9 vp) wML_X5_231 wST_X5_checkPlace wIN_X5 wCO_X5_checkPlace (by decide) rfl ⟨by decide, by decide⟩ hS (fun q h => hA q (Nat.le_trans hS.1 h)) (fun q h => h) trivial rfl hl.1 (Nat.le_of_ble_eq_true rfl) dX5_titleAt_7 ⟨by decide, by decide⟩ (fun E ce q9 H1 locs1 hx9 hk9 hS hc9 hv9 hf9 => kout (G := G) F.2.2.2.2.1 hlocks hS (by decide) (by decide) hc9 hv9 hf9 (Or.inr (⟨hx9.1, hx9.2⟩))) (fun v H1 locs1 hv hk hS => ?_)
  obtain ⟨rfl, hp⟩ := hv
  have hP := hP.old hk
  rename Heap => H0
  have hle0 : s.heap.size ≤ H0.size := hS.1
  refine xnew (ci := 0) (N := 4) hx hb hts inG_J4 tyJ4 tyJ4_ok hown wCL_X5_242 wIS_J4 wIN_J4 hE.1.1 hS (show mcl[0]? = some (RJ4, TJ4, 4) from rfl) (fs := [.null, .int 0, .int 0, .int 0]) (by decide) (Nat.le_of_ble_eq_true rfl) (Nat.le_of_ble_eq_true rfl) dX5_titleAt_10 (fun H1 he z1 oq1 hS => ?_)
  have hP0 := hP
  have hk0 : KF (fun z => H0.size ≤ z) H0 H1 := ⟨by omega, fun q hq _ => oq1 q hq⟩
  have hP := hP0.old hk0
  obtain ⟨aS, eS⟩ : ∃ a, a = H0.size := ⟨_, rfl⟩
  rw [← eS] at he ⊢
  have hAS : H0.size ≤ aS := by omega
  refine lv_dup hx hb dX5_titleAt_13 rfl ?_
  refine kcallI (n := 0) F (cB_init l G (fun z => H0.size ≤ z) aS H1.size hAS) wML_X5_244 wIM_J4_init_da8c8 wIN_J4 wCO_J4_init_da8c8 rfl (by decide) rfl ⟨by decide, by decide⟩ hS (fun q h => hA q (Nat.le_trans hle0 h)) (fun q h => Nat.le_trans hk0.1 h) ⟨rfl, he⟩ rfl hl.1 (Nat.le_of_ble_eq_true rfl) dX5_titleAt_14 ⟨by decide, by decide⟩ (fun E ce q9 H1 locs1 hx9 _ _ _ _ _ => hx9.elim) (fun v H1 locs1 hv hk hS => ?_)
  obtain ⟨rfl, aV, hsz, hO, hV⟩ := hv
  have hAV : H0.size ≤ aV := by omega
  have hne : aS ≠ aV := by omega
  have hk0 := hk0.new hk (fun q h => h)
  have hP := hP0.old hk0
  obtain ⟨h9, hh9, eh9⟩ := hW0 u hu
  obtain ⟨b, hb9, eb⟩ := hWr u hu
  obtain ⟨fe, hfe, efe⟩ := hFe u hu
  have hdu := dgn_le u
  have hdb := dgn_le b
  have hdf := dgn_le fe
  refine lv_astore (lv' := [(4, .ref aS), (3, .ref (ad 9 u)), (0, .ref (ad 0 0)), (1, .int (nI u)), (2, .int vp)]) hx hb dX5_titleAt_17 hl (by decide) rfl (fun ls hl => ?_)
  refine lv_aload hx hb dX5_titleAt_19 (lv_at hl 0 rfl) ?_
  refine lv_bipush (v := 65) hx hb dX5_titleAt_21 (by decide) ?_
  refine lv_aload_n hx hb dX5_titleAt_23 rfl (lv_at hl 1 rfl) ?_
  refine gX4 F (hP.work hu) 1 (by decide) wFL_X5_199 (fun _ h9 => h9) (v := .int (σ 18 u)) rfl dX5_titleAt_24 ?_
  refine lv_iadd hx hb dX5_titleAt_27 ?_
  refine lv_i2c hx hb dX5_titleAt_28 rfl ?_
  refine W.eq (g2 := F0 m 29 ls [.int (nI (65 + h9)), .ref aS]) (congrArg (fun z => F0 m 29 ls [.int z, .ref aS]) (by rw [eh9]; exact tt_chr h9 hh9)) ?_
  refine kcallV (n := 1) F (cB_app l G (fun z => H0.size ≤ z) aS aV 0 hAS hAV hne (fun _ => 0) (65 + h9) (by omega) (by omega)) wML_X5_245 wIM_J4_append_cf468 wSE_J4_J4_append_cf468 wIN_J4 wCO_J4_append_cf468 (by decide) rfl ⟨by decide, by decide⟩ (frec F hO _ rfl) hS (fun q h => hA q (Nat.le_trans hle0 h)) (fun q h => Nat.le_trans hk0.1 h) ⟨hO, hV⟩ rfl hl.1 (Nat.le_of_ble_eq_true rfl) dX5_titleAt_29 ⟨by decide, by decide⟩ (fun E ce q9 H1 locs1 hx9 _ _ _ _ _ => hx9.elim) (fun v H1 locs1 hv hk hS => ?_)
  obtain ⟨rfl, hO, hV⟩ := hv
  have hk0 := hk0.new hk (fun q h => h)
  have hP := hP0.old hk0
  refine lv_aload_n hx hb dX5_titleAt_32 rfl (lv_at hl 1 rfl) ?_
  refine gX4 F (hP.work hu) 0 (by decide) wFL_X5_188 (fun _ h9 => h9) (v := .int (nI u)) rfl dX5_titleAt_33 ?_
  refine kcallV (n := 1) F (cB_appI l G (fun z => H0.size ≤ z) aS aV (0 + 1) hAS hAV hne (upd (fun _ => 0) 0 (nI (65 + h9))) u (by omega) (by omega)) wML_X5_249 wIM_J4_append_bf812 wSE_J4_J4_append_bf812 wIN_J4 wCO_J4_append_bf812 (by decide) rfl ⟨by decide, by decide⟩ (frec F hO _ rfl) hS (fun q h => hA q (Nat.le_trans hle0 h)) (fun q h => Nat.le_trans hk0.1 h) ⟨hO, hV⟩ rfl hl.1 (Nat.le_of_ble_eq_true rfl) dX5_titleAt_36 ⟨by decide, by decide⟩ (fun E ce q9 H1 locs1 hx9 _ _ _ _ _ => hx9.elim) (fun v H1 locs1 hv hk hS => ?_)
  obtain ⟨rfl, hO, hV⟩ := hv
  have hk0 := hk0.new hk (fun q h => h)
  have hP := hP0.old hk0
  refine lv_bipush (v := 64) hx hb dX5_titleAt_39 (by decide) ?_
  refine W.eq (g2 := F0 m 41 ls [.int (nI 64), .ref aS]) (congrArg (fun z => F0 m 41 ls [.int z, .ref aS]) (by decide)) ?_
  refine kcallV (n := 1) F (cB_app l G (fun z => H0.size ≤ z) aS aV (0 + 1 + dgn u) hAS hAV hne (gch u (0 + 1 + dgn u) (upd (fun _ => 0) 0 (nI (65 + h9)))) 64 (by omega) (by omega)) wML_X5_245 wIM_J4_append_cf468 wSE_J4_J4_append_cf468 wIN_J4 wCO_J4_append_cf468 (by decide) rfl ⟨by decide, by decide⟩ (frec F hO _ rfl) hS (fun q h => hA q (Nat.le_trans hle0 h)) (fun q h => Nat.le_trans hk0.1 h) ⟨hO, hV⟩ rfl hl.1 (Nat.le_of_ble_eq_true rfl) dX5_titleAt_41 ⟨by decide, by decide⟩ (fun E ce q9 H1 locs1 hx9 _ _ _ _ _ => hx9.elim) (fun v H1 locs1 hv hk hS => ?_)
  obtain ⟨rfl, hO, hV⟩ := hv
  have hk0 := hk0.new hk (fun q h => h)
  have hP := hP0.old hk0
  refine lv_aload_n hx hb dX5_titleAt_44 rfl (lv_at hl 1 rfl) ?_
  refine gX4 F (hP.work hu) 2 (by decide) wFL_X5_193 (fun _ h9 => h9) (v := .int (σ 19 u)) rfl dX5_titleAt_45 ?_
  refine W.eq (g2 := F0 m 48 ls [.int (nI b), .ref aS]) (congrArg (fun z => F0 m 48 ls [.int z, .ref aS]) (eb)) ?_
  refine kcallV (n := 1) F (cB_appI l G (fun z => H0.size ≤ z) aS aV (0 + 1 + dgn u + 1) hAS hAV hne (upd (gch u (0 + 1 + dgn u) (upd (fun _ => 0) 0 (nI (65 + h9)))) (0 + 1 + dgn u) (nI 64)) b (by omega) (by omega)) wML_X5_249 wIM_J4_append_bf812 wSE_J4_J4_append_bf812 wIN_J4 wCO_J4_append_bf812 (by decide) rfl ⟨by decide, by decide⟩ (frec F hO _ rfl) hS (fun q h => hA q (Nat.le_trans hle0 h)) (fun q h => Nat.le_trans hk0.1 h) ⟨hO, hV⟩ rfl hl.1 (Nat.le_of_ble_eq_true rfl) dX5_titleAt_48 ⟨by decide, by decide⟩ (fun E ce q9 H1 locs1 hx9 _ _ _ _ _ => hx9.elim) (fun v H1 locs1 hv hk hS => ?_)
  obtain ⟨rfl, hO, hV⟩ := hv
  have hk0 := hk0.new hk (fun q h => h)
  have hP := hP0.old hk0
  refine lv_pop hx hb dX5_titleAt_51 rfl ?_
  refine lv_aload_n hx hb dX5_titleAt_52 rfl (lv_at hl 1 rfl) ?_
  refine gX4 F (hP.work hu) 3 (by decide) wFL_X5_196 (fun _ h9 => h9) (v := .int (σ 20 u)) rfl dX5_titleAt_53 ?_
  refine lv_if_eq (tgt := 74) hx hb dX5_titleAt_56 (by decide) (fun c_56_1 => ?_) (fun c_56_1 => ?_)
  · refine lv_iload_n hx hb dX5_titleAt_74 rfl (lv_at hl 4 rfl) ?_
    refine lv_aload hx hb dX5_titleAt_75 (lv_at hl 0 rfl) ?_
    refine kcallV (n := 0) F (cB_length l G (fun q => H1.size ≤ q) aS aV (0 + 1 + dgn u + 1 + dgn b)) wML_X5_252 wIM_J4_length_8abf5 wSE_J4_J4_length_8abf5 wIN_J4 wCO_J4_length_8abf5 (by decide) rfl ⟨by decide, by decide⟩ (frec F hO _ rfl) hS (fun q h => hA q (Nat.le_trans hS.1 h)) (fun q h => h) hO rfl hl.1 (Nat.le_of_ble_eq_true rfl) dX5_titleAt_77 ⟨by decide, by decide⟩ (fun E ce q9 H1 locs1 hx9 _ _ _ _ _ => hx9.elim) (fun v H1 locs1 hv hk hS => ?_)
    subst hv
    have hO := atO hO hk
    have hV := atO hV hk
    refine lv_icmp_ge (tgt := 92) hx hb dX5_titleAt_80 (by decide) (fun c_80_2 => ?_) (fun c_80_2 => ?_)
    · refine lv_iconst (v := (-1)) hx hb dX5_titleAt_92 (by decide) ?_
      exact kiret hx hb hr hlocks hS (by decide) (by decide) dX5_titleAt_93 (⟨u, h9, b, fe, hu, rfl, hh9, eh9, hb9, eb, hfe, efe, hp, _, _, Or.inl ⟨c_56_1, rfl, rfl⟩, Or.inr ⟨c_80_2, rfl⟩⟩)
    · obtain ⟨i, hi, rfl⟩ := ix_of (n := 0 + 1 + dgn u + 1 + dgn b) (by omega) (Int32.not_lt.mpr hp) (Int32.not_le.mp c_80_2)
      obtain ⟨ch, hch, hfc⟩ := (show BF (gch b (0 + 1 + dgn u + 1 + dgn b) (upd (gch u (0 + 1 + dgn u) (upd (fun _ => 0) 0 (nI (65 + h9)))) (0 + 1 + dgn u) (nI 64))) from (bf_g (by omega) (bf_u (by omega) (bf_g (by omega) (bf_u (by omega) bf0))))) i
      refine lv_aload hx hb dX5_titleAt_83 (lv_at hl 0 rfl) ?_
      refine lv_iload_n hx hb dX5_titleAt_85 rfl (lv_at hl 4 rfl) ?_
      refine kcallV (n := 1) F (cB_charAt l G (fun q => H1.size ≤ q) aS aV (0 + 1 + dgn u + 1 + dgn b) (gch b (0 + 1 + dgn u + 1 + dgn b) (upd (gch u (0 + 1 + dgn u) (upd (fun _ => 0) 0 (nI (65 + h9)))) (0 + 1 + dgn u) (nI 64))) i ch hi (by omega) hfc hch) wML_X5_255 wIM_J4_charAt_5068e wSE_J4_J4_charAt_5068e wIN_J4 wCO_J4_charAt_5068e (by decide) rfl ⟨by decide, by decide⟩ (frec F hO _ rfl) hS (fun q h => hA q (Nat.le_trans hS.1 h)) (fun q h => h) ⟨hO, hV⟩ rfl hl.1 (Nat.le_of_ble_eq_true rfl) dX5_titleAt_86 ⟨by decide, by decide⟩ (fun E ce q9 H1 locs1 hx9 _ _ _ _ _ => hx9.elim) (fun v H1 locs1 hv hk hS => ?_)
      subst hv
      refine lv_goto (tgt := 93) hx hb dX5_titleAt_89 (by decide) ?_
      exact kiret hx hb hr hlocks hS (by decide) (by decide) dX5_titleAt_93 (⟨u, h9, b, fe, hu, rfl, hh9, eh9, hb9, eb, hfe, efe, hp, _, _, Or.inl ⟨c_56_1, rfl, rfl⟩, Or.inl ⟨i, hi, rfl, by rw [hfc]⟩⟩)
  · refine lv_aload hx hb dX5_titleAt_59 (lv_at hl 0 rfl) ?_
    refine lv_bipush (v := 36) hx hb dX5_titleAt_61 (by decide) ?_
    refine W.eq (g2 := F0 m 63 ls [.int (nI 36), .ref aS]) (congrArg (fun z => F0 m 63 ls [.int z, .ref aS]) (by decide)) ?_
    refine kcallV (n := 1) F (cB_app l G (fun z => H0.size ≤ z) aS aV (0 + 1 + dgn u + 1 + dgn b) hAS hAV hne (gch b (0 + 1 + dgn u + 1 + dgn b) (upd (gch u (0 + 1 + dgn u) (upd (fun _ => 0) 0 (nI (65 + h9)))) (0 + 1 + dgn u) (nI 64))) 36 (by omega) (by omega)) wML_X5_245 wIM_J4_append_cf468 wSE_J4_J4_append_cf468 wIN_J4 wCO_J4_append_cf468 (by decide) rfl ⟨by decide, by decide⟩ (frec F hO _ rfl) hS (fun q h => hA q (Nat.le_trans hle0 h)) (fun q h => Nat.le_trans hk0.1 h) ⟨hO, hV⟩ rfl hl.1 (Nat.le_of_ble_eq_true rfl) dX5_titleAt_63 ⟨by decide, by decide⟩ (fun E ce q9 H1 locs1 hx9 _ _ _ _ _ => hx9.elim) (fun v H1 locs1 hv hk hS => ?_)
    obtain ⟨rfl, hO, hV⟩ := hv
    have hk0 := hk0.new hk (fun q h => h)
    have hP := hP0.old hk0
    refine lv_aload_n hx hb dX5_titleAt_66 rfl (lv_at hl 1 rfl) ?_
    refine gX4 F (hP.work hu) 4 (by decide) wFL_X5_202 (fun _ h9 => h9) (v := .int (σ 21 u)) rfl dX5_titleAt_67 ?_
    refine W.eq (g2 := F0 m 70 ls [.int (nI fe), .ref aS]) (congrArg (fun z => F0 m 70 ls [.int z, .ref aS]) (efe)) ?_
    refine kcallV (n := 1) F (cB_appI l G (fun z => H0.size ≤ z) aS aV (0 + 1 + dgn u + 1 + dgn b + 1) hAS hAV hne (upd (gch b (0 + 1 + dgn u + 1 + dgn b) (upd (gch u (0 + 1 + dgn u) (upd (fun _ => 0) 0 (nI (65 + h9)))) (0 + 1 + dgn u) (nI 64))) (0 + 1 + dgn u + 1 + dgn b) (nI 36)) fe (by omega) (by omega)) wML_X5_249 wIM_J4_append_bf812 wSE_J4_J4_append_bf812 wIN_J4 wCO_J4_append_bf812 (by decide) rfl ⟨by decide, by decide⟩ (frec F hO _ rfl) hS (fun q h => hA q (Nat.le_trans hle0 h)) (fun q h => Nat.le_trans hk0.1 h) ⟨hO, hV⟩ rfl hl.1 (Nat.le_of_ble_eq_true rfl) dX5_titleAt_70 ⟨by decide, by decide⟩ (fun E ce q9 H1 locs1 hx9 _ _ _ _ _ => hx9.elim) (fun v H1 locs1 hv hk hS => ?_)
    obtain ⟨rfl, hO, hV⟩ := hv
    have hk0 := hk0.new hk (fun q h => h)
    have hP := hP0.old hk0
    refine lv_pop hx hb dX5_titleAt_73 rfl ?_
    refine lv_iload_n hx hb dX5_titleAt_74 rfl (lv_at hl 4 rfl) ?_
    refine lv_aload hx hb dX5_titleAt_75 (lv_at hl 0 rfl) ?_
    refine kcallV (n := 0) F (cB_length l G (fun q => H1.size ≤ q) aS aV (0 + 1 + dgn u + 1 + dgn b + 1 + dgn fe)) wML_X5_252 wIM_J4_length_8abf5 wSE_J4_J4_length_8abf5 wIN_J4 wCO_J4_length_8abf5 (by decide) rfl ⟨by decide, by decide⟩ (frec F hO _ rfl) hS (fun q h => hA q (Nat.le_trans hS.1 h)) (fun q h => h) hO rfl hl.1 (Nat.le_of_ble_eq_true rfl) dX5_titleAt_77 ⟨by decide, by decide⟩ (fun E ce q9 H1 locs1 hx9 _ _ _ _ _ => hx9.elim) (fun v H1 locs1 hv hk hS => ?_)
    subst hv
    have hO := atO hO hk
    have hV := atO hV hk
    refine lv_icmp_ge (tgt := 92) hx hb dX5_titleAt_80 (by decide) (fun c_80_3 => ?_) (fun c_80_3 => ?_)
    · refine lv_iconst (v := (-1)) hx hb dX5_titleAt_92 (by decide) ?_
      exact kiret hx hb hr hlocks hS (by decide) (by decide) dX5_titleAt_93 (⟨u, h9, b, fe, hu, rfl, hh9, eh9, hb9, eb, hfe, efe, hp, _, _, Or.inr ⟨c_56_1, rfl, rfl⟩, Or.inr ⟨c_80_3, rfl⟩⟩)
    · obtain ⟨i, hi, rfl⟩ := ix_of (n := 0 + 1 + dgn u + 1 + dgn b + 1 + dgn fe) (by omega) (Int32.not_lt.mpr hp) (Int32.not_le.mp c_80_3)
      obtain ⟨ch, hch, hfc⟩ := (show BF (gch fe (0 + 1 + dgn u + 1 + dgn b + 1 + dgn fe) (upd (gch b (0 + 1 + dgn u + 1 + dgn b) (upd (gch u (0 + 1 + dgn u) (upd (fun _ => 0) 0 (nI (65 + h9)))) (0 + 1 + dgn u) (nI 64))) (0 + 1 + dgn u + 1 + dgn b) (nI 36))) from (bf_g (by omega) (bf_u (by omega) (bf_g (by omega) (bf_u (by omega) (bf_g (by omega) (bf_u (by omega) bf0))))))) i
      refine lv_aload hx hb dX5_titleAt_83 (lv_at hl 0 rfl) ?_
      refine lv_iload_n hx hb dX5_titleAt_85 rfl (lv_at hl 4 rfl) ?_
      refine kcallV (n := 1) F (cB_charAt l G (fun q => H1.size ≤ q) aS aV (0 + 1 + dgn u + 1 + dgn b + 1 + dgn fe) (gch fe (0 + 1 + dgn u + 1 + dgn b + 1 + dgn fe) (upd (gch b (0 + 1 + dgn u + 1 + dgn b) (upd (gch u (0 + 1 + dgn u) (upd (fun _ => 0) 0 (nI (65 + h9)))) (0 + 1 + dgn u) (nI 64))) (0 + 1 + dgn u + 1 + dgn b) (nI 36))) i ch hi (by omega) hfc hch) wML_X5_255 wIM_J4_charAt_5068e wSE_J4_J4_charAt_5068e wIN_J4 wCO_J4_charAt_5068e (by decide) rfl ⟨by decide, by decide⟩ (frec F hO _ rfl) hS (fun q h => hA q (Nat.le_trans hS.1 h)) (fun q h => h) ⟨hO, hV⟩ rfl hl.1 (Nat.le_of_ble_eq_true rfl) dX5_titleAt_86 ⟨by decide, by decide⟩ (fun E ce q9 H1 locs1 hx9 _ _ _ _ _ => hx9.elim) (fun v H1 locs1 hv hk hS => ?_)
      subst hv
      refine lv_goto (tgt := 93) hx hb dX5_titleAt_89 (by decide) ?_
      exact kiret hx hb hr hlocks hS (by decide) (by decide) dX5_titleAt_93 (⟨u, h9, b, fe, hu, rfl, hh9, eh9, hb9, eb, hfe, efe, hp, _, _, Or.inr ⟨c_56_1, rfl, rfl⟩, Or.inl ⟨i, hi, rfl, by rw [hfc]⟩⟩)

