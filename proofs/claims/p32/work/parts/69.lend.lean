set_option maxHeartbeats 4000000 in
set_option maxRecDepth 100000 in
theorem kQ_lend (l : Launch) (G : GE) (A : Nat → Prop) (ad : Nat → Nat → Nat) (σ : SG) (qs : Nat → List Nat) (nT nW : Nat) (hl9 : l.stackTraces = false) (vw vr vv : Int32) (hnW : nW ≤ 12) : KM l G A yX5_lend cX5_lend 6 (some .int) (rmL 6 4 24) [.ref (ad 0 0), .int vw, .int vr, .int vv] (PX G A ad σ qs nT nW) (fun v H => ∃ u r, u < nW ∧ vw = nI u ∧ r < 12 ∧ vr = nI r ∧ (¬ vv < 0 ∧ vv ≤ 1000) ∧ (σ 20 u = 0 ∧ ¬ nI (r / 3) = σ 18 u) ∧ v = some (.int (nI (r / 3))) ∧ PX G A ad (up (up (up (up σ 20 u 1) 21 u vv) 22 u 0) 19 u (nI r)) qs nT nW H) (fun E H => PX G A ad σ qs nT nW H ∧ ((E = xIO ∧ ¬ (∃ j, j < nW ∧ vw = nI j)) ∨ (E = xIO ∧ ¬ (∃ j, j < 12 ∧ vr = nI j)) ∨ (E = xIA ∧ (∃ u r, u < nW ∧ vw = nI u ∧ r < 12 ∧ vr = nI r) ∧ (vv < 0 ∨ ¬ vv ≤ 1000)) ∨ (E = xIS ∧ ∃ u r, u < nW ∧ vw = nI u ∧ r < 12 ∧ vr = nI r ∧ (¬ vv < 0 ∧ vv ≤ 1000) ∧ ¬ (σ 20 u = 0 ∧ ¬ nI (r / 3) = σ 18 u)))) := by
  refine KM.of (by decide) (Nat.le_of_ble_eq_true rfl) ?_
  intro p e s m args below meth c F hP ls hl
  have hx := F.1.1
  have hb := F.1.2.1
  have hown := F.1.2.2.2.1
  have hts := F.1.2.2.2.2
  have hr := F.2.1
  have hlocks := F.2.2.1
  have hE := F.2.2.2.2.2.1
  have hA := F.2.2.2.2.2.2
  have hS : va_S A s.heap s.heap [] := va_S.rf
  have hl : lv_has ls 6 [(0, .ref (ad 0 0)), (1, .int vw), (2, .int vr), (3, .int vv)] := hl
  have hP := hP
  refine lv_aload_n hx hb dX5_lend_0 rfl (lv_at hl 0 rfl) ?_
  refine lv_iload_n hx hb dX5_lend_1 rfl (lv_at hl 1 rfl) ?_
  refine kcallV (n := 1) F (kX5_workAt l G (fun q => s.heap.size ≤ q) A ad σ qs nT nW hl9 vw hnW) wML_X5_189 wIM_X5_workAt wSE_X5_X5_workAt wIN_X5 wCO_X5_workAt (by decide) rfl ⟨by decide, by decide⟩ (frec F (hP.main rfl) _ rfl) hS (fun q h => hA q (Nat.le_trans hS.1 h)) (fun q h => h) hP rfl hl.1 (Nat.le_of_ble_eq_true rfl) dX5_lend_2 ⟨by decide, by decide⟩ (fun E ce q9 H1 locs1 hx9 hk9 hS hc9 hv9 hf9 => kout (G := G) F.2.2.2.2.1 hlocks hS (by decide) (by decide) hc9 hv9 hf9 (⟨hP.old hk9, Or.inl (⟨hx9.1, hx9.2⟩)⟩)) (fun v H1 locs1 hv hk hS => ?_)
  have hP := hP.old hk
  obtain ⟨u, hu, rfl, rfl⟩ := hv
  refine lv_astore (lv' := [(4, .ref (ad 9 u)), (0, .ref (ad 0 0)), (1, .int (nI u)), (2, .int vr), (3, .int vv)]) hx hb dX5_lend_5 hl (by decide) rfl (fun ls hl => ?_)
  refine lv_aload_n hx hb dX5_lend_7 rfl (lv_at hl 1 rfl) ?_
  refine lv_iload_n hx hb dX5_lend_8 rfl (lv_at hl 3 rfl) ?_
  refine kcallV (n := 1) F (kX5_roomAt l G (fun q => H1.size ≤ q) A ad σ qs nT nW hl9 vr) wML_X5_127 wIM_X5_roomAt wSE_X5_X5_roomAt wIN_X5 wCO_X5_roomAt (by decide) rfl ⟨by decide, by decide⟩ (frec F (hP.main rfl) _ rfl) hS (fun q h => hA q (Nat.le_trans hS.1 h)) (fun q h => h) hP rfl hl.1 (Nat.le_of_ble_eq_true rfl) dX5_lend_9 ⟨by decide, by decide⟩ (fun E ce q9 H1 locs1 hx9 hk9 hS hc9 hv9 hf9 => kout (G := G) F.2.2.2.2.1 hlocks hS (by decide) (by decide) hc9 hv9 hf9 (⟨hP.old hk9, Or.inr (Or.inl (⟨hx9.1, hx9.2⟩))⟩)) (fun v H1 locs1 hv hk hS => ?_)
  have hP := hP.old hk
  obtain ⟨r, hr9, rfl, rfl⟩ := hv
  refine lv_astore (lv' := [(5, .ref (ad 5 r)), (4, .ref (ad 9 u)), (0, .ref (ad 0 0)), (1, .int (nI u)), (2, .int (nI r)), (3, .int vv)]) hx hb dX5_lend_12 hl (by decide) rfl (fun ls hl => ?_)
  refine lv_iload_n hx hb dX5_lend_14 rfl (lv_at hl 5 rfl) ?_
  refine lv_iconst (v := 0) hx hb dX5_lend_15 (by decide) ?_
  refine lv_sipush (v := 1000) hx hb dX5_lend_16 (by decide) ?_
  refine kcallS (n := 3) F (kX5_checkRange l G (fun q => H1.size ≤ q) hl9 vv 0 1000) wML_X5_46 wST_X5_checkRange wIN_X5 wCO_X5_checkRange (by decide) rfl ⟨by decide, by decide⟩ hS (fun q h => hA q (Nat.le_trans hS.1 h)) (fun q h => h) trivial rfl hl.1 (Nat.le_of_ble_eq_true rfl) dX5_lend_19 ⟨by decide, by decide⟩ (fun E ce q9 H1 locs1 hx9 hk9 hS hc9 hv9 hf9 => kout (G := G) F.2.2.2.2.1 hlocks hS (by decide) (by decide) hc9 hv9 hf9 (⟨hP.old hk9, Or.inr (Or.inr (Or.inl (⟨hx9.1, ⟨⟨u, r, hu, rfl, hr9, rfl⟩, hx9.2⟩⟩)))⟩)) (fun v H1 locs1 hv hk hS => ?_)
  obtain ⟨rfl, h1, h2⟩ := hv
  have hP := hP.old hk
  refine lv_aload hx hb dX5_lend_22 (lv_at hl 1 rfl) ?_
  refine gX4 F (hP.work hu) 3 (by decide) wFL_X5_196 (fun _ h9 => h9) (v := .int (σ 20 u)) rfl dX5_lend_24 ?_
  refine lv_if_ne (tgt := 43) hx hb dX5_lend_27 (by decide) (fun c_27_1 => ?_) (fun c_27_1 => ?_)
  · exact kthrow F hl9 hS hl.1 (cls := xIS) (text := "lent, or its own house") (ik := 72) (is := 200) (ic := 76) (by decide +kernel) wCL_X5_72 wIN_java_lang_IllegalStateException tx_200 (by simp [nwCast]) is_good is_bad is_ot dX5_lend_43 dX5_lend_46 dX5_lend_47 dX5_lend_49 dX5_lend_52 (by decide) (Nat.le_of_ble_eq_true rfl) (by decide) (by decide) (by decide) (by decide) (fun H1 hz hq => ⟨hP.old ⟨hz, fun q h _ => hq q h⟩, Or.inr (Or.inr (Or.inr (⟨rfl, u, r, hu, rfl, hr9, rfl, ⟨h1, h2⟩, fun z => c_27_1 z.1⟩)))⟩)
  · refine lv_aload hx hb dX5_lend_30 (lv_at hl 0 rfl) ?_
    refine gX1 F (hP.room hr9) 1 (by decide) wFL_X5_148 (fun _ h9 => h9) (v := .int (nI (r / 3))) rfl dX5_lend_32 ?_
    refine lv_aload hx hb dX5_lend_35 (lv_at hl 1 rfl) ?_
    refine gX4 F (hP.work hu) 1 (by decide) wFL_X5_199 (fun _ h9 => h9) (v := .int (σ 18 u)) rfl dX5_lend_37 ?_
    refine lv_icmp_ne (tgt := 53) hx hb dX5_lend_40 (by decide) (fun c_40_2 => ?_) (fun c_40_2 => ?_)
    · refine lv_aload hx hb dX5_lend_53 (lv_at hl 1 rfl) ?_
      refine lv_iconst (v := 1) hx hb dX5_lend_55 (by decide) ?_
      refine pX4 F hS (hP.work hu) (hP.owork hu) 3 (by decide) wFL_X5_196 (fun _ h9 => h9) rfl rfl rfl (by simp) dX5_lend_56 (fun H1 locs1 he1 z1 oq1 hS => ?_)
      have hP := hP.p20 hu he1 oq1
      refine lv_aload hx hb dX5_lend_59 (lv_at hl 1 rfl) ?_
      refine lv_iload_n hx hb dX5_lend_61 rfl (lv_at hl 5 rfl) ?_
      refine pX4 F hS (hP.work hu) (hP.owork hu) 4 (by decide) wFL_X5_202 (fun _ h9 => h9) rfl rfl rfl (by simp) dX5_lend_62 (fun H1 locs1 he1 z1 oq1 hS => ?_)
      have hP := hP.p21 hu he1 oq1
      refine lv_aload hx hb dX5_lend_65 (lv_at hl 1 rfl) ?_
      refine lv_iconst (v := 0) hx hb dX5_lend_67 (by decide) ?_
      refine pX4 F hS (hP.work hu) (hP.owork hu) 5 (by decide) wFL_X5_205 (fun _ h9 => h9) rfl rfl rfl (by simp) dX5_lend_68 (fun H1 locs1 he1 z1 oq1 hS => ?_)
      have hP := hP.p22 hu he1 oq1
      refine lv_aload hx hb dX5_lend_71 (lv_at hl 1 rfl) ?_
      refine lv_aload hx hb dX5_lend_73 (lv_at hl 0 rfl) ?_
      refine gX1 F (hP.room hr9) 0 (by decide) wFL_X5_170 (fun _ h9 => h9) (v := .int (nI r)) rfl dX5_lend_75 ?_
      refine pX4 F hS (hP.work hu) (hP.owork hu) 2 (by decide) wFL_X5_193 (fun _ h9 => h9) rfl rfl rfl (by simp) dX5_lend_78 (fun H1 locs1 he1 z1 oq1 hS => ?_)
      have hP := hP.p19 hu he1 oq1
      refine lv_aload hx hb dX5_lend_81 (lv_at hl 0 rfl) ?_
      refine gX1 F (hP.room hr9) 1 (by decide) wFL_X5_148 (fun _ h9 => h9) (v := .int (nI (r / 3))) rfl dX5_lend_83 ?_
      exact kiret hx hb hr hlocks hS (by decide) (by decide) dX5_lend_86 (⟨u, r, hu, rfl, hr9, rfl, ⟨h1, h2⟩, ⟨c_27_1, c_40_2⟩, rfl, hP⟩)
    · exact kthrow F hl9 hS hl.1 (cls := xIS) (text := "lent, or its own house") (ik := 72) (is := 200) (ic := 76) (by decide +kernel) wCL_X5_72 wIN_java_lang_IllegalStateException tx_200 (by simp [nwCast]) is_good is_bad is_ot dX5_lend_43 dX5_lend_46 dX5_lend_47 dX5_lend_49 dX5_lend_52 (by decide) (Nat.le_of_ble_eq_true rfl) (by decide) (by decide) (by decide) (by decide) (fun H1 hz hq => ⟨hP.old ⟨hz, fun q h _ => hq q h⟩, Or.inr (Or.inr (Or.inr (⟨rfl, u, r, hu, rfl, hr9, rfl, ⟨h1, h2⟩, fun z => z.2 c_40_2⟩)))⟩)

