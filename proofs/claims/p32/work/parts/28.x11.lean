set_option maxHeartbeats 4000000 in
set_option maxRecDepth 100000 in
theorem kP_giveBack (l : Launch) (G : GE) (A : Nat → Prop) (ad : Nat → Nat → Nat) (σ : SG) (qs : Nat → List Nat) (nT nW : Nat) (hl9 : l.stackTraces = false) (vt : Int32) (hnT : nT ≤ 80) : KM l G A yX5_giveBack cX5_giveBack 3 (some .int) (rmL 6 3 18) [.ref (ad 0 0), .int vt] (PX G A ad σ qs nT nW) (fun v H => ∃ t, t < nT ∧ vt = nI t ∧ (¬ nI t < σ 26 0 ∧ σ 14 t = 0) ∧ (σ 15 t = 0 ∧ σ 17 t = 0 ∧ fClosed σ t = true) ∧ v = some (.int (σ 13 t)) ∧ PX G A ad (up (up σ 14 t 1) 27 0 (σ 27 0 - σ 13 t)) qs nT nW H) (fun E H => PX G A ad σ qs nT nW H ∧ ((E = xIO ∧ ¬ (∃ j, j < nT ∧ vt = nI j)) ∨ (E = xIS ∧ ∃ t, t < nT ∧ vt = nI t ∧ (nI t < σ 26 0 ∨ ¬ σ 14 t = 0)) ∨ (E = xIS ∧ ∃ t, t < nT ∧ vt = nI t ∧ ¬ (σ 15 t = 0 ∧ σ 17 t = 0 ∧ fClosed σ t = true)))) := by
  refine KM.of (by decide) (Nat.le_of_ble_eq_true rfl) ?_
  intro p e s m args below meth c F hP ls hl
  have hx := F.1.1
  have hb := F.1.2.1
  have hown := F.1.2.2.2.1
  have hts := F.1.2.2.2.2
  have hr := F.2.1
  have hlocks := F.2.2.1
  have hE := F.2.2.2.2.2.1
  have hA := F.2.2.2.2.2.2
  have hS : va_S A s.heap s.heap [] := va_S.rf
  have hl : lv_has ls 3 [(0, .ref (ad 0 0)), (1, .int vt)] := hl
  have hP := hP
  refine lv_aload_n hx hb dX5_giveBack_0 rfl (lv_at hl 0 rfl) ?_
  refine lv_iload_n hx hb dX5_giveBack_1 rfl (lv_at hl 1 rfl) ?_
  refine kcallV (n := 1) F (kX5_ticketAt l G (fun q => s.heap.size ≤ q) A ad σ qs nT nW hl9 vt hnT) wML_X5_87 wIM_X5_ticketAt wSE_X5_X5_ticketAt wIN_X5 wCO_X5_ticketAt (by decide) rfl ⟨by decide, by decide⟩ (frec F (hP.main rfl) _ rfl) hS (fun q h => hA q (Nat.le_trans hS.1 h)) (fun q h => h) hP rfl hl.1 (Nat.le_of_ble_eq_true rfl) dX5_giveBack_2 ⟨by decide, by decide⟩ (fun E ce q9 H1 locs1 hx9 hk9 hS hc9 hv9 hf9 => kout (G := G) F.2.2.2.2.1 hlocks hS (by decide) (by decide) hc9 hv9 hf9 (⟨hP.old hk9, Or.inl (⟨hx9.1, hx9.2⟩)⟩)) (fun v H1 locs1 hv hk hS => ?_)
  have hP := hP.old hk
  obtain ⟨t, ht, rfl, rfl⟩ := hv
  refine lv_astore_n (lv' := [(2, .ref (ad 10 t)), (0, .ref (ad 0 0)), (1, .int (nI t))]) hx hb dX5_giveBack_5 rfl hl (by decide) rfl (fun ls hl => ?_)
  refine lv_aload_n hx hb dX5_giveBack_6 rfl (lv_at hl 1 rfl) ?_
  refine lv_aload_n hx hb dX5_giveBack_7 rfl (lv_at hl 0 rfl) ?_
  refine kcallV (n := 1) F (kX5_checkUsable l G (fun q => H1.size ≤ q) A ad σ qs nT nW hl9 t ht) wML_X5_91 wIM_X5_checkUsable wSE_X5_X5_checkUsable wIN_X5 wCO_X5_checkUsable (by decide) rfl ⟨by decide, by decide⟩ (frec F (hP.main rfl) _ rfl) hS (fun q h => hA q (Nat.le_trans hS.1 h)) (fun q h => h) hP rfl hl.1 (Nat.le_of_ble_eq_true rfl) dX5_giveBack_8 ⟨by decide, by decide⟩ (fun E ce q9 H1 locs1 hx9 hk9 hS hc9 hv9 hf9 => kout (G := G) F.2.2.2.2.1 hlocks hS (by decide) (by decide) hc9 hv9 hf9 (⟨hP.old hk9, Or.inr (Or.inl (⟨hx9.1, ⟨t, ht, rfl, hx9.2⟩⟩))⟩)) (fun v H1 locs1 hv hk hS => ?_)
  have hP := hP.old hk
  obtain ⟨rfl, hu1, hu2⟩ := hv
  refine lv_aload_n hx hb dX5_giveBack_11 rfl (lv_at hl 0 rfl) ?_
  refine gX2 F (hP.tick ht) 6 (by decide) wFL_X5_95 (fun _ h9 => h9) (v := .int (σ 15 t)) rfl dX5_giveBack_12 ?_
  refine lv_if_ne (tgt := 33) hx hb dX5_giveBack_15 (by decide) (fun c_15_1 => ?_) (fun c_15_1 => ?_)
  · exact kthrow F hl9 hS hl.1 (cls := xIS) (text := "cannot be given back") (ik := 72) (is := 108) (ic := 76) (by decide +kernel) wCL_X5_72 wIN_java_lang_IllegalStateException tx_108 (by simp [nwCast]) is_good is_bad is_ot dX5_giveBack_33 dX5_giveBack_36 dX5_giveBack_37 dX5_giveBack_39 dX5_giveBack_42 (by decide) (Nat.le_of_ble_eq_true rfl) (by decide) (by decide) (by decide) (by decide) (fun H1 hz hq => ⟨hP.old ⟨hz, fun q h _ => hq q h⟩, Or.inr (Or.inr (⟨rfl, t, ht, rfl, fun z => c_15_1 z.1⟩))⟩)
  · refine lv_aload_n hx hb dX5_giveBack_18 rfl (lv_at hl 0 rfl) ?_
    refine gX2 F (hP.tick ht) 8 (by decide) wFL_X5_100 (fun _ h9 => h9) (v := .int (σ 17 t)) rfl dX5_giveBack_19 ?_
    refine lv_if_ne (tgt := 33) hx hb dX5_giveBack_22 (by decide) (fun c_22_2 => ?_) (fun c_22_2 => ?_)
    · exact kthrow F hl9 hS hl.1 (cls := xIS) (text := "cannot be given back") (ik := 72) (is := 108) (ic := 76) (by decide +kernel) wCL_X5_72 wIN_java_lang_IllegalStateException tx_108 (by simp [nwCast]) is_good is_bad is_ot dX5_giveBack_33 dX5_giveBack_36 dX5_giveBack_37 dX5_giveBack_39 dX5_giveBack_42 (by decide) (Nat.le_of_ble_eq_true rfl) (by decide) (by decide) (by decide) (by decide) (fun H1 hz hq => ⟨hP.old ⟨hz, fun q h _ => hq q h⟩, Or.inr (Or.inr (⟨rfl, t, ht, rfl, fun z => c_22_2 z.2.1⟩))⟩)
    · refine lv_aload_n hx hb dX5_giveBack_25 rfl (lv_at hl 1 rfl) ?_
      refine lv_aload_n hx hb dX5_giveBack_26 rfl (lv_at hl 0 rfl) ?_
      refine kcallV (n := 1) F (kX5_areClosedFor l G (fun q => H1.size ≤ q) A ad σ qs nT nW t ht) wML_X5_104 wIM_X5_areClosedFor wSE_X5_X5_areClosedFor wIN_X5 wCO_X5_areClosedFor (by decide) rfl ⟨by decide, by decide⟩ (frec F (hP.main rfl) _ rfl) hS (fun q h => hA q (Nat.le_trans hS.1 h)) (fun q h => h) hP rfl hl.1 (Nat.le_of_ble_eq_true rfl) dX5_giveBack_27 ⟨by decide, by decide⟩ (fun E ce q9 H1 locs1 hx9 _ _ _ _ _ => hx9.elim) (fun v H1 locs1 hv hk hS => ?_)
      have hP := hP.old hk
      subst hv
      refine lv_if_ne (tgt := 43) hx hb dX5_giveBack_30 (by decide) (fun c_30_3 => ?_) (fun c_30_3 => ?_)
      · refine lv_aload_n hx hb dX5_giveBack_43 rfl (lv_at hl 0 rfl) ?_
        refine lv_iconst (v := 1) hx hb dX5_giveBack_44 (by decide) ?_
        refine pX2 F hS (hP.tick ht) (hP.otick ht) 5 (by decide) wFL_X5_110 (fun _ h9 => h9) rfl rfl rfl (by simp) dX5_giveBack_45 (fun H1 locs1 he1 z1 oq1 hS => ?_)
        have hP := hP.p14 ht he1 oq1
        refine lv_aload_n hx hb dX5_giveBack_48 rfl (lv_at hl 1 rfl) ?_
        refine lv_dup hx hb dX5_giveBack_49 rfl ?_
        refine gX5 F (hP.main rfl) 7 (by decide) wFL_X5_113 (fun _ h9 => h9) (v := .int (σ 27 0)) rfl dX5_giveBack_50 ?_
        refine lv_aload_n hx hb dX5_giveBack_53 rfl (lv_at hl 0 rfl) ?_
        refine gX2 F (hP.tick ht) 4 (by decide) wFL_X5_116 (fun _ h9 => h9) (v := .int (σ 13 t)) rfl dX5_giveBack_54 ?_
        refine lv_isub hx hb dX5_giveBack_57 ?_
        refine pX5 F hS (hP.main rfl) (hP.omain rfl) 7 (by decide) wFL_X5_113 (fun _ h9 => h9) rfl rfl rfl (by simp) dX5_giveBack_58 (fun H1 locs1 he1 z1 oq1 hS => ?_)
        have hP := hP.p27 rfl he1 oq1
        refine lv_aload_n hx hb dX5_giveBack_61 rfl (lv_at hl 0 rfl) ?_
        refine gX2 F (hP.tick ht) 4 (by decide) wFL_X5_116 (fun _ h9 => h9) (v := .int (σ 13 t)) rfl dX5_giveBack_62 ?_
        exact kiret hx hb hr hlocks hS (by decide) (by decide) dX5_giveBack_65 (⟨t, ht, rfl, ⟨hu1, hu2⟩, ⟨c_15_1, c_22_2, b2i_1.mp c_30_3⟩, rfl, hP⟩)
      · exact kthrow F hl9 hS hl.1 (cls := xIS) (text := "cannot be given back") (ik := 72) (is := 108) (ic := 76) (by decide +kernel) wCL_X5_72 wIN_java_lang_IllegalStateException tx_108 (by simp [nwCast]) is_good is_bad is_ot dX5_giveBack_33 dX5_giveBack_36 dX5_giveBack_37 dX5_giveBack_39 dX5_giveBack_42 (by decide) (Nat.le_of_ble_eq_true rfl) (by decide) (by decide) (by decide) (by decide) (fun H1 hz hq => ⟨hP.old ⟨hz, fun q h _ => hq q h⟩, Or.inr (Or.inr (⟨rfl, t, ht, rfl, fun z => by rw [b2i_0.mp c_30_3] at z; exact absurd z.2.2 (by decide)⟩))⟩)

theorem nI_le0 {n : Nat} (hn : n < 2 ^ 31) (h : nI n ≤ 0) : n = 0 := by have := (nI_leI (b := 0) hn (by decide)).mp h; omega
theorem nI_gt0 {n : Nat} (h : ¬ nI n ≤ 0) : n ≠ 0 := fun e => h (by rw [e]; decide)
set_option maxHeartbeats 4000000 in
set_option maxRecDepth 100000 in
theorem kP_admitM (l : Launch) (G : GE) (A : Nat → Prop) (ad : Nat → Nat → Nat) (σ : SG) (qs : Nat → List Nat) (nT nW : Nat) (hl9 : l.stackTraces = false) (vm : Int32) (f : Nat) (hf : σ 26 0 = nI f) (hfn : f ≤ nT) (hnT : nT ≤ 80) : KM l G A yX5_admit cX5_admit 5 (some .int) (rmL 9 6 250) [.ref (ad 0 0), .int vm, .int 0] (PX G A ad σ qs nT nW) (fun v H => ∃ m, m < 6 ∧ vm = nI m ∧ fBel (σ 9 m) (σ 25 0) = true ∧ (cntF (pOf σ (nI m) 2) f (nT - f) = 0) ∧ nT < 80 ∧ v = some (.int (nI nT)) ∧ ∃ q, PX G A (adN ad 10 nT q) (up (fNew σ nT 2 (-1) (nI m) (0)) 27 0 (σ 27 0 + 0)) qs (nT + 1) nW H) (fun E H => PX G A ad σ qs nT nW H ∧ ((E = xIO ∧ ¬ (∃ j, j < 6 ∧ vm = nI j)) ∨ (E = xIS ∧ ∃ m, m < 6 ∧ vm = nI m ∧ fBel (σ 9 m) (σ 25 0) = false) ∨ (E = xIS ∧ ∃ m, m < 6 ∧ vm = nI m ∧ cntF (pOf σ (nI m) 2) f (nT - f) ≠ 0) ∨ (E = xIS ∧ (∃ j, j < 6 ∧ vm = nI j) ∧ nT = 80))) := by
  refine KM.of (by decide) (Nat.le_of_ble_eq_true rfl) ?_
  intro p e s m args below meth c F hP ls hl
  have hx := F.1.1
  have hb := F.1.2.1
  have hown := F.1.2.2.2.1
  have hts := F.1.2.2.2.2
  have hr := F.2.1
  have hlocks := F.2.2.1
  have hE := F.2.2.2.2.2.1
  have hA := F.2.2.2.2.2.2
  have hS : va_S A s.heap s.heap [] := va_S.rf
  have hl : lv_has ls 5 [(0, .ref (ad 0 0)), (1, .int vm), (2, .int 0)] := hl
  have hP := hP
  refine lv_aload_n hx hb dX5_admit_0 rfl (lv_at hl 0 rfl) ?_
  refine lv_iload_n hx hb dX5_admit_1 rfl (lv_at hl 1 rfl) ?_
  refine kcallV (n := 1) F (kX5_memberAt l G (fun q => s.heap.size ≤ q) A ad σ qs nT nW hl9 vm) wML_X5_61 wIM_X5_memberAt wSE_X5_X5_memberAt wIN_X5 wCO_X5_memberAt (by decide) rfl ⟨by decide, by decide⟩ (frec F (hP.main rfl) _ rfl) hS (fun q h => hA q (Nat.le_trans hS.1 h)) (fun q h => h) hP rfl hl.1 (Nat.le_of_ble_eq_true rfl) dX5_admit_2 ⟨by decide, by decide⟩ (fun E ce q9 H1 locs1 hx9 hk9 hS hc9 hv9 hf9 => kout (G := G) F.2.2.2.2.1 hlocks hS (by decide) (by decide) hc9 hv9 hf9 (⟨hP.old hk9, Or.inl (⟨hx9.1, hx9.2⟩)⟩)) (fun v H1 locs1 hv hk hS => ?_)
  have hP := hP.old hk
  obtain ⟨m, hm9, rfl, rfl⟩ := hv
  refine lv_aload_n hx hb dX5_admit_5 rfl (lv_at hl 0 rfl) ?_
  refine gX5 F (hP.main rfl) 5 (by decide) wFL_X5_65 (fun _ h9 => h9) (v := .int (σ 25 0)) rfl dX5_admit_6 ?_
  refine kcallV (n := 1) F (kX0_belongs l G (fun q => H1.size ≤ q) A ad σ qs nT nW m hm9 (σ 25 0)) wML_X5_68 wIM_X0_belongs wSE_X0_X0_belongs wIN_X0 wCO_X0_belongs (by decide) rfl ⟨by decide, by decide⟩ (frec F (hP.member hm9) _ rfl) hS (fun q h => hA q (Nat.le_trans hS.1 h)) (fun q h => h) hP rfl hl.1 (Nat.le_of_ble_eq_true rfl) dX5_admit_9 ⟨by decide, by decide⟩ (fun E ce q9 H1 locs1 hx9 _ _ _ _ _ => hx9.elim) (fun v H1 locs1 hv hk hS => ?_)
  have hP := hP.old hk
  subst hv
  refine lv_if_ne (tgt := 25) hx hb dX5_admit_12 (by decide) (fun c_12_1 => ?_) (fun c_12_1 => ?_)
  · refine lv_aload_n hx hb dX5_admit_25 rfl (lv_at hl 0 rfl) ?_
    refine lv_iload_n hx hb dX5_admit_26 rfl (lv_at hl 1 rfl) ?_
    refine lv_iconst (v := 2) hx hb dX5_admit_27 (by decide) ?_
    refine kcallV (n := 2) F (kX5_countOfToday l G (fun q => H1.size ≤ q) A ad σ qs nT nW (nI m) 2 f hf hfn hnT) wML_X5_79 wIM_X5_countOfToday wSE_X5_X5_countOfToday wIN_X5 wCO_X5_countOfToday (by decide) rfl ⟨by decide, by decide⟩ (frec F (hP.main rfl) _ rfl) hS (fun q h => hA q (Nat.le_trans hS.1 h)) (fun q h => h) hP rfl hl.1 (Nat.le_of_ble_eq_true rfl) dX5_admit_28 ⟨by decide, by decide⟩ (fun E ce q9 H1 locs1 hx9 _ _ _ _ _ => hx9.elim) (fun v H1 locs1 hv hk hS => ?_)
    have hP := hP.old hk
    subst hv
    refine lv_if_le (tgt := 38) hx hb dX5_admit_31 (by decide) (fun c_31_2 => ?_) (fun c_31_2 => ?_)
    · refine lv_iconst (v := 0) hx hb dX5_admit_38 (by decide) ?_
      refine lv_istore_n (lv' := [(3, .int 0), (0, .ref (ad 0 0)), (1, .int (nI m)), (2, .int 0)]) hx hb dX5_admit_39 rfl hl (by decide) rfl (fun ls hl => ?_)
      refine lv_iload_n hx hb dX5_admit_40 rfl (lv_at hl 0 rfl) ?_
      refine lv_iload_n hx hb dX5_admit_41 rfl (lv_at hl 3 rfl) ?_
      refine lv_icmp_eq (tgt := 55) hx hb dX5_admit_42 (by decide) (fun c_42_3 => ?_) (fun c_42_3 => ?_)
      · refine lv_iload_n hx hb dX5_admit_55 rfl (lv_at hl 3 rfl) ?_
        refine lv_if_eq (tgt := 79) hx hb dX5_admit_56 (by decide) (fun c_56_4 => ?_) (fun c_56_4 => ?_)
        · refine lv_aload_n hx hb dX5_admit_79 rfl (lv_at hl 1 rfl) ?_
          refine kcallV (n := 0) F (kX5_checkTicketsLeft l G (fun q => H1.size ≤ q) A ad σ qs nT nW hl9 hnT) wML_X5_54 wIM_X5_checkTicketsLeft wSE_X5_X5_checkTicketsLeft wIN_X5 wCO_X5_checkTicketsLeft (by decide) rfl ⟨by decide, by decide⟩ (frec F (hP.main rfl) _ rfl) hS (fun q h => hA q (Nat.le_trans hS.1 h)) (fun q h => h) hP rfl hl.1 (Nat.le_of_ble_eq_true rfl) dX5_admit_80 ⟨by decide, by decide⟩ (fun E ce q9 H1 locs1 hx9 hk9 hS hc9 hv9 hf9 => kout (G := G) F.2.2.2.2.1 hlocks hS (by decide) (by decide) hc9 hv9 hf9 (⟨hP.old hk9, Or.inr (Or.inr (Or.inr (⟨hx9.1, ⟨⟨m, hm9, rfl⟩, hx9.2⟩⟩)))⟩)) (fun v H1 locs1 hv hk hS => ?_)
          have hP := hP.old hk
          obtain ⟨rfl, hlt⟩ := hv
          refine lv_iload_n hx hb dX5_admit_83 rfl (lv_at hl 3 rfl) ?_
          refine lv_if_eq (tgt := 100) hx hb dX5_admit_84 (by decide) (fun c_84_5 => ?_) (fun c_84_5 => ?_)
          · refine lv_iconst (v := 0) hx hb dX5_admit_100 (by decide) ?_
            refine lv_istore (lv' := [(4, .int 0), (3, .int 0), (0, .ref (ad 0 0)), (1, .int (nI m)), (2, .int 0)]) hx hb dX5_admit_101 hl (by decide) rfl (fun ls hl => ?_)
            refine lv_aload_n hx hb dX5_admit_103 rfl (lv_at hl 2 rfl) ?_
            refine lv_iload_n hx hb dX5_admit_104 rfl (lv_at hl 4 rfl) ?_
            refine lv_if_eq (tgt := 112) hx hb dX5_admit_105 (by decide) (fun c_105_6 => ?_) (fun c_105_6 => ?_)
            · refine lv_iconst (v := 2) hx hb dX5_admit_112 (by decide) ?_
              refine lv_iconst (v := (-1)) hx hb dX5_admit_113 (by decide) ?_
              refine lv_iload_n hx hb dX5_admit_114 rfl (lv_at hl 3 rfl) ?_
              refine lv_iload hx hb dX5_admit_115 (lv_at hl 0 rfl) ?_
              refine kcallV (n := 4) F (kX5_issue l G A ad σ qs nT nW 2 (-1) (nI m) 0 hlt) wML_X5_57 wIM_X5_issue wSE_X5_X5_issue wIN_X5 wCO_X5_issue (by decide) rfl ⟨by decide, by decide⟩ (frec F (hP.main rfl) _ rfl) hS (fun _ h => h) (fun q h => hA q (Nat.le_trans hS.1 h)) hP rfl hl.1 (Nat.le_of_ble_eq_true rfl) dX5_admit_117 ⟨by decide, by decide⟩ (fun E ce q9 H1 locs1 hx9 _ _ _ _ _ => hx9.elim) (fun v H1 locs1 hv hk hS => ?_)
              obtain ⟨rfl, q, hP⟩ := hv
              exact kiret hx hb hr hlocks hS (by decide) (by decide) dX5_admit_120 (⟨m, hm9, rfl, b2i_1.mp c_12_1, nI_le0 (by have := cntF_le (pOf σ (nI m) 2) (nT - f) f; omega) c_31_2, hlt, rfl, q, hP⟩)
            · exact absurd c_105_6 (by decide)
          · exact absurd c_84_5 (by decide)
        · exact absurd c_56_4 (by decide)
      · exact absurd c_42_3 (by decide)
    · refine lv_iconst (v := 1) hx hb dX5_admit_34 (by decide) ?_
      refine lv_goto (tgt := 39) hx hb dX5_admit_35 (by decide) ?_
      refine lv_istore_n (lv' := [(3, .int 1), (0, .ref (ad 0 0)), (1, .int (nI m)), (2, .int 0)]) hx hb dX5_admit_39 rfl hl (by decide) rfl (fun ls hl => ?_)
      refine lv_iload_n hx hb dX5_admit_40 rfl (lv_at hl 0 rfl) ?_
      refine lv_iload_n hx hb dX5_admit_41 rfl (lv_at hl 3 rfl) ?_
      refine lv_icmp_eq (tgt := 55) hx hb dX5_admit_42 (by decide) (fun c_42_7 => ?_) (fun c_42_7 => ?_)
      · exact absurd c_42_7 (by decide)
      · exact kthrow F hl9 hS hl.1 (cls := xIS) (text := "a MEMBER ticket of today, or none") (ik := 72) (is := 83) (ic := 76) (by decide +kernel) wCL_X5_72 wIN_java_lang_IllegalStateException tx_83 (by simp [nwCast]) is_good is_bad is_ot dX5_admit_45 dX5_admit_48 dX5_admit_49 dX5_admit_51 dX5_admit_54 (by decide) (Nat.le_of_ble_eq_true rfl) (by decide) (by decide) (by decide) (by decide) (fun H1 hz hq => ⟨hP.old ⟨hz, fun q h _ => hq q h⟩, Or.inr (Or.inr (Or.inl (⟨rfl, m, hm9, rfl, nI_gt0 c_31_2⟩)))⟩)
  · exact kthrow F hl9 hS hl.1 (cls := xIS) (text := "no membership") (ik := 72) (is := 74) (ic := 76) (by decide +kernel) wCL_X5_72 wIN_java_lang_IllegalStateException tx_74 (by simp [nwCast]) is_good is_bad is_ot dX5_admit_15 dX5_admit_18 dX5_admit_19 dX5_admit_21 dX5_admit_24 (by decide) (Nat.le_of_ble_eq_true rfl) (by decide) (by decide) (by decide) (by decide) (fun H1 hz hq => ⟨hP.old ⟨hz, fun q h _ => hq q h⟩, Or.inr (Or.inl (⟨rfl, m, hm9, rfl, b2i_0.mp c_12_1⟩))⟩)

set_option maxHeartbeats 4000000 in
set_option maxRecDepth 100000 in
theorem kP_admitG (l : Launch) (G : GE) (A : Nat → Prop) (ad : Nat → Nat → Nat) (σ : SG) (qs : Nat → List Nat) (nT nW : Nat) (hl9 : l.stackTraces = false) (vm : Int32) (f : Nat) (hf : σ 26 0 = nI f) (hfn : f ≤ nT) (hnT : nT ≤ 80) : KM l G A yX5_admit cX5_admit 5 (some .int) (rmL 9 6 250) [.ref (ad 0 0), .int vm, .int 1] (PX G A ad σ qs nT nW) (fun v H => ∃ m, m < 6 ∧ vm = nI m ∧ fBel (σ 9 m) (σ 25 0) = true ∧ (cntF (pOf σ (nI m) 2) f (nT - f) ≠ 0 ∧ cntF (pOf σ (nI m) 3) f (nT - f) < 2) ∧ nT < 80 ∧ v = some (.int (nI nT)) ∧ ∃ q, PX G A (adN ad 10 nT q) (up (fNew σ nT 3 (-1) (nI m) (σ 0 0 / 2)) 27 0 (σ 27 0 + (σ 0 0 / 2))) qs (nT + 1) nW H) (fun E H => PX G A ad σ qs nT nW H ∧ ((E = xIO ∧ ¬ (∃ j, j < 6 ∧ vm = nI j)) ∨ (E = xIS ∧ ∃ m, m < 6 ∧ vm = nI m ∧ fBel (σ 9 m) (σ 25 0) = false) ∨ (E = xIS ∧ ∃ m, m < 6 ∧ vm = nI m ∧ cntF (pOf σ (nI m) 2) f (nT - f) = 0) ∨ (E = xIS ∧ ∃ m, m < 6 ∧ vm = nI m ∧ ¬ cntF (pOf σ (nI m) 3) f (nT - f) < 2) ∨ (E = xIS ∧ (∃ j, j < 6 ∧ vm = nI j) ∧ nT = 80))) := by
  refine KM.of (by decide) (Nat.le_of_ble_eq_true rfl) ?_
  intro p e s m args below meth c F hP ls hl
  have hx := F.1.1
  have hb := F.1.2.1
  have hown := F.1.2.2.2.1
  have hts := F.1.2.2.2.2
  have hr := F.2.1
  have hlocks := F.2.2.1
  have hE := F.2.2.2.2.2.1
  have hA := F.2.2.2.2.2.2
  have hS : va_S A s.heap s.heap [] := va_S.rf
  have hl : lv_has ls 5 [(0, .ref (ad 0 0)), (1, .int vm), (2, .int 1)] := hl
  have hP := hP
  refine lv_aload_n hx hb dX5_admit_0 rfl (lv_at hl 0 rfl) ?_
  refine lv_iload_n hx hb dX5_admit_1 rfl (lv_at hl 1 rfl) ?_
  refine kcallV (n := 1) F (kX5_memberAt l G (fun q => s.heap.size ≤ q) A ad σ qs nT nW hl9 vm) wML_X5_61 wIM_X5_memberAt wSE_X5_X5_memberAt wIN_X5 wCO_X5_memberAt (by decide) rfl ⟨by decide, by decide⟩ (frec F (hP.main rfl) _ rfl) hS (fun q h => hA q (Nat.le_trans hS.1 h)) (fun q h => h) hP rfl hl.1 (Nat.le_of_ble_eq_true rfl) dX5_admit_2 ⟨by decide, by decide⟩ (fun E ce q9 H1 locs1 hx9 hk9 hS hc9 hv9 hf9 => kout (G := G) F.2.2.2.2.1 hlocks hS (by decide) (by decide) hc9 hv9 hf9 (⟨hP.old hk9, Or.inl (⟨hx9.1, hx9.2⟩)⟩)) (fun v H1 locs1 hv hk hS => ?_)
  have hP := hP.old hk
  obtain ⟨m, hm9, rfl, rfl⟩ := hv
  refine lv_aload_n hx hb dX5_admit_5 rfl (lv_at hl 0 rfl) ?_
  refine gX5 F (hP.main rfl) 5 (by decide) wFL_X5_65 (fun _ h9 => h9) (v := .int (σ 25 0)) rfl dX5_admit_6 ?_
  refine kcallV (n := 1) F (kX0_belongs l G (fun q => H1.size ≤ q) A ad σ qs nT nW m hm9 (σ 25 0)) wML_X5_68 wIM_X0_belongs wSE_X0_X0_belongs wIN_X0 wCO_X0_belongs (by decide) rfl ⟨by decide, by decide⟩ (frec F (hP.member hm9) _ rfl) hS (fun q h => hA q (Nat.le_trans hS.1 h)) (fun q h => h) hP rfl hl.1 (Nat.le_of_ble_eq_true rfl) dX5_admit_9 ⟨by decide, by decide⟩ (fun E ce q9 H1 locs1 hx9 _ _ _ _ _ => hx9.elim) (fun v H1 locs1 hv hk hS => ?_)
  have hP := hP.old hk
  subst hv
  refine lv_if_ne (tgt := 25) hx hb dX5_admit_12 (by decide) (fun c_12_1 => ?_) (fun c_12_1 => ?_)
  · refine lv_aload_n hx hb dX5_admit_25 rfl (lv_at hl 0 rfl) ?_
    refine lv_iload_n hx hb dX5_admit_26 rfl (lv_at hl 1 rfl) ?_
    refine lv_iconst (v := 2) hx hb dX5_admit_27 (by decide) ?_
    refine kcallV (n := 2) F (kX5_countOfToday l G (fun q => H1.size ≤ q) A ad σ qs nT nW (nI m) 2 f hf hfn hnT) wML_X5_79 wIM_X5_countOfToday wSE_X5_X5_countOfToday wIN_X5 wCO_X5_countOfToday (by decide) rfl ⟨by decide, by decide⟩ (frec F (hP.main rfl) _ rfl) hS (fun q h => hA q (Nat.le_trans hS.1 h)) (fun q h => h) hP rfl hl.1 (Nat.le_of_ble_eq_true rfl) dX5_admit_28 ⟨by decide, by decide⟩ (fun E ce q9 H1 locs1 hx9 _ _ _ _ _ => hx9.elim) (fun v H1 locs1 hv hk hS => ?_)
    have hP := hP.old hk
    subst hv
    refine lv_if_le (tgt := 38) hx hb dX5_admit_31 (by decide) (fun c_31_2 => ?_) (fun c_31_2 => ?_)
    · refine lv_iconst (v := 0) hx hb dX5_admit_38 (by decide) ?_
      refine lv_istore_n (lv' := [(3, .int 0), (0, .ref (ad 0 0)), (1, .int (nI m)), (2, .int 1)]) hx hb dX5_admit_39 rfl hl (by decide) rfl (fun ls hl => ?_)
      refine lv_iload_n hx hb dX5_admit_40 rfl (lv_at hl 0 rfl) ?_
      refine lv_iload_n hx hb dX5_admit_41 rfl (lv_at hl 3 rfl) ?_
      refine lv_icmp_eq (tgt := 55) hx hb dX5_admit_42 (by decide) (fun c_42_3 => ?_) (fun c_42_3 => ?_)
      · exact absurd c_42_3 (by decide)
      · exact kthrow F hl9 hS hl.1 (cls := xIS) (text := "a MEMBER ticket of today, or none") (ik := 72) (is := 83) (ic := 76) (by decide +kernel) wCL_X5_72 wIN_java_lang_IllegalStateException tx_83 (by simp [nwCast]) is_good is_bad is_ot dX5_admit_45 dX5_admit_48 dX5_admit_49 dX5_admit_51 dX5_admit_54 (by decide) (Nat.le_of_ble_eq_true rfl) (by decide) (by decide) (by decide) (by decide) (fun H1 hz hq => ⟨hP.old ⟨hz, fun q h _ => hq q h⟩, Or.inr (Or.inr (Or.inl (⟨rfl, m, hm9, rfl, nI_le0 (by have := cntF_le (pOf σ (nI m) 2) (nT - f) f; omega) c_31_2⟩)))⟩)
    · refine lv_iconst (v := 1) hx hb dX5_admit_34 (by decide) ?_
      refine lv_goto (tgt := 39) hx hb dX5_admit_35 (by decide) ?_
      refine lv_istore_n (lv' := [(3, .int 1), (0, .ref (ad 0 0)), (1, .int (nI m)), (2, .int 1)]) hx hb dX5_admit_39 rfl hl (by decide) rfl (fun ls hl => ?_)
      refine lv_iload_n hx hb dX5_admit_40 rfl (lv_at hl 0 rfl) ?_
      refine lv_iload_n hx hb dX5_admit_41 rfl (lv_at hl 3 rfl) ?_
      refine lv_icmp_eq (tgt := 55) hx hb dX5_admit_42 (by decide) (fun c_42_4 => ?_) (fun c_42_4 => ?_)
      · refine lv_iload_n hx hb dX5_admit_55 rfl (lv_at hl 3 rfl) ?_
        refine lv_if_eq (tgt := 79) hx hb dX5_admit_56 (by decide) (fun c_56_5 => ?_) (fun c_56_5 => ?_)
        · exact absurd c_56_5 (by decide)
        · refine lv_aload_n hx hb dX5_admit_59 rfl (lv_at hl 1 rfl) ?_
          refine lv_iload_n hx hb dX5_admit_60 rfl (lv_at hl 2 rfl) ?_
          refine lv_iconst (v := 3) hx hb dX5_admit_61 (by decide) ?_
          refine kcallV (n := 2) F (kX5_countOfToday l G (fun q => H1.size ≤ q) A ad σ qs nT nW (nI m) 3 f hf hfn hnT) wML_X5_79 wIM_X5_countOfToday wSE_X5_X5_countOfToday wIN_X5 wCO_X5_countOfToday (by decide) rfl ⟨by decide, by decide⟩ (frec F (hP.main rfl) _ rfl) hS (fun q h => hA q (Nat.le_trans hS.1 h)) (fun q h => h) hP rfl hl.1 (Nat.le_of_ble_eq_true rfl) dX5_admit_62 ⟨by decide, by decide⟩ (fun E ce q9 H1 locs1 hx9 _ _ _ _ _ => hx9.elim) (fun v H1 locs1 hv hk hS => ?_)
          have hP := hP.old hk
          subst hv
          refine lv_iconst (v := 2) hx hb dX5_admit_65 (by decide) ?_
          refine lv_icmp_lt (tgt := 79) hx hb dX5_admit_66 (by decide) (fun c_66_6 => ?_) (fun c_66_6 => ?_)
          · refine lv_aload_n hx hb dX5_admit_79 rfl (lv_at hl 1 rfl) ?_
            refine kcallV (n := 0) F (kX5_checkTicketsLeft l G (fun q => H1.size ≤ q) A ad σ qs nT nW hl9 hnT) wML_X5_54 wIM_X5_checkTicketsLeft wSE_X5_X5_checkTicketsLeft wIN_X5 wCO_X5_checkTicketsLeft (by decide) rfl ⟨by decide, by decide⟩ (frec F (hP.main rfl) _ rfl) hS (fun q h => hA q (Nat.le_trans hS.1 h)) (fun q h => h) hP rfl hl.1 (Nat.le_of_ble_eq_true rfl) dX5_admit_80 ⟨by decide, by decide⟩ (fun E ce q9 H1 locs1 hx9 hk9 hS hc9 hv9 hf9 => kout (G := G) F.2.2.2.2.1 hlocks hS (by decide) (by decide) hc9 hv9 hf9 (⟨hP.old hk9, Or.inr (Or.inr (Or.inr (Or.inr (⟨hx9.1, ⟨⟨m, hm9, rfl⟩, hx9.2⟩⟩))))⟩)) (fun v H1 locs1 hv hk hS => ?_)
            have hP := hP.old hk
            obtain ⟨rfl, hlt⟩ := hv
            refine lv_iload_n hx hb dX5_admit_83 rfl (lv_at hl 3 rfl) ?_
            refine lv_if_eq (tgt := 100) hx hb dX5_admit_84 (by decide) (fun c_84_7 => ?_) (fun c_84_7 => ?_)
            · exact absurd c_84_7 (by decide)
            · refine lv_aload_n hx hb dX5_admit_87 rfl (lv_at hl 1 rfl) ?_
              refine lv_iconst (v := (-1)) hx hb dX5_admit_88 (by decide) ?_
              refine kcallV (n := 1) F (kX5_tillAt0 l G (fun q => H1.size ≤ q) A ad σ qs nT nW (-1) 0 (by decide) rfl) wML_X5_42 wIM_X5_tillAt wSE_X5_X5_tillAt wIN_X5 wCO_X5_tillAt (by decide) rfl ⟨by decide, by decide⟩ (frec F (hP.main rfl) _ rfl) hS (fun q h => hA q (Nat.le_trans hS.1 h)) (fun q h => h) hP rfl hl.1 (Nat.le_of_ble_eq_true rfl) dX5_admit_89 ⟨by decide, by decide⟩ (fun E ce q9 H1 locs1 hx9 _ _ _ _ _ => hx9.elim) (fun v H1 locs1 hv hk hS => ?_)
              have hP := hP.old hk
              subst hv
              refine gX3 F (hP.till (by decide)) 0 (by decide) wFL_X5_50 (fun _ h9 => h9) (v := .int (σ 0 0)) rfl dX5_admit_92 ?_
              refine lv_iconst (v := 2) hx hb dX5_admit_95 (by decide) ?_
              refine lv_idiv hx hb dX5_admit_96 (by decide) ?_
              refine lv_goto (tgt := 101) hx hb dX5_admit_97 (by decide) ?_
              refine lv_istore (lv' := [(4, .int ((σ 0 0) / 2)), (3, .int 1), (0, .ref (ad 0 0)), (1, .int (nI m)), (2, .int 1)]) hx hb dX5_admit_101 hl (by decide) rfl (fun ls hl => ?_)
              refine lv_aload_n hx hb dX5_admit_103 rfl (lv_at hl 2 rfl) ?_
              refine lv_iload_n hx hb dX5_admit_104 rfl (lv_at hl 4 rfl) ?_
              refine lv_if_eq (tgt := 112) hx hb dX5_admit_105 (by decide) (fun c_105_8 => ?_) (fun c_105_8 => ?_)
              · exact absurd c_105_8 (by decide)
              · refine lv_iconst (v := 3) hx hb dX5_admit_108 (by decide) ?_
                refine lv_goto (tgt := 113) hx hb dX5_admit_109 (by decide) ?_
                refine lv_iconst (v := (-1)) hx hb dX5_admit_113 (by decide) ?_
                refine lv_iload_n hx hb dX5_admit_114 rfl (lv_at hl 3 rfl) ?_
                refine lv_iload hx hb dX5_admit_115 (lv_at hl 0 rfl) ?_
                refine kcallV (n := 4) F (kX5_issue l G A ad σ qs nT nW 3 (-1) (nI m) ((σ 0 0) / 2) hlt) wML_X5_57 wIM_X5_issue wSE_X5_X5_issue wIN_X5 wCO_X5_issue (by decide) rfl ⟨by decide, by decide⟩ (frec F (hP.main rfl) _ rfl) hS (fun _ h => h) (fun q h => hA q (Nat.le_trans hS.1 h)) hP rfl hl.1 (Nat.le_of_ble_eq_true rfl) dX5_admit_117 ⟨by decide, by decide⟩ (fun E ce q9 H1 locs1 hx9 _ _ _ _ _ => hx9.elim) (fun v H1 locs1 hv hk hS => ?_)
                obtain ⟨rfl, q, hP⟩ := hv
                exact kiret hx hb hr hlocks hS (by decide) (by decide) dX5_admit_120 (⟨m, hm9, rfl, b2i_1.mp c_12_1, ⟨nI_gt0 c_31_2, (nI_ltI (b := 2) (by have := cntF_le (pOf σ (nI m) 3) (nT - f) f; omega) (by decide)).mp c_66_6⟩, hlt, rfl, q, hP⟩)
          · exact kthrow F hl9 hS hl.1 (cls := xIS) (text := "no more guests today") (ik := 72) (is := 85) (ic := 76) (by decide +kernel) wCL_X5_72 wIN_java_lang_IllegalStateException tx_85 (by simp [nwCast]) is_good is_bad is_ot dX5_admit_69 dX5_admit_72 dX5_admit_73 dX5_admit_75 dX5_admit_78 (by decide) (Nat.le_of_ble_eq_true rfl) (by decide) (by decide) (by decide) (by decide) (fun H1 hz hq => ⟨hP.old ⟨hz, fun q h _ => hq q h⟩, Or.inr (Or.inr (Or.inr (Or.inl (⟨rfl, m, hm9, rfl, fun z => c_66_6 (nI_lt (b := 2) z (by decide))⟩))))⟩)
      · exact absurd c_42_4 (by decide)
  · exact kthrow F hl9 hS hl.1 (cls := xIS) (text := "no membership") (ik := 72) (is := 74) (ic := 76) (by decide +kernel) wCL_X5_72 wIN_java_lang_IllegalStateException tx_74 (by simp [nwCast]) is_good is_bad is_ot dX5_admit_15 dX5_admit_18 dX5_admit_19 dX5_admit_21 dX5_admit_24 (by decide) (Nat.le_of_ble_eq_true rfl) (by decide) (by decide) (by decide) (by decide) (fun H1 hz hq => ⟨hP.old ⟨hz, fun q h _ => hq q h⟩, Or.inr (Or.inl (⟨rfl, m, hm9, rfl, b2i_0.mp c_12_1⟩))⟩)

set_option maxHeartbeats 4000000 in
set_option maxRecDepth 100000 in
theorem kP_hang (l : Launch) (G : GE) (A : Nat → Prop) (ad : Nat → Nat → Nat) (σ : SG) (qs : Nat → List Nat) (nT nW : Nat) (hl9 : l.stackTraces = false) (vw vr : Int32) (hnW : nW ≤ 12) (hWr : ∀ u, u < nW → ∃ b, b < 12 ∧ σ 19 u = nI b) : KM l G A yX5_hang cX5_hang 6 (some .int) (rmL 6 3 18) [.ref (ad 0 0), .int vw, .int vr] (PX G A ad σ qs nT nW) (fun v H => ∃ u r b, u < nW ∧ vw = nI u ∧ r < 12 ∧ vr = nI r ∧ b < 12 ∧ σ 19 u = nI b ∧ nI (r / 3) = nI (b / 3) ∧ v = some (.int (σ 19 u)) ∧ PX G A ad (up σ 19 u (nI r)) qs nT nW H) (fun E H => PX G A ad σ qs nT nW H ∧ ((E = xIO ∧ ¬ (∃ j, j < nW ∧ vw = nI j)) ∨ (E = xIO ∧ ¬ (∃ j, j < 12 ∧ vr = nI j)) ∨ (E = xIS ∧ ∃ u r b, u < nW ∧ vw = nI u ∧ r < 12 ∧ vr = nI r ∧ b < 12 ∧ σ 19 u = nI b ∧ ¬ nI (r / 3) = nI (b / 3)))) := by
  refine KM.of (by decide) (Nat.le_of_ble_eq_true rfl) ?_
  intro p e s m args below meth c F hP ls hl
  have hx := F.1.1
  have hb := F.1.2.1
  have hown := F.1.2.2.2.1
  have hts := F.1.2.2.2.2
  have hr := F.2.1
  have hlocks := F.2.2.1
  have hE := F.2.2.2.2.2.1
  have hA := F.2.2.2.2.2.2
  have hS : va_S A s.heap s.heap [] := va_S.rf
  have hl : lv_has ls 6 [(0, .ref (ad 0 0)), (1, .int vw), (2, .int vr)] := hl
  have hP := hP
  refine lv_aload_n hx hb dX5_hang_0 rfl (lv_at hl 0 rfl) ?_
  refine lv_iload_n hx hb dX5_hang_1 rfl (lv_at hl 1 rfl) ?_
  refine kcallV (n := 1) F (kX5_workAt l G (fun q => s.heap.size ≤ q) A ad σ qs nT nW hl9 vw hnW) wML_X5_189 wIM_X5_workAt wSE_X5_X5_workAt wIN_X5 wCO_X5_workAt (by decide) rfl ⟨by decide, by decide⟩ (frec F (hP.main rfl) _ rfl) hS (fun q h => hA q (Nat.le_trans hS.1 h)) (fun q h => h) hP rfl hl.1 (Nat.le_of_ble_eq_true rfl) dX5_hang_2 ⟨by decide, by decide⟩ (fun E ce q9 H1 locs1 hx9 hk9 hS hc9 hv9 hf9 => kout (G := G) F.2.2.2.2.1 hlocks hS (by decide) (by decide) hc9 hv9 hf9 (⟨hP.old hk9, Or.inl (⟨hx9.1, hx9.2⟩)⟩)) (fun v H1 locs1 hv hk hS => ?_)
  have hP := hP.old hk
  obtain ⟨u, hu, rfl, rfl⟩ := hv
  refine lv_astore_n (lv' := [(3, .ref (ad 9 u)), (0, .ref (ad 0 0)), (1, .int (nI u)), (2, .int vr)]) hx hb dX5_hang_5 rfl hl (by decide) rfl (fun ls hl => ?_)
  refine lv_aload_n hx hb dX5_hang_6 rfl (lv_at hl 1 rfl) ?_
  refine lv_iload_n hx hb dX5_hang_7 rfl (lv_at hl 3 rfl) ?_
  refine kcallV (n := 1) F (kX5_roomAt l G (fun q => H1.size ≤ q) A ad σ qs nT nW hl9 vr) wML_X5_127 wIM_X5_roomAt wSE_X5_X5_roomAt wIN_X5 wCO_X5_roomAt (by decide) rfl ⟨by decide, by decide⟩ (frec F (hP.main rfl) _ rfl) hS (fun q h => hA q (Nat.le_trans hS.1 h)) (fun q h => h) hP rfl hl.1 (Nat.le_of_ble_eq_true rfl) dX5_hang_8 ⟨by decide, by decide⟩ (fun E ce q9 H1 locs1 hx9 hk9 hS hc9 hv9 hf9 => kout (G := G) F.2.2.2.2.1 hlocks hS (by decide) (by decide) hc9 hv9 hf9 (⟨hP.old hk9, Or.inr (Or.inl (⟨hx9.1, hx9.2⟩))⟩)) (fun v H1 locs1 hv hk hS => ?_)
  have hP := hP.old hk
  obtain ⟨r, hr9, rfl, rfl⟩ := hv
  refine lv_astore (lv' := [(4, .ref (ad 5 r)), (3, .ref (ad 9 u)), (0, .ref (ad 0 0)), (1, .int (nI u)), (2, .int (nI r))]) hx hb dX5_hang_11 hl (by decide) rfl (fun ls hl => ?_)
  refine lv_aload_n hx hb dX5_hang_13 rfl (lv_at hl 1 rfl) ?_
  refine gX4 F (hP.work hu) 2 (by decide) wFL_X5_193 (fun _ h9 => h9) (v := .int (σ 19 u)) rfl dX5_hang_14 ?_
  refine lv_istore (lv' := [(5, .int (σ 19 u)), (4, .ref (ad 5 r)), (3, .ref (ad 9 u)), (0, .ref (ad 0 0)), (1, .int (nI u)), (2, .int (nI r))]) hx hb dX5_hang_17 hl (by decide) rfl (fun ls hl => ?_)
  refine lv_aload hx hb dX5_hang_19 (lv_at hl 1 rfl) ?_
  refine gX1 F (hP.room hr9) 1 (by decide) wFL_X5_148 (fun _ h9 => h9) (v := .int (nI (r / 3))) rfl dX5_hang_21 ?_
  refine lv_aload_n hx hb dX5_hang_24 rfl (lv_at hl 3 rfl) ?_
  refine lv_iload hx hb dX5_hang_25 (lv_at hl 0 rfl) ?_
  obtain ⟨b, hb9, eb⟩ := hWr u hu
  refine W.eq (g2 := F0 m 27 ls [.int (nI b), .ref (ad 0 0), .int (nI (r / 3))]) (congrArg (fun z => F0 m 27 ls [.int z, .ref (ad 0 0), .int (nI (r / 3))]) (eb)) ?_
  refine kcallV (n := 1) F (kX5_roomAt0 l G (fun q => H1.size ≤ q) A ad σ qs nT nW b hb9) wML_X5_127 wIM_X5_roomAt wSE_X5_X5_roomAt wIN_X5 wCO_X5_roomAt (by decide) rfl ⟨by decide, by decide⟩ (frec F (hP.main rfl) _ rfl) hS (fun q h => hA q (Nat.le_trans hS.1 h)) (fun q h => h) hP rfl hl.1 (Nat.le_of_ble_eq_true rfl) dX5_hang_27 ⟨by decide, by decide⟩ (fun E ce q9 H1 locs1 hx9 _ _ _ _ _ => hx9.elim) (fun v H1 locs1 hv hk hS => ?_)
  have hP := hP.old hk
  subst hv
  refine gX1 F (hP.room hb9) 1 (by decide) wFL_X5_148 (fun _ h9 => h9) (v := .int (nI (b / 3))) rfl dX5_hang_30 ?_
  refine lv_icmp_eq (tgt := 46) hx hb dX5_hang_33 (by decide) (fun c_33_1 => ?_) (fun c_33_1 => ?_)
  · refine lv_aload_n hx hb dX5_hang_46 rfl (lv_at hl 2 rfl) ?_
    refine lv_aload hx hb dX5_hang_47 (lv_at hl 1 rfl) ?_
    refine gX1 F (hP.room hr9) 0 (by decide) wFL_X5_170 (fun _ h9 => h9) (v := .int (nI r)) rfl dX5_hang_49 ?_
    refine pX4 F hS (hP.work hu) (hP.owork hu) 2 (by decide) wFL_X5_193 (fun _ h9 => h9) rfl rfl rfl (by simp) dX5_hang_52 (fun H1 locs1 he1 z1 oq1 hS => ?_)
    have hP := hP.p19 hu he1 oq1
    refine lv_iload hx hb dX5_hang_55 (lv_at hl 0 rfl) ?_
    exact kiret hx hb hr hlocks hS (by decide) (by decide) dX5_hang_57 (⟨u, r, b, hu, rfl, hr9, rfl, hb9, eb, c_33_1, rfl, hP⟩)
  · exact kthrow F hl9 hS hl.1 (cls := xIS) (text := "another house") (ik := 72) (is := 194) (ic := 76) (by decide +kernel) wCL_X5_72 wIN_java_lang_IllegalStateException tx_194 (by simp [nwCast]) is_good is_bad is_ot dX5_hang_36 dX5_hang_39 dX5_hang_40 dX5_hang_42 dX5_hang_45 (by decide) (Nat.le_of_ble_eq_true rfl) (by decide) (by decide) (by decide) (by decide) (fun H1 hz hq => ⟨hP.old ⟨hz, fun q h _ => hq q h⟩, Or.inr (Or.inr (⟨rfl, u, r, b, hu, rfl, hr9, rfl, hb9, eb, c_33_1⟩))⟩)

set_option maxHeartbeats 4000000 in
set_option maxRecDepth 100000 in
theorem kP_lend (l : Launch) (G : GE) (A : Nat → Prop) (ad : Nat → Nat → Nat) (σ : SG) (qs : Nat → List Nat) (nT nW : Nat) (hl9 : l.stackTraces = false) (vw vr vv : Int32) (hnW : nW ≤ 12) : KM l G A yX5_lend cX5_lend 6 (some .int) (rmL 6 4 24) [.ref (ad 0 0), .int vw, .int vr, .int vv] (PX G A ad σ qs nT nW) (fun v H => ∃ u r, u < nW ∧ vw = nI u ∧ r < 12 ∧ vr = nI r ∧ (¬ vv < 0 ∧ vv ≤ 1000) ∧ (σ 20 u = 0 ∧ ¬ nI (r / 3) = σ 18 u) ∧ v = some (.int (nI (r / 3))) ∧ PX G A ad (up (up (up (up σ 20 u 1) 21 u vv) 22 u 0) 19 u (nI r)) qs nT nW H) (fun E H => PX G A ad σ qs nT nW H ∧ ((E = xIO ∧ ¬ (∃ j, j < nW ∧ vw = nI j)) ∨ (E = xIO ∧ ¬ (∃ j, j < 12 ∧ vr = nI j)) ∨ (E = xIA ∧ (∃ u r, u < nW ∧ vw = nI u ∧ r < 12 ∧ vr = nI r) ∧ (vv < 0 ∨ ¬ vv ≤ 1000)) ∨ (E = xIS ∧ ∃ u r, u < nW ∧ vw = nI u ∧ r < 12 ∧ vr = nI r ∧ ¬ (σ 20 u = 0 ∧ ¬ nI (r / 3) = σ 18 u)))) := by
  refine KM.of (by decide) (Nat.le_of_ble_eq_true rfl) ?_
  intro p e s m args below meth c F hP ls hl
  have hx := F.1.1
  have hb := F.1.2.1
  have hown := F.1.2.2.2.1
  have hts := F.1.2.2.2.2
  have hr := F.2.1
  have hlocks := F.2.2.1
  have hE := F.2.2.2.2.2.1
  have hA := F.2.2.2.2.2.2
  have hS : va_S A s.heap s.heap [] := va_S.rf
  have hl : lv_has ls 6 [(0, .ref (ad 0 0)), (1, .int vw), (2, .int vr), (3, .int vv)] := hl
  have hP := hP
  refine lv_aload_n hx hb dX5_lend_0 rfl (lv_at hl 0 rfl) ?_
  refine lv_iload_n hx hb dX5_lend_1 rfl (lv_at hl 1 rfl) ?_
  refine kcallV (n := 1) F (kX5_workAt l G (fun q => s.heap.size ≤ q) A ad σ qs nT nW hl9 vw hnW) wML_X5_189 wIM_X5_workAt wSE_X5_X5_workAt wIN_X5 wCO_X5_workAt (by decide) rfl ⟨by decide, by decide⟩ (frec F (hP.main rfl) _ rfl) hS (fun q h => hA q (Nat.le_trans hS.1 h)) (fun q h => h) hP rfl hl.1 (Nat.le_of_ble_eq_true rfl) dX5_lend_2 ⟨by decide, by decide⟩ (fun E ce q9 H1 locs1 hx9 hk9 hS hc9 hv9 hf9 => kout (G := G) F.2.2.2.2.1 hlocks hS (by decide) (by decide) hc9 hv9 hf9 (⟨hP.old hk9, Or.inl (⟨hx9.1, hx9.2⟩)⟩)) (fun v H1 locs1 hv hk hS => ?_)
  have hP := hP.old hk
  obtain ⟨u, hu, rfl, rfl⟩ := hv
  refine lv_astore (lv' := [(4, .ref (ad 9 u)), (0, .ref (ad 0 0)), (1, .int (nI u)), (2, .int vr), (3, .int vv)]) hx hb dX5_lend_5 hl (by decide) rfl (fun ls hl => ?_)
  refine lv_aload_n hx hb dX5_lend_7 rfl (lv_at hl 1 rfl) ?_
  refine lv_iload_n hx hb dX5_lend_8 rfl (lv_at hl 3 rfl) ?_
  refine kcallV (n := 1) F (kX5_roomAt l G (fun q => H1.size ≤ q) A ad σ qs nT nW hl9 vr) wML_X5_127 wIM_X5_roomAt wSE_X5_X5_roomAt wIN_X5 wCO_X5_roomAt (by decide) rfl ⟨by decide, by decide⟩ (frec F (hP.main rfl) _ rfl) hS (fun q h => hA q (Nat.le_trans hS.1 h)) (fun q h => h) hP rfl hl.1 (Nat.le_of_ble_eq_true rfl) dX5_lend_9 ⟨by decide, by decide⟩ (fun E ce q9 H1 locs1 hx9 hk9 hS hc9 hv9 hf9 => kout (G := G) F.2.2.2.2.1 hlocks hS (by decide) (by decide) hc9 hv9 hf9 (⟨hP.old hk9, Or.inr (Or.inl (⟨hx9.1, hx9.2⟩))⟩)) (fun v H1 locs1 hv hk hS => ?_)
  have hP := hP.old hk
  obtain ⟨r, hr9, rfl, rfl⟩ := hv
  refine lv_astore (lv' := [(5, .ref (ad 5 r)), (4, .ref (ad 9 u)), (0, .ref (ad 0 0)), (1, .int (nI u)), (2, .int (nI r)), (3, .int vv)]) hx hb dX5_lend_12 hl (by decide) rfl (fun ls hl => ?_)
  refine lv_iload_n hx hb dX5_lend_14 rfl (lv_at hl 5 rfl) ?_
  refine lv_iconst (v := 0) hx hb dX5_lend_15 (by decide) ?_
  refine lv_sipush (v := 1000) hx hb dX5_lend_16 (by decide) ?_
  refine kcallS (n := 3) F (kX5_checkRange l G (fun q => H1.size ≤ q) hl9 vv 0 1000) wML_X5_46 wST_X5_checkRange wIN_X5 wCO_X5_checkRange (by decide) rfl ⟨by decide, by decide⟩ hS (fun q h => hA q (Nat.le_trans hS.1 h)) (fun q h => h) trivial rfl hl.1 (Nat.le_of_ble_eq_true rfl) dX5_lend_19 ⟨by decide, by decide⟩ (fun E ce q9 H1 locs1 hx9 hk9 hS hc9 hv9 hf9 => kout (G := G) F.2.2.2.2.1 hlocks hS (by decide) (by decide) hc9 hv9 hf9 (⟨hP.old hk9, Or.inr (Or.inr (Or.inl (⟨hx9.1, ⟨⟨u, r, hu, rfl, hr9, rfl⟩, hx9.2⟩⟩)))⟩)) (fun v H1 locs1 hv hk hS => ?_)
  obtain ⟨rfl, h1, h2⟩ := hv
  have hP := hP.old hk
  refine lv_aload hx hb dX5_lend_22 (lv_at hl 1 rfl) ?_
  refine gX4 F (hP.work hu) 3 (by decide) wFL_X5_196 (fun _ h9 => h9) (v := .int (σ 20 u)) rfl dX5_lend_24 ?_
  refine lv_if_ne (tgt := 43) hx hb dX5_lend_27 (by decide) (fun c_27_1 => ?_) (fun c_27_1 => ?_)
  · exact kthrow F hl9 hS hl.1 (cls := xIS) (text := "lent, or its own house") (ik := 72) (is := 200) (ic := 76) (by decide +kernel) wCL_X5_72 wIN_java_lang_IllegalStateException tx_200 (by simp [nwCast]) is_good is_bad is_ot dX5_lend_43 dX5_lend_46 dX5_lend_47 dX5_lend_49 dX5_lend_52 (by decide) (Nat.le_of_ble_eq_true rfl) (by decide) (by decide) (by decide) (by decide) (fun H1 hz hq => ⟨hP.old ⟨hz, fun q h _ => hq q h⟩, Or.inr (Or.inr (Or.inr (⟨rfl, u, r, hu, rfl, hr9, rfl, fun z => c_27_1 z.1⟩)))⟩)
  · refine lv_aload hx hb dX5_lend_30 (lv_at hl 0 rfl) ?_
    refine gX1 F (hP.room hr9) 1 (by decide) wFL_X5_148 (fun _ h9 => h9) (v := .int (nI (r / 3))) rfl dX5_lend_32 ?_
    refine lv_aload hx hb dX5_lend_35 (lv_at hl 1 rfl) ?_
    refine gX4 F (hP.work hu) 1 (by decide) wFL_X5_199 (fun _ h9 => h9) (v := .int (σ 18 u)) rfl dX5_lend_37 ?_
    refine lv_icmp_ne (tgt := 53) hx hb dX5_lend_40 (by decide) (fun c_40_2 => ?_) (fun c_40_2 => ?_)
    · refine lv_aload hx hb dX5_lend_53 (lv_at hl 1 rfl) ?_
      refine lv_iconst (v := 1) hx hb dX5_lend_55 (by decide) ?_
      refine pX4 F hS (hP.work hu) (hP.owork hu) 3 (by decide) wFL_X5_196 (fun _ h9 => h9) rfl rfl rfl (by simp) dX5_lend_56 (fun H1 locs1 he1 z1 oq1 hS => ?_)
      have hP := hP.p20 hu he1 oq1
      refine lv_aload hx hb dX5_lend_59 (lv_at hl 1 rfl) ?_
      refine lv_iload_n hx hb dX5_lend_61 rfl (lv_at hl 5 rfl) ?_
      refine pX4 F hS (hP.work hu) (hP.owork hu) 4 (by decide) wFL_X5_202 (fun _ h9 => h9) rfl rfl rfl (by simp) dX5_lend_62 (fun H1 locs1 he1 z1 oq1 hS => ?_)
      have hP := hP.p21 hu he1 oq1
      refine lv_aload hx hb dX5_lend_65 (lv_at hl 1 rfl) ?_
      refine lv_iconst (v := 0) hx hb dX5_lend_67 (by decide) ?_
      refine pX4 F hS (hP.work hu) (hP.owork hu) 5 (by decide) wFL_X5_205 (fun _ h9 => h9) rfl rfl rfl (by simp) dX5_lend_68 (fun H1 locs1 he1 z1 oq1 hS => ?_)
      have hP := hP.p22 hu he1 oq1
      refine lv_aload hx hb dX5_lend_71 (lv_at hl 1 rfl) ?_
      refine lv_aload hx hb dX5_lend_73 (lv_at hl 0 rfl) ?_
      refine gX1 F (hP.room hr9) 0 (by decide) wFL_X5_170 (fun _ h9 => h9) (v := .int (nI r)) rfl dX5_lend_75 ?_
      refine pX4 F hS (hP.work hu) (hP.owork hu) 2 (by decide) wFL_X5_193 (fun _ h9 => h9) rfl rfl rfl (by simp) dX5_lend_78 (fun H1 locs1 he1 z1 oq1 hS => ?_)
      have hP := hP.p19 hu he1 oq1
      refine lv_aload hx hb dX5_lend_81 (lv_at hl 0 rfl) ?_
      refine gX1 F (hP.room hr9) 1 (by decide) wFL_X5_148 (fun _ h9 => h9) (v := .int (nI (r / 3))) rfl dX5_lend_83 ?_
      exact kiret hx hb hr hlocks hS (by decide) (by decide) dX5_lend_86 (⟨u, r, hu, rfl, hr9, rfl, ⟨h1, h2⟩, ⟨c_27_1, c_40_2⟩, rfl, hP⟩)
    · exact kthrow F hl9 hS hl.1 (cls := xIS) (text := "lent, or its own house") (ik := 72) (is := 200) (ic := 76) (by decide +kernel) wCL_X5_72 wIN_java_lang_IllegalStateException tx_200 (by simp [nwCast]) is_good is_bad is_ot dX5_lend_43 dX5_lend_46 dX5_lend_47 dX5_lend_49 dX5_lend_52 (by decide) (Nat.le_of_ble_eq_true rfl) (by decide) (by decide) (by decide) (by decide) (fun H1 hz hq => ⟨hP.old ⟨hz, fun q h _ => hq q h⟩, Or.inr (Or.inr (Or.inr (⟨rfl, u, r, hu, rfl, hr9, rfl, fun z => z.2 c_40_2⟩)))⟩)

set_option maxHeartbeats 4000000 in
set_option maxRecDepth 100000 in
theorem kP_bringHome (l : Launch) (G : GE) (A : Nat → Prop) (ad : Nat → Nat → Nat) (σ : SG) (qs : Nat → List Nat) (nT nW : Nat) (hl9 : l.stackTraces = false) (vw vr : Int32) (hnW : nW ≤ 12) : KM l G A yX5_bringHome cX5_bringHome 5 (some .int) (rmL 6 3 18) [.ref (ad 0 0), .int vw, .int vr] (PX G A ad σ qs nT nW) (fun v H => ∃ u r, u < nW ∧ vw = nI u ∧ r < 12 ∧ vr = nI r ∧ (¬ σ 20 u = 0 ∧ nI (r / 3) = σ 18 u) ∧ v = some (.int (σ 22 u)) ∧ PX G A ad (up (up σ 20 u 0) 19 u (nI r)) qs nT nW H) (fun E H => PX G A ad σ qs nT nW H ∧ ((E = xIO ∧ ¬ (∃ j, j < nW ∧ vw = nI j)) ∨ (E = xIO ∧ ¬ (∃ j, j < 12 ∧ vr = nI j)) ∨ (E = xIS ∧ ∃ u r, u < nW ∧ vw = nI u ∧ r < 12 ∧ vr = nI r ∧ ¬ (¬ σ 20 u = 0 ∧ nI (r / 3) = σ 18 u)))) := by
  refine KM.of (by decide) (Nat.le_of_ble_eq_true rfl) ?_
  intro p e s m args below meth c F hP ls hl
  have hx := F.1.1
  have hb := F.1.2.1
  have hown := F.1.2.2.2.1
  have hts := F.1.2.2.2.2
  have hr := F.2.1
  have hlocks := F.2.2.1
  have hE := F.2.2.2.2.2.1
  have hA := F.2.2.2.2.2.2
  have hS : va_S A s.heap s.heap [] := va_S.rf
  have hl : lv_has ls 5 [(0, .ref (ad 0 0)), (1, .int vw), (2, .int vr)] := hl
  have hP := hP
  refine lv_aload_n hx hb dX5_bringHome_0 rfl (lv_at hl 0 rfl) ?_
  refine lv_iload_n hx hb dX5_bringHome_1 rfl (lv_at hl 1 rfl) ?_
  refine kcallV (n := 1) F (kX5_workAt l G (fun q => s.heap.size ≤ q) A ad σ qs nT nW hl9 vw hnW) wML_X5_189 wIM_X5_workAt wSE_X5_X5_workAt wIN_X5 wCO_X5_workAt (by decide) rfl ⟨by decide, by decide⟩ (frec F (hP.main rfl) _ rfl) hS (fun q h => hA q (Nat.le_trans hS.1 h)) (fun q h => h) hP rfl hl.1 (Nat.le_of_ble_eq_true rfl) dX5_bringHome_2 ⟨by decide, by decide⟩ (fun E ce q9 H1 locs1 hx9 hk9 hS hc9 hv9 hf9 => kout (G := G) F.2.2.2.2.1 hlocks hS (by decide) (by decide) hc9 hv9 hf9 (⟨hP.old hk9, Or.inl (⟨hx9.1, hx9.2⟩)⟩)) (fun v H1 locs1 hv hk hS => ?_)
  have hP := hP.old hk
  obtain ⟨u, hu, rfl, rfl⟩ := hv
  refine lv_astore_n (lv' := [(3, .ref (ad 9 u)), (0, .ref (ad 0 0)), (1, .int (nI u)), (2, .int vr)]) hx hb dX5_bringHome_5 rfl hl (by decide) rfl (fun ls hl => ?_)
  refine lv_aload_n hx hb dX5_bringHome_6 rfl (lv_at hl 1 rfl) ?_
  refine lv_iload_n hx hb dX5_bringHome_7 rfl (lv_at hl 3 rfl) ?_
  refine kcallV (n := 1) F (kX5_roomAt l G (fun q => H1.size ≤ q) A ad σ qs nT nW hl9 vr) wML_X5_127 wIM_X5_roomAt wSE_X5_X5_roomAt wIN_X5 wCO_X5_roomAt (by decide) rfl ⟨by decide, by decide⟩ (frec F (hP.main rfl) _ rfl) hS (fun q h => hA q (Nat.le_trans hS.1 h)) (fun q h => h) hP rfl hl.1 (Nat.le_of_ble_eq_true rfl) dX5_bringHome_8 ⟨by decide, by decide⟩ (fun E ce q9 H1 locs1 hx9 hk9 hS hc9 hv9 hf9 => kout (G := G) F.2.2.2.2.1 hlocks hS (by decide) (by decide) hc9 hv9 hf9 (⟨hP.old hk9, Or.inr (Or.inl (⟨hx9.1, hx9.2⟩))⟩)) (fun v H1 locs1 hv hk hS => ?_)
  have hP := hP.old hk
  obtain ⟨r, hr9, rfl, rfl⟩ := hv
  refine lv_astore (lv' := [(4, .ref (ad 5 r)), (3, .ref (ad 9 u)), (0, .ref (ad 0 0)), (1, .int (nI u)), (2, .int (nI r))]) hx hb dX5_bringHome_11 hl (by decide) rfl (fun ls hl => ?_)
  refine lv_aload_n hx hb dX5_bringHome_13 rfl (lv_at hl 1 rfl) ?_
  refine gX4 F (hP.work hu) 3 (by decide) wFL_X5_196 (fun _ h9 => h9) (v := .int (σ 20 u)) rfl dX5_bringHome_14 ?_
  refine lv_if_eq (tgt := 32) hx hb dX5_bringHome_17 (by decide) (fun c_17_1 => ?_) (fun c_17_1 => ?_)
  · exact kthrow F hl9 hS hl.1 (cls := xIS) (text := "not lent, or not its own house") (ik := 72) (is := 208) (ic := 76) (by decide +kernel) wCL_X5_72 wIN_java_lang_IllegalStateException tx_208 (by simp [nwCast]) is_good is_bad is_ot dX5_bringHome_32 dX5_bringHome_35 dX5_bringHome_36 dX5_bringHome_38 dX5_bringHome_41 (by decide) (Nat.le_of_ble_eq_true rfl) (by decide) (by decide) (by decide) (by decide) (fun H1 hz hq => ⟨hP.old ⟨hz, fun q h _ => hq q h⟩, Or.inr (Or.inr (⟨rfl, u, r, hu, rfl, hr9, rfl, fun z => z.1 c_17_1⟩))⟩)
  · refine lv_aload hx hb dX5_bringHome_20 (lv_at hl 0 rfl) ?_
    refine gX1 F (hP.room hr9) 1 (by decide) wFL_X5_148 (fun _ h9 => h9) (v := .int (nI (r / 3))) rfl dX5_bringHome_22 ?_
    refine lv_aload_n hx hb dX5_bringHome_25 rfl (lv_at hl 1 rfl) ?_
    refine gX4 F (hP.work hu) 1 (by decide) wFL_X5_199 (fun _ h9 => h9) (v := .int (σ 18 u)) rfl dX5_bringHome_26 ?_
    refine lv_icmp_eq (tgt := 42) hx hb dX5_bringHome_29 (by decide) (fun c_29_2 => ?_) (fun c_29_2 => ?_)
    · refine lv_aload_n hx hb dX5_bringHome_42 rfl (lv_at hl 1 rfl) ?_
      refine lv_iconst (v := 0) hx hb dX5_bringHome_43 (by decide) ?_
      refine pX4 F hS (hP.work hu) (hP.owork hu) 3 (by decide) wFL_X5_196 (fun _ h9 => h9) rfl rfl rfl (by simp) dX5_bringHome_44 (fun H1 locs1 he1 z1 oq1 hS => ?_)
      have hP := hP.p20 hu he1 oq1
      refine lv_aload_n hx hb dX5_bringHome_47 rfl (lv_at hl 1 rfl) ?_
      refine lv_aload hx hb dX5_bringHome_48 (lv_at hl 0 rfl) ?_
      refine gX1 F (hP.room hr9) 0 (by decide) wFL_X5_170 (fun _ h9 => h9) (v := .int (nI r)) rfl dX5_bringHome_50 ?_
      refine pX4 F hS (hP.work hu) (hP.owork hu) 2 (by decide) wFL_X5_193 (fun _ h9 => h9) rfl rfl rfl (by simp) dX5_bringHome_53 (fun H1 locs1 he1 z1 oq1 hS => ?_)
      have hP := hP.p19 hu he1 oq1
      refine lv_aload_n hx hb dX5_bringHome_56 rfl (lv_at hl 1 rfl) ?_
      refine gX4 F (hP.work hu) 5 (by decide) wFL_X5_205 (fun _ h9 => h9) (v := .int (σ 22 u)) rfl dX5_bringHome_57 ?_
      exact kiret hx hb hr hlocks hS (by decide) (by decide) dX5_bringHome_60 (⟨u, r, hu, rfl, hr9, rfl, ⟨c_17_1, c_29_2⟩, rfl, hP⟩)
    · exact kthrow F hl9 hS hl.1 (cls := xIS) (text := "not lent, or not its own house") (ik := 72) (is := 208) (ic := 76) (by decide +kernel) wCL_X5_72 wIN_java_lang_IllegalStateException tx_208 (by simp [nwCast]) is_good is_bad is_ot dX5_bringHome_32 dX5_bringHome_35 dX5_bringHome_36 dX5_bringHome_38 dX5_bringHome_41 (by decide) (Nat.le_of_ble_eq_true rfl) (by decide) (by decide) (by decide) (by decide) (fun H1 hz hq => ⟨hP.old ⟨hz, fun q h _ => hq q h⟩, Or.inr (Or.inr (⟨rfl, u, r, hu, rfl, hr9, rfl, fun z => c_29_2 z.2⟩))⟩)

