set_option maxHeartbeats 4000000 in
set_option maxRecDepth 100000 in
theorem kP_day (l : Launch) (G : GE) (A1 A : Nat → Prop) (ad : Nat → Nat → Nat) (σ : SG) (qs : Nat → List Nat) (nT nW : Nat) (hl9 : l.stackTraces = false)  : KM l G A1 yX5_day cX5_day 1 (some .int) (rmL 1 0 0) [.ref (ad 0 0)] (PX G A ad σ qs nT nW) (fun v _ => v = some (.int (σ 25 0))) (fun _ _ => False) := by
  refine KM.of (by decide) (Nat.le_of_ble_eq_true rfl) ?_
  intro p e s m args below meth c F hP ls hl
  have hx := F.1.1
  have hb := F.1.2.1
  have hown := F.1.2.2.2.1
  have hts := F.1.2.2.2.2
  have hr := F.2.1
  have hlocks := F.2.2.1
  have hE := F.2.2.2.2.2.1
  have hA := F.2.2.2.2.2.2
  have hS : va_S A1 s.heap s.heap [] := va_S.rf
  have hl : lv_has ls 1 [(0, .ref (ad 0 0))] := hl
  have hP := hP
  refine lv_aload_n hx hb dX5_day_0 rfl (lv_at hl 0 rfl) ?_
  refine gX5 F (hP.main rfl) 5 (by decide) wFL_X5_65 (fun _ h9 => h9) (v := .int (σ 25 0)) rfl dX5_day_1 ?_
  exact kiret hx hb hr hlocks hS (by decide) (by decide) dX5_day_4 (rfl)

set_option maxHeartbeats 4000000 in
set_option maxRecDepth 100000 in
theorem kP_takings (l : Launch) (G : GE) (A1 A : Nat → Prop) (ad : Nat → Nat → Nat) (σ : SG) (qs : Nat → List Nat) (nT nW : Nat) (hl9 : l.stackTraces = false)  : KM l G A1 yX5_takings cX5_takings 1 (some .int) (rmL 1 0 0) [.ref (ad 0 0)] (PX G A ad σ qs nT nW) (fun v _ => v = some (.int (σ 27 0))) (fun _ _ => False) := by
  refine KM.of (by decide) (Nat.le_of_ble_eq_true rfl) ?_
  intro p e s m args below meth c F hP ls hl
  have hx := F.1.1
  have hb := F.1.2.1
  have hown := F.1.2.2.2.1
  have hts := F.1.2.2.2.2
  have hr := F.2.1
  have hlocks := F.2.2.1
  have hE := F.2.2.2.2.2.1
  have hA := F.2.2.2.2.2.2
  have hS : va_S A1 s.heap s.heap [] := va_S.rf
  have hl : lv_has ls 1 [(0, .ref (ad 0 0))] := hl
  have hP := hP
  refine lv_aload_n hx hb dX5_takings_0 rfl (lv_at hl 0 rfl) ?_
  refine gX5 F (hP.main rfl) 7 (by decide) wFL_X5_113 (fun _ h9 => h9) (v := .int (σ 27 0)) rfl dX5_takings_1 ?_
  exact kiret hx hb hr hlocks hS (by decide) (by decide) dX5_takings_4 (rfl)

set_option maxHeartbeats 4000000 in
set_option maxRecDepth 100000 in
theorem kP_tickets (l : Launch) (G : GE) (A1 A : Nat → Prop) (ad : Nat → Nat → Nat) (σ : SG) (qs : Nat → List Nat) (nT nW : Nat) (hl9 : l.stackTraces = false)  : KM l G A1 yX5_tickets cX5_tickets 1 (some .int) (rmL 2 0 0) [.ref (ad 0 0)] (PX G A ad σ qs nT nW) (fun v _ => v = some (.int (nI nT))) (fun _ _ => False) := by
  refine KM.of (by decide) (Nat.le_of_ble_eq_true rfl) ?_
  intro p e s m args below meth c F hP ls hl
  have hx := F.1.1
  have hb := F.1.2.1
  have hown := F.1.2.2.2.1
  have hts := F.1.2.2.2.2
  have hr := F.2.1
  have hlocks := F.2.2.1
  have hE := F.2.2.2.2.2.1
  have hA := F.2.2.2.2.2.2
  have hS : va_S A1 s.heap s.heap [] := va_S.rf
  have hl : lv_has ls 1 [(0, .ref (ad 0 0))] := hl
  have hP := hP
  refine lv_aload_n hx hb dX5_tickets_0 rfl (lv_at hl 0 rfl) ?_
  refine gX5 F (hP.main rfl) 3 (by decide) wFL_X5_30 (fun _ h9 => h9) (v := .ref (ad 7 12)) rfl dX5_tickets_1 ?_
  refine kcallV (n := 0) F (cQ_size l G (fun q => s.heap.size ≤ q) A ad σ qs nT nW 12 (by decide)) wML_X5_173 wIM_Jx4a65c_size_8abf5 wSE_Jx4a65c_Jx4a65c_size_8abf5 wIN_Jx4a65c wCO_Jx4a65c_size_8abf5 (by decide) rfl ⟨by decide, by decide⟩ (by obtain ⟨_, _, h⟩ := hP.lobj (i := 12) (by decide); exact frec F h _ rfl) hS (fun q h => hA q (Nat.le_trans hS.1 h)) (fun q h => h) hP rfl hl.1 (Nat.le_of_ble_eq_true rfl) dX5_tickets_4 ⟨by decide, by decide⟩ (fun E ce q9 H1 locs1 hx9 _ _ _ _ _ => hx9.elim) (fun v H1 locs1 hv hk hS => ?_)
  have hP := hP.old hk
  rw [lsX_12, List.length_map, List.length_range] at hv
  subst hv
  exact kiret hx hb hr hlocks hS (by decide) (by decide) dX5_tickets_7 (rfl)

set_option maxHeartbeats 4000000 in
set_option maxRecDepth 100000 in
theorem kP_seen (l : Launch) (G : GE) (A1 A : Nat → Prop) (ad : Nat → Nat → Nat) (σ : SG) (qs : Nat → List Nat) (nT nW : Nat) (hl9 : l.stackTraces = false) (vt : Int32) (hnT : nT ≤ 80) : KM l G A1 yX5_seen cX5_seen 2 (some .int) (rmL 5 1 6) [.ref (ad 0 0), .int vt] (PX G A ad σ qs nT nW) (fun v _ => ∃ t, t < nT ∧ vt = nI t ∧ v = some (.int (σ 15 t))) (fun E _ => (E = xIO ∧ ¬ (∃ j, j < nT ∧ vt = nI j))) := by
  refine KM.of (by decide) (Nat.le_of_ble_eq_true rfl) ?_
  intro p e s m args below meth c F hP ls hl
  have hx := F.1.1
  have hb := F.1.2.1
  have hown := F.1.2.2.2.1
  have hts := F.1.2.2.2.2
  have hr := F.2.1
  have hlocks := F.2.2.1
  have hE := F.2.2.2.2.2.1
  have hA := F.2.2.2.2.2.2
  have hS : va_S A1 s.heap s.heap [] := va_S.rf
  have hl : lv_has ls 2 [(0, .ref (ad 0 0)), (1, .int vt)] := hl
  have hP := hP
  refine lv_aload_n hx hb dX5_seen_0 rfl (lv_at hl 0 rfl) ?_
  refine lv_iload_n hx hb dX5_seen_1 rfl (lv_at hl 1 rfl) ?_
  refine kcallV (n := 1) F (kX5_ticketAt l G (fun q => s.heap.size ≤ q) A ad σ qs nT nW hl9 vt hnT) wML_X5_87 wIM_X5_ticketAt wSE_X5_X5_ticketAt wIN_X5 wCO_X5_ticketAt (by decide) rfl ⟨by decide, by decide⟩ (frec F (hP.main rfl) _ rfl) hS (fun q h => hA q (Nat.le_trans hS.1 h)) (fun q h => h) hP rfl hl.1 (Nat.le_of_ble_eq_true rfl) dX5_seen_2 ⟨by decide, by decide⟩ (fun E ce q9 H1 locs1 hx9 hk9 hS hc9 hv9 hf9 => kout (G := G) F.2.2.2.2.1 hlocks hS (by decide) (by decide) hc9 hv9 hf9 (⟨hx9.1, hx9.2⟩)) (fun v H1 locs1 hv hk hS => ?_)
  have hP := hP.old hk
  obtain ⟨t, ht, rfl, rfl⟩ := hv
  refine gX2 F (hP.tick ht) 6 (by decide) wFL_X5_95 (fun _ h9 => h9) (v := .int (σ 15 t)) rfl dX5_seen_5 ?_
  exact kiret hx hb hr hlocks hS (by decide) (by decide) dX5_seen_8 (⟨t, ht, rfl, rfl⟩)

set_option maxHeartbeats 4000000 in
set_option maxRecDepth 100000 in
theorem kP_inside (l : Launch) (G : GE) (A1 A : Nat → Prop) (ad : Nat → Nat → Nat) (σ : SG) (qs : Nat → List Nat) (nT nW : Nat) (hl9 : l.stackTraces = false) (vr : Int32) : KM l G A1 yX5_inside cX5_inside 2 (some .int) (rmL 5 1 6) [.ref (ad 0 0), .int vr] (PX G A ad σ qs nT nW) (fun v _ => ∃ r, r < 12 ∧ vr = nI r ∧ v = some (.int (σ 7 r))) (fun E _ => (E = xIO ∧ ¬ (∃ j, j < 12 ∧ vr = nI j))) := by
  refine KM.of (by decide) (Nat.le_of_ble_eq_true rfl) ?_
  intro p e s m args below meth c F hP ls hl
  have hx := F.1.1
  have hb := F.1.2.1
  have hown := F.1.2.2.2.1
  have hts := F.1.2.2.2.2
  have hr := F.2.1
  have hlocks := F.2.2.1
  have hE := F.2.2.2.2.2.1
  have hA := F.2.2.2.2.2.2
  have hS : va_S A1 s.heap s.heap [] := va_S.rf
  have hl : lv_has ls 2 [(0, .ref (ad 0 0)), (1, .int vr)] := hl
  have hP := hP
  refine lv_aload_n hx hb dX5_inside_0 rfl (lv_at hl 0 rfl) ?_
  refine lv_iload_n hx hb dX5_inside_1 rfl (lv_at hl 1 rfl) ?_
  refine kcallV (n := 1) F (kX5_roomAt l G (fun q => s.heap.size ≤ q) A ad σ qs nT nW hl9 vr) wML_X5_127 wIM_X5_roomAt wSE_X5_X5_roomAt wIN_X5 wCO_X5_roomAt (by decide) rfl ⟨by decide, by decide⟩ (frec F (hP.main rfl) _ rfl) hS (fun q h => hA q (Nat.le_trans hS.1 h)) (fun q h => h) hP rfl hl.1 (Nat.le_of_ble_eq_true rfl) dX5_inside_2 ⟨by decide, by decide⟩ (fun E ce q9 H1 locs1 hx9 hk9 hS hc9 hv9 hf9 => kout (G := G) F.2.2.2.2.1 hlocks hS (by decide) (by decide) hc9 hv9 hf9 (⟨hx9.1, hx9.2⟩)) (fun v H1 locs1 hv hk hS => ?_)
  have hP := hP.old hk
  obtain ⟨r, hr9, rfl, rfl⟩ := hv
  refine gX1 F (hP.room hr9) 4 (by decide) wFL_X5_138 (fun _ h9 => h9) (v := .int (σ 7 r)) rfl dX5_inside_5 ?_
  exact kiret hx hb hr hlocks hS (by decide) (by decide) dX5_inside_8 (⟨r, hr9, rfl, rfl⟩)

set_option maxHeartbeats 4000000 in
set_option maxRecDepth 100000 in
theorem kP_views (l : Launch) (G : GE) (A1 A : Nat → Prop) (ad : Nat → Nat → Nat) (σ : SG) (qs : Nat → List Nat) (nT nW : Nat) (hl9 : l.stackTraces = false) (vw : Int32) (hnW : nW ≤ 12) : KM l G A1 yX5_views cX5_views 2 (some .int) (rmL 5 1 6) [.ref (ad 0 0), .int vw] (PX G A ad σ qs nT nW) (fun v _ => ∃ u, u < nW ∧ vw = nI u ∧ v = some (.int (σ 24 u))) (fun E _ => (E = xIO ∧ ¬ (∃ j, j < nW ∧ vw = nI j))) := by
  refine KM.of (by decide) (Nat.le_of_ble_eq_true rfl) ?_
  intro p e s m args below meth c F hP ls hl
  have hx := F.1.1
  have hb := F.1.2.1
  have hown := F.1.2.2.2.1
  have hts := F.1.2.2.2.2
  have hr := F.2.1
  have hlocks := F.2.2.1
  have hE := F.2.2.2.2.2.1
  have hA := F.2.2.2.2.2.2
  have hS : va_S A1 s.heap s.heap [] := va_S.rf
  have hl : lv_has ls 2 [(0, .ref (ad 0 0)), (1, .int vw)] := hl
  have hP := hP
  refine lv_aload_n hx hb dX5_views_0 rfl (lv_at hl 0 rfl) ?_
  refine lv_iload_n hx hb dX5_views_1 rfl (lv_at hl 1 rfl) ?_
  refine kcallV (n := 1) F (kX5_workAt l G (fun q => s.heap.size ≤ q) A ad σ qs nT nW hl9 vw hnW) wML_X5_189 wIM_X5_workAt wSE_X5_X5_workAt wIN_X5 wCO_X5_workAt (by decide) rfl ⟨by decide, by decide⟩ (frec F (hP.main rfl) _ rfl) hS (fun q h => hA q (Nat.le_trans hS.1 h)) (fun q h => h) hP rfl hl.1 (Nat.le_of_ble_eq_true rfl) dX5_views_2 ⟨by decide, by decide⟩ (fun E ce q9 H1 locs1 hx9 hk9 hS hc9 hv9 hf9 => kout (G := G) F.2.2.2.2.1 hlocks hS (by decide) (by decide) hc9 hv9 hf9 (⟨hx9.1, hx9.2⟩)) (fun v H1 locs1 hv hk hS => ?_)
  have hP := hP.old hk
  obtain ⟨u, hu, rfl, rfl⟩ := hv
  refine gX4 F (hP.work hu) 7 (by decide) wFL_X5_239 (fun _ h9 => h9) (v := .int (σ 24 u)) rfl dX5_views_5 ?_
  exact kiret hx hb hr hlocks hS (by decide) (by decide) dX5_views_8 (⟨u, hu, rfl, rfl⟩)

set_option maxHeartbeats 4000000 in
set_option maxRecDepth 100000 in
theorem kP_money (l : Launch) (G : GE) (A1 A : Nat → Prop) (ad : Nat → Nat → Nat) (σ : SG) (qs : Nat → List Nat) (nT nW : Nat) (hl9 : l.stackTraces = false) (hh : Int32) : KM l G A1 yX5_money cX5_money 2 (some .int) (rmL 5 1 6) [.ref (ad 0 0), .int hh] (PX G A ad σ qs nT nW) (fun v _ => ∃ j, j < 5 ∧ hh + 1 = nI j ∧ v = some (.int (σ 1 j))) (fun E _ => (E = xIO ∧ ¬ (∃ j, j < 5 ∧ hh + 1 = nI j))) := by
  refine KM.of (by decide) (Nat.le_of_ble_eq_true rfl) ?_
  intro p e s m args below meth c F hP ls hl
  have hx := F.1.1
  have hb := F.1.2.1
  have hown := F.1.2.2.2.1
  have hts := F.1.2.2.2.2
  have hr := F.2.1
  have hlocks := F.2.2.1
  have hE := F.2.2.2.2.2.1
  have hA := F.2.2.2.2.2.2
  have hS : va_S A1 s.heap s.heap [] := va_S.rf
  have hl : lv_has ls 2 [(0, .ref (ad 0 0)), (1, .int hh)] := hl
  have hP := hP
  refine lv_aload_n hx hb dX5_money_0 rfl (lv_at hl 0 rfl) ?_
  refine lv_iload_n hx hb dX5_money_1 rfl (lv_at hl 1 rfl) ?_
  refine kcallV (n := 1) F (kX5_tillAt l G (fun q => s.heap.size ≤ q) A ad σ qs nT nW hl9 hh) wML_X5_42 wIM_X5_tillAt wSE_X5_X5_tillAt wIN_X5 wCO_X5_tillAt (by decide) rfl ⟨by decide, by decide⟩ (frec F (hP.main rfl) _ rfl) hS (fun q h => hA q (Nat.le_trans hS.1 h)) (fun q h => h) hP rfl hl.1 (Nat.le_of_ble_eq_true rfl) dX5_money_2 ⟨by decide, by decide⟩ (fun E ce q9 H1 locs1 hx9 hk9 hS hc9 hv9 hf9 => kout (G := G) F.2.2.2.2.1 hlocks hS (by decide) (by decide) hc9 hv9 hf9 (⟨hx9.1, hx9.2⟩)) (fun v H1 locs1 hv hk hS => ?_)
  have hP := hP.old hk
  obtain ⟨j, hj, ej, rfl⟩ := hv
  refine gX3 F (hP.till hj) 1 (by decide) wFL_X5_259 (fun _ h9 => h9) (v := .int (σ 1 j)) rfl dX5_money_5 ?_
  exact kiret hx hb hr hlocks hS (by decide) (by decide) dX5_money_8 (⟨j, hj, ej, rfl⟩)

set_option maxHeartbeats 4000000 in
set_option maxRecDepth 100000 in
theorem kP_whereIs (l : Launch) (G : GE) (A1 A : Nat → Prop) (ad : Nat → Nat → Nat) (σ : SG) (qs : Nat → List Nat) (nT nW : Nat) (hl9 : l.stackTraces = false) (vt : Int32) (hnT : nT ≤ 80) : KM l G A1 yX5_whereIs cX5_whereIs 3 (some .int) (rmL 5 1 6) [.ref (ad 0 0), .int vt] (PX G A ad σ qs nT nW) (fun v _ => ∃ t, t < nT ∧ vt = nI t ∧ v = some (.int (if σ 17 t = 0 then σ 16 t else 100 + σ 16 t))) (fun E _ => (E = xIO ∧ ¬ (∃ j, j < nT ∧ vt = nI j))) := by
  refine KM.of (by decide) (Nat.le_of_ble_eq_true rfl) ?_
  intro p e s m args below meth c F hP ls hl
  have hx := F.1.1
  have hb := F.1.2.1
  have hown := F.1.2.2.2.1
  have hts := F.1.2.2.2.2
  have hr := F.2.1
  have hlocks := F.2.2.1
  have hE := F.2.2.2.2.2.1
  have hA := F.2.2.2.2.2.2
  have hS : va_S A1 s.heap s.heap [] := va_S.rf
  have hl : lv_has ls 3 [(0, .ref (ad 0 0)), (1, .int vt)] := hl
  have hP := hP
  refine lv_aload_n hx hb dX5_whereIs_0 rfl (lv_at hl 0 rfl) ?_
  refine lv_iload_n hx hb dX5_whereIs_1 rfl (lv_at hl 1 rfl) ?_
  refine kcallV (n := 1) F (kX5_ticketAt l G (fun q => s.heap.size ≤ q) A ad σ qs nT nW hl9 vt hnT) wML_X5_87 wIM_X5_ticketAt wSE_X5_X5_ticketAt wIN_X5 wCO_X5_ticketAt (by decide) rfl ⟨by decide, by decide⟩ (frec F (hP.main rfl) _ rfl) hS (fun q h => hA q (Nat.le_trans hS.1 h)) (fun q h => h) hP rfl hl.1 (Nat.le_of_ble_eq_true rfl) dX5_whereIs_2 ⟨by decide, by decide⟩ (fun E ce q9 H1 locs1 hx9 hk9 hS hc9 hv9 hf9 => kout (G := G) F.2.2.2.2.1 hlocks hS (by decide) (by decide) hc9 hv9 hf9 (⟨hx9.1, hx9.2⟩)) (fun v H1 locs1 hv hk hS => ?_)
  have hP := hP.old hk
  obtain ⟨t, ht, rfl, rfl⟩ := hv
  refine lv_astore_n (lv' := [(2, .ref (ad 10 t)), (0, .ref (ad 0 0)), (1, .int (nI t))]) hx hb dX5_whereIs_5 rfl hl (by decide) rfl (fun ls hl => ?_)
  refine lv_aload_n hx hb dX5_whereIs_6 rfl (lv_at hl 0 rfl) ?_
  refine gX2 F (hP.tick ht) 8 (by decide) wFL_X5_100 (fun _ h9 => h9) (v := .int (σ 17 t)) rfl dX5_whereIs_7 ?_
  refine lv_if_eq (tgt := 23) hx hb dX5_whereIs_10 (by decide) (fun c_10_1 => ?_) (fun c_10_1 => ?_)
  · refine lv_aload_n hx hb dX5_whereIs_23 rfl (lv_at hl 0 rfl) ?_
    refine gX2 F (hP.tick ht) 7 (by decide) wFL_X5_154 (fun _ h9 => h9) (v := .int (σ 16 t)) rfl dX5_whereIs_24 ?_
    exact kiret hx hb hr hlocks hS (by decide) (by decide) dX5_whereIs_27 (⟨t, ht, rfl, by rw [if_pos c_10_1]⟩)
  · refine lv_bipush (v := 100) hx hb dX5_whereIs_13 (by decide) ?_
    refine lv_aload_n hx hb dX5_whereIs_15 rfl (lv_at hl 0 rfl) ?_
    refine gX2 F (hP.tick ht) 7 (by decide) wFL_X5_154 (fun _ h9 => h9) (v := .int (σ 16 t)) rfl dX5_whereIs_16 ?_
    refine lv_iadd hx hb dX5_whereIs_19 ?_
    refine lv_goto (tgt := 27) hx hb dX5_whereIs_20 (by decide) ?_
    exact kiret hx hb hr hlocks hS (by decide) (by decide) dX5_whereIs_27 (⟨t, ht, rfl, by rw [if_neg c_10_1]⟩)

set_option maxHeartbeats 4000000 in
set_option maxRecDepth 100000 in
theorem kP_setPrice (l : Launch) (G : GE) (A : Nat → Prop) (ad : Nat → Nat → Nat) (σ : SG) (qs : Nat → List Nat) (nT nW : Nat) (hl9 : l.stackTraces = false) (hh vv : Int32) : KM l G A yX5_setPrice cX5_setPrice 5 (some .int) (rmL 5 2 12) [.ref (ad 0 0), .int hh, .int vv] (PX G A ad σ qs nT nW) (fun v H => ∃ j, j < 5 ∧ hh + 1 = nI j ∧ (¬ vv < 0 ∧ vv ≤ 10000) ∧ v = some (.int (σ 0 j)) ∧ PX G A ad (up σ 0 j vv) qs nT nW H) (fun E H => PX G A ad σ qs nT nW H ∧ ((E = xIO ∧ ¬ (∃ j, j < 5 ∧ hh + 1 = nI j)) ∨ (E = xIA ∧ (∃ j, j < 5 ∧ hh + 1 = nI j) ∧ (vv < 0 ∨ ¬ vv ≤ 10000)))) := by
  refine KM.of (by decide) (Nat.le_of_ble_eq_true rfl) ?_
  intro p e s m args below meth c F hP ls hl
  have hx := F.1.1
  have hb := F.1.2.1
  have hown := F.1.2.2.2.1
  have hts := F.1.2.2.2.2
  have hr := F.2.1
  have hlocks := F.2.2.1
  have hE := F.2.2.2.2.2.1
  have hA := F.2.2.2.2.2.2
  have hS : va_S A s.heap s.heap [] := va_S.rf
  have hl : lv_has ls 5 [(0, .ref (ad 0 0)), (1, .int hh), (2, .int vv)] := hl
  have hP := hP
  refine lv_aload_n hx hb dX5_setPrice_0 rfl (lv_at hl 0 rfl) ?_
  refine lv_iload_n hx hb dX5_setPrice_1 rfl (lv_at hl 1 rfl) ?_
  refine kcallV (n := 1) F (kX5_tillAt l G (fun q => s.heap.size ≤ q) A ad σ qs nT nW hl9 hh) wML_X5_42 wIM_X5_tillAt wSE_X5_X5_tillAt wIN_X5 wCO_X5_tillAt (by decide) rfl ⟨by decide, by decide⟩ (frec F (hP.main rfl) _ rfl) hS (fun q h => hA q (Nat.le_trans hS.1 h)) (fun q h => h) hP rfl hl.1 (Nat.le_of_ble_eq_true rfl) dX5_setPrice_2 ⟨by decide, by decide⟩ (fun E ce q9 H1 locs1 hx9 hk9 hS hc9 hv9 hf9 => kout (G := G) F.2.2.2.2.1 hlocks hS (by decide) (by decide) hc9 hv9 hf9 (⟨hP.old hk9, Or.inl (⟨hx9.1, hx9.2⟩)⟩)) (fun v H1 locs1 hv hk hS => ?_)
  have hP := hP.old hk
  obtain ⟨j, hj, ej, rfl⟩ := hv
  refine lv_astore_n (lv' := [(3, .ref (ad 4 j)), (0, .ref (ad 0 0)), (1, .int hh), (2, .int vv)]) hx hb dX5_setPrice_5 rfl hl (by decide) rfl (fun ls hl => ?_)
  refine lv_iload_n hx hb dX5_setPrice_6 rfl (lv_at hl 3 rfl) ?_
  refine lv_iconst (v := 0) hx hb dX5_setPrice_7 (by decide) ?_
  refine lv_sipush (v := 10000) hx hb dX5_setPrice_8 (by decide) ?_
  refine kcallS (n := 3) F (kX5_checkRange l G (fun q => H1.size ≤ q) hl9 vv 0 10000) wML_X5_46 wST_X5_checkRange wIN_X5 wCO_X5_checkRange (by decide) rfl ⟨by decide, by decide⟩ hS (fun q h => hA q (Nat.le_trans hS.1 h)) (fun q h => h) trivial rfl hl.1 (Nat.le_of_ble_eq_true rfl) dX5_setPrice_11 ⟨by decide, by decide⟩ (fun E ce q9 H1 locs1 hx9 hk9 hS hc9 hv9 hf9 => kout (G := G) F.2.2.2.2.1 hlocks hS (by decide) (by decide) hc9 hv9 hf9 (⟨hP.old hk9, Or.inr (⟨hx9.1, ⟨⟨j, hj, ej⟩, hx9.2⟩⟩)⟩)) (fun v H1 locs1 hv hk hS => ?_)
  obtain ⟨rfl, h1, h2⟩ := hv
  have hP := hP.old hk
  refine lv_aload_n hx hb dX5_setPrice_14 rfl (lv_at hl 0 rfl) ?_
  refine gX3 F (hP.till hj) 0 (by decide) wFL_X5_50 (fun _ h9 => h9) (v := .int (σ 0 j)) rfl dX5_setPrice_15 ?_
  refine lv_istore (lv' := [(4, .int (σ 0 j)), (3, .ref (ad 4 j)), (0, .ref (ad 0 0)), (1, .int hh), (2, .int vv)]) hx hb dX5_setPrice_18 hl (by decide) rfl (fun ls hl => ?_)
  refine lv_aload_n hx hb dX5_setPrice_20 rfl (lv_at hl 1 rfl) ?_
  refine lv_iload_n hx hb dX5_setPrice_21 rfl (lv_at hl 4 rfl) ?_
  refine pX3 F hS (hP.till hj) (hP.otill hj) 0 (by decide) wFL_X5_50 (fun _ h9 => h9) rfl rfl rfl (by simp) dX5_setPrice_22 (fun H1 locs1 he1 z1 oq1 hS => ?_)
  have hP := hP.p0 hj he1 oq1
  refine lv_iload hx hb dX5_setPrice_25 (lv_at hl 0 rfl) ?_
  exact kiret hx hb hr hlocks hS (by decide) (by decide) dX5_setPrice_27 (⟨j, hj, ej, ⟨h1, h2⟩, rfl, hP⟩)

set_option maxHeartbeats 4000000 in
set_option maxRecDepth 100000 in
theorem kP_setShare (l : Launch) (G : GE) (A : Nat → Prop) (ad : Nat → Nat → Nat) (σ : SG) (qs : Nat → List Nat) (nT nW : Nat) (hl9 : l.stackTraces = false) (vw vv : Int32) (hnW : nW ≤ 12) : KM l G A yX5_setShare cX5_setShare 5 (some .int) (rmL 5 2 12) [.ref (ad 0 0), .int vw, .int vv] (PX G A ad σ qs nT nW) (fun v H => ∃ u, u < nW ∧ vw = nI u ∧ (¬ vv < 0 ∧ vv ≤ 100) ∧ v = some (.int (σ 23 u)) ∧ PX G A ad (up σ 23 u vv) qs nT nW H) (fun E H => PX G A ad σ qs nT nW H ∧ ((E = xIO ∧ ¬ (∃ j, j < nW ∧ vw = nI j)) ∨ (E = xIA ∧ (∃ j, j < nW ∧ vw = nI j) ∧ (vv < 0 ∨ ¬ vv ≤ 100)))) := by
  refine KM.of (by decide) (Nat.le_of_ble_eq_true rfl) ?_
  intro p e s m args below meth c F hP ls hl
  have hx := F.1.1
  have hb := F.1.2.1
  have hown := F.1.2.2.2.1
  have hts := F.1.2.2.2.2
  have hr := F.2.1
  have hlocks := F.2.2.1
  have hE := F.2.2.2.2.2.1
  have hA := F.2.2.2.2.2.2
  have hS : va_S A s.heap s.heap [] := va_S.rf
  have hl : lv_has ls 5 [(0, .ref (ad 0 0)), (1, .int vw), (2, .int vv)] := hl
  have hP := hP
  refine lv_aload_n hx hb dX5_setShare_0 rfl (lv_at hl 0 rfl) ?_
  refine lv_iload_n hx hb dX5_setShare_1 rfl (lv_at hl 1 rfl) ?_
  refine kcallV (n := 1) F (kX5_workAt l G (fun q => s.heap.size ≤ q) A ad σ qs nT nW hl9 vw hnW) wML_X5_189 wIM_X5_workAt wSE_X5_X5_workAt wIN_X5 wCO_X5_workAt (by decide) rfl ⟨by decide, by decide⟩ (frec F (hP.main rfl) _ rfl) hS (fun q h => hA q (Nat.le_trans hS.1 h)) (fun q h => h) hP rfl hl.1 (Nat.le_of_ble_eq_true rfl) dX5_setShare_2 ⟨by decide, by decide⟩ (fun E ce q9 H1 locs1 hx9 hk9 hS hc9 hv9 hf9 => kout (G := G) F.2.2.2.2.1 hlocks hS (by decide) (by decide) hc9 hv9 hf9 (⟨hP.old hk9, Or.inl (⟨hx9.1, hx9.2⟩)⟩)) (fun v H1 locs1 hv hk hS => ?_)
  have hP := hP.old hk
  obtain ⟨u, hu, rfl, rfl⟩ := hv
  refine lv_astore_n (lv' := [(3, .ref (ad 9 u)), (0, .ref (ad 0 0)), (1, .int (nI u)), (2, .int vv)]) hx hb dX5_setShare_5 rfl hl (by decide) rfl (fun ls hl => ?_)
  refine lv_iload_n hx hb dX5_setShare_6 rfl (lv_at hl 3 rfl) ?_
  refine lv_iconst (v := 0) hx hb dX5_setShare_7 (by decide) ?_
  refine lv_bipush (v := 100) hx hb dX5_setShare_8 (by decide) ?_
  refine kcallS (n := 3) F (kX5_checkRange l G (fun q => H1.size ≤ q) hl9 vv 0 100) wML_X5_46 wST_X5_checkRange wIN_X5 wCO_X5_checkRange (by decide) rfl ⟨by decide, by decide⟩ hS (fun q h => hA q (Nat.le_trans hS.1 h)) (fun q h => h) trivial rfl hl.1 (Nat.le_of_ble_eq_true rfl) dX5_setShare_10 ⟨by decide, by decide⟩ (fun E ce q9 H1 locs1 hx9 hk9 hS hc9 hv9 hf9 => kout (G := G) F.2.2.2.2.1 hlocks hS (by decide) (by decide) hc9 hv9 hf9 (⟨hP.old hk9, Or.inr (⟨hx9.1, ⟨⟨u, hu, rfl⟩, hx9.2⟩⟩)⟩)) (fun v H1 locs1 hv hk hS => ?_)
  obtain ⟨rfl, h1, h2⟩ := hv
  have hP := hP.old hk
  refine lv_aload_n hx hb dX5_setShare_13 rfl (lv_at hl 0 rfl) ?_
  refine gX4 F (hP.work hu) 6 (by decide) wFL_X5_210 (fun _ h9 => h9) (v := .int (σ 23 u)) rfl dX5_setShare_14 ?_
  refine lv_istore (lv' := [(4, .int (σ 23 u)), (3, .ref (ad 9 u)), (0, .ref (ad 0 0)), (1, .int (nI u)), (2, .int vv)]) hx hb dX5_setShare_17 hl (by decide) rfl (fun ls hl => ?_)
  refine lv_aload_n hx hb dX5_setShare_19 rfl (lv_at hl 1 rfl) ?_
  refine lv_iload_n hx hb dX5_setShare_20 rfl (lv_at hl 4 rfl) ?_
  refine pX4 F hS (hP.work hu) (hP.owork hu) 6 (by decide) wFL_X5_210 (fun _ h9 => h9) rfl rfl rfl (by simp) dX5_setShare_21 (fun H1 locs1 he1 z1 oq1 hS => ?_)
  have hP := hP.p23 hu he1 oq1
  refine lv_iload hx hb dX5_setShare_24 (lv_at hl 0 rfl) ?_
  exact kiret hx hb hr hlocks hS (by decide) (by decide) dX5_setShare_26 (⟨u, hu, rfl, ⟨h1, h2⟩, rfl, hP⟩)

set_option maxHeartbeats 4000000 in
set_option maxRecDepth 100000 in
theorem kP_buy (l : Launch) (G : GE) (A : Nat → Prop) (ad : Nat → Nat → Nat) (σ : SG) (qs : Nat → List Nat) (nT nW : Nat) (hl9 : l.stackTraces = false) (hh : Int32) (hnT : nT ≤ 80) : KM l G A yX5_buy cX5_buy 3 (some .int) (rmL 9 6 250) [.ref (ad 0 0), .int hh] (PX G A ad σ qs nT nW) (fun v H => ∃ j, j < 5 ∧ hh + 1 = nI j ∧ nT < 80 ∧ v = some (.int (nI nT)) ∧ ∃ q, PX G A (adN ad 10 nT q) (up (fNew σ nT (b2i (decide (hh = -1))) hh (-1) (σ 0 j)) 27 0 (σ 27 0 + σ 0 j)) qs (nT + 1) nW H) (fun E H => PX G A ad σ qs nT nW H ∧ ((E = xIO ∧ ¬ (∃ j, j < 5 ∧ hh + 1 = nI j)) ∨ (E = xIS ∧ (∃ j, j < 5 ∧ hh + 1 = nI j) ∧ nT = 80))) := by
  refine KM.of (by decide) (Nat.le_of_ble_eq_true rfl) ?_
  intro p e s m args below meth c F hP ls hl
  have hx := F.1.1
  have hb := F.1.2.1
  have hown := F.1.2.2.2.1
  have hts := F.1.2.2.2.2
  have hr := F.2.1
  have hlocks := F.2.2.1
  have hE := F.2.2.2.2.2.1
  have hA := F.2.2.2.2.2.2
  have hS : va_S A s.heap s.heap [] := va_S.rf
  have hl : lv_has ls 3 [(0, .ref (ad 0 0)), (1, .int hh)] := hl
  have hP := hP
  refine lv_aload_n hx hb dX5_buy_0 rfl (lv_at hl 0 rfl) ?_
  refine lv_iload_n hx hb dX5_buy_1 rfl (lv_at hl 1 rfl) ?_
  refine kcallV (n := 1) F (kX5_tillAt l G (fun q => s.heap.size ≤ q) A ad σ qs nT nW hl9 hh) wML_X5_42 wIM_X5_tillAt wSE_X5_X5_tillAt wIN_X5 wCO_X5_tillAt (by decide) rfl ⟨by decide, by decide⟩ (frec F (hP.main rfl) _ rfl) hS (fun q h => hA q (Nat.le_trans hS.1 h)) (fun q h => h) hP rfl hl.1 (Nat.le_of_ble_eq_true rfl) dX5_buy_2 ⟨by decide, by decide⟩ (fun E ce q9 H1 locs1 hx9 hk9 hS hc9 hv9 hf9 => kout (G := G) F.2.2.2.2.1 hlocks hS (by decide) (by decide) hc9 hv9 hf9 (⟨hP.old hk9, Or.inl (⟨hx9.1, hx9.2⟩)⟩)) (fun v H1 locs1 hv hk hS => ?_)
  have hP := hP.old hk
  obtain ⟨j, hj, ej, rfl⟩ := hv
  refine lv_astore_n (lv' := [(2, .ref (ad 4 j)), (0, .ref (ad 0 0)), (1, .int hh)]) hx hb dX5_buy_5 rfl hl (by decide) rfl (fun ls hl => ?_)
  refine lv_aload_n hx hb dX5_buy_6 rfl (lv_at hl 1 rfl) ?_
  refine kcallV (n := 0) F (kX5_checkTicketsLeft l G (fun q => H1.size ≤ q) A ad σ qs nT nW hl9 hnT) wML_X5_54 wIM_X5_checkTicketsLeft wSE_X5_X5_checkTicketsLeft wIN_X5 wCO_X5_checkTicketsLeft (by decide) rfl ⟨by decide, by decide⟩ (frec F (hP.main rfl) _ rfl) hS (fun q h => hA q (Nat.le_trans hS.1 h)) (fun q h => h) hP rfl hl.1 (Nat.le_of_ble_eq_true rfl) dX5_buy_7 ⟨by decide, by decide⟩ (fun E ce q9 H1 locs1 hx9 hk9 hS hc9 hv9 hf9 => kout (G := G) F.2.2.2.2.1 hlocks hS (by decide) (by decide) hc9 hv9 hf9 (⟨hP.old hk9, Or.inr (⟨hx9.1, ⟨⟨j, hj, ej⟩, hx9.2⟩⟩)⟩)) (fun v H1 locs1 hv hk hS => ?_)
  have hP := hP.old hk
  obtain ⟨rfl, hlt⟩ := hv
  refine lv_aload_n hx hb dX5_buy_10 rfl (lv_at hl 1 rfl) ?_
  refine lv_iload_n hx hb dX5_buy_11 rfl (lv_at hl 2 rfl) ?_
  refine lv_iconst (v := (-1)) hx hb dX5_buy_12 (by decide) ?_
  refine lv_icmp_ne (tgt := 20) hx hb dX5_buy_13 (by decide) (fun c_13_1 => ?_) (fun c_13_1 => ?_)
  · refine lv_iconst (v := 0) hx hb dX5_buy_20 (by decide) ?_
    refine lv_iload_n hx hb dX5_buy_21 rfl (lv_at hl 2 rfl) ?_
    refine lv_iconst (v := (-1)) hx hb dX5_buy_22 (by decide) ?_
    refine lv_aload_n hx hb dX5_buy_23 rfl (lv_at hl 0 rfl) ?_
    refine gX3 F (hP.till hj) 0 (by decide) wFL_X5_50 (fun _ h9 => h9) (v := .int (σ 0 j)) rfl dX5_buy_24 ?_
    refine kcallV (n := 4) F (kX5_issue l G A ad σ qs nT nW 0 hh (-1) (σ 0 j) hlt) wML_X5_57 wIM_X5_issue wSE_X5_X5_issue wIN_X5 wCO_X5_issue (by decide) rfl ⟨by decide, by decide⟩ (frec F (hP.main rfl) _ rfl) hS (fun _ h => h) (fun q h => hA q (Nat.le_trans hS.1 h)) hP rfl hl.1 (Nat.le_of_ble_eq_true rfl) dX5_buy_27 ⟨by decide, by decide⟩ (fun E ce q9 H1 locs1 hx9 _ _ _ _ _ => hx9.elim) (fun v H1 locs1 hv hk hS => ?_)
    obtain ⟨rfl, q, hP⟩ := hv
    exact kiret hx hb hr hlocks hS (by decide) (by decide) dX5_buy_30 (⟨j, hj, ej, hlt, rfl, q, by rw [show decide (hh = -1) = false by simp [c_13_1]]; exact hP⟩)
  · refine lv_iconst (v := 1) hx hb dX5_buy_16 (by decide) ?_
    refine lv_goto (tgt := 21) hx hb dX5_buy_17 (by decide) ?_
    refine lv_iload_n hx hb dX5_buy_21 rfl (lv_at hl 2 rfl) ?_
    refine lv_iconst (v := (-1)) hx hb dX5_buy_22 (by decide) ?_
    refine lv_aload_n hx hb dX5_buy_23 rfl (lv_at hl 0 rfl) ?_
    refine gX3 F (hP.till hj) 0 (by decide) wFL_X5_50 (fun _ h9 => h9) (v := .int (σ 0 j)) rfl dX5_buy_24 ?_
    refine kcallV (n := 4) F (kX5_issue l G A ad σ qs nT nW 1 hh (-1) (σ 0 j) hlt) wML_X5_57 wIM_X5_issue wSE_X5_X5_issue wIN_X5 wCO_X5_issue (by decide) rfl ⟨by decide, by decide⟩ (frec F (hP.main rfl) _ rfl) hS (fun _ h => h) (fun q h => hA q (Nat.le_trans hS.1 h)) hP rfl hl.1 (Nat.le_of_ble_eq_true rfl) dX5_buy_27 ⟨by decide, by decide⟩ (fun E ce q9 H1 locs1 hx9 _ _ _ _ _ => hx9.elim) (fun v H1 locs1 hv hk hS => ?_)
    obtain ⟨rfl, q, hP⟩ := hv
    exact kiret hx hb hr hlocks hS (by decide) (by decide) dX5_buy_30 (⟨j, hj, ej, hlt, rfl, q, by rw [show decide (hh = -1) = true by simp [c_13_1]]; exact hP⟩)

set_option maxHeartbeats 4000000 in
set_option maxRecDepth 100000 in
theorem kP_addWork (l : Launch) (G : GE) (A : Nat → Prop) (ad : Nat → Nat → Nat) (σ : SG) (qs : Nat → List Nat) (nT nW : Nat) (hl9 : l.stackTraces = false) (vr : Int32) (hnW9 : nW ≤ 12) : KM l G A yX5_addWork cX5_addWork 4 (some .int) (rmL 9 6 250) [.ref (ad 0 0), .int vr] (PX G A ad σ qs nT nW) (fun v H => ∃ r, r < 12 ∧ vr = nI r ∧ nW < 12 ∧ v = some (.int (nI nW)) ∧ ∃ q, PX G A (adN ad 9 nW q) (fNewW σ nW r) qs nT (nW + 1) H) (fun E H => PX G A ad σ qs nT nW H ∧ ((E = xIO ∧ ¬ (∃ j, j < 12 ∧ vr = nI j)) ∨ (E = xIS ∧ (∃ j, j < 12 ∧ vr = nI j) ∧ nW = 12))) := by
  refine KM.of (by decide) (Nat.le_of_ble_eq_true rfl) ?_
  intro p e s m args below meth c F hP ls hl
  have hx := F.1.1
  have hb := F.1.2.1
  have hown := F.1.2.2.2.1
  have hts := F.1.2.2.2.2
  have hr := F.2.1
  have hlocks := F.2.2.1
  have hE := F.2.2.2.2.2.1
  have hA := F.2.2.2.2.2.2
  have hS : va_S A s.heap s.heap [] := va_S.rf
  have hl : lv_has ls 4 [(0, .ref (ad 0 0)), (1, .int vr)] := hl
  have hP := hP
  refine lv_aload_n hx hb dX5_addWork_0 rfl (lv_at hl 0 rfl) ?_
  refine lv_iload_n hx hb dX5_addWork_1 rfl (lv_at hl 1 rfl) ?_
  refine kcallV (n := 1) F (kX5_roomAt l G (fun q => s.heap.size ≤ q) A ad σ qs nT nW hl9 vr) wML_X5_127 wIM_X5_roomAt wSE_X5_X5_roomAt wIN_X5 wCO_X5_roomAt (by decide) rfl ⟨by decide, by decide⟩ (frec F (hP.main rfl) _ rfl) hS (fun q h => hA q (Nat.le_trans hS.1 h)) (fun q h => h) hP rfl hl.1 (Nat.le_of_ble_eq_true rfl) dX5_addWork_2 ⟨by decide, by decide⟩ (fun E ce q9 H1 locs1 hx9 hk9 hS hc9 hv9 hf9 => kout (G := G) F.2.2.2.2.1 hlocks hS (by decide) (by decide) hc9 hv9 hf9 (⟨hP.old hk9, Or.inl (⟨hx9.1, hx9.2⟩)⟩)) (fun v H1 locs1 hv hk hS => ?_)
  have hP := hP.old hk
  obtain ⟨r, hr9, rfl, rfl⟩ := hv
  refine lv_astore_n (lv' := [(2, .ref (ad 5 r)), (0, .ref (ad 0 0)), (1, .int (nI r))]) hx hb dX5_addWork_5 rfl hl (by decide) rfl (fun ls hl => ?_)
  refine lv_aload_n hx hb dX5_addWork_6 rfl (lv_at hl 1 rfl) ?_
  refine gX5 F (hP.main rfl) 4 (by decide) wFL_X5_34 (fun _ h9 => h9) (v := .ref (ad 7 13)) rfl dX5_addWork_7 ?_
  refine kcallV (n := 0) F (cQ_size l G (fun q => H1.size ≤ q) A ad σ qs nT nW 13 (by decide)) wML_X5_173 wIM_Jx4a65c_size_8abf5 wSE_Jx4a65c_Jx4a65c_size_8abf5 wIN_Jx4a65c wCO_Jx4a65c_size_8abf5 (by decide) rfl ⟨by decide, by decide⟩ (by obtain ⟨_, _, h⟩ := hP.lobj (i := 13) (by decide); exact frec F h _ rfl) hS (fun q h => hA q (Nat.le_trans hS.1 h)) (fun q h => h) hP rfl hl.1 (Nat.le_of_ble_eq_true rfl) dX5_addWork_10 ⟨by decide, by decide⟩ (fun E ce q9 H1 locs1 hx9 _ _ _ _ _ => hx9.elim) (fun v H1 locs1 hv hk hS => ?_)
  have hP := hP.old hk
  rw [lsX_13, List.length_map, List.length_range] at hv
  subst hv
  refine lv_bipush (v := 12) hx hb dX5_addWork_13 (by decide) ?_
  refine lv_icmp_lt (tgt := 28) hx hb dX5_addWork_15 (by decide) (fun c_15_1 => ?_) (fun c_15_1 => ?_)
  · have hnW := (nI_ltI (b := 12) (by omega) (by decide)).mp c_15_1
    rename Heap => H0
    have hle0 : s.heap.size ≤ H0.size := hS.1
    refine xnew (ci := 6) (N := 8) hx hb hts inG_X4 tyX4 tyX4_ok hown wCL_X5_179 wIS_X4 wIN_X4 hE.1.1 hS (show mcl[6]? = some (RX4, TX4, 8) from rfl) (fs := [.int 0, .int 0, .int 0, .int 0, .int 0, .int 0, .int 0, .int 0]) (by decide) (Nat.le_of_ble_eq_true rfl) (Nat.le_of_ble_eq_true rfl) dX5_addWork_28 (fun H1 he z1 oq1 hS => ?_)
    have hP0 := hP
    have hk0 : KF (fun z => H0.size ≤ z) H0 H1 := ⟨by omega, fun q hq _ => oq1 q hq⟩
    have hP := hP0.old hk0
    refine lv_dup hx hb dX5_addWork_31 rfl ?_
    refine lv_aload_n hx hb dX5_addWork_32 rfl (lv_at hl 1 rfl) ?_
    refine gX5 F (hP.main rfl) 4 (by decide) wFL_X5_34 (fun _ h9 => h9) (v := .ref (ad 7 13)) rfl dX5_addWork_33 ?_
    refine kcallV (n := 0) F (cQ_size l G (fun q => H1.size ≤ q) A ad σ qs nT nW 13 (by decide)) wML_X5_173 wIM_Jx4a65c_size_8abf5 wSE_Jx4a65c_Jx4a65c_size_8abf5 wIN_Jx4a65c wCO_Jx4a65c_size_8abf5 (by decide) rfl ⟨by decide, by decide⟩ (by obtain ⟨_, _, h⟩ := hP.lobj (i := 13) (by decide); exact frec F h _ rfl) hS (fun q h => hA q (Nat.le_trans hS.1 h)) (fun q h => h) hP rfl hl.1 (Nat.le_of_ble_eq_true rfl) dX5_addWork_36 ⟨by decide, by decide⟩ (fun E ce q9 H1 locs1 hx9 _ _ _ _ _ => hx9.elim) (fun v H1 locs1 hv hk hS => ?_)
    have hP := hP.old hk
    rw [lsX_13, List.length_map, List.length_range] at hv
    subst hv
    have he := atO he hk
    have hk0 := hk0.new hk (fun q h => Nat.le_trans hk0.1 h)
    refine lv_aload_n hx hb dX5_addWork_39 rfl (lv_at hl 0 rfl) ?_
    refine kcallI (n := 2) F (cX4_initC l G (fun q => H0.size ≤ q) H0.size (ad 5 r) (nI nW) (nI r) (nI (r / 3)) (σ 5 r) (σ 6 r) (σ 7 r) (ad 7 r) (Nat.le_refl _) (fun z => absurd (hP0.room hr9).lt (by rw [z]; exact Nat.lt_irrefl _))) wML_X5_181 wIM_X4_init wIN_X4 wCO_X4_init rfl (by decide) rfl ⟨by decide, by decide⟩ hS (fun q h => hA q (Nat.le_trans (by first | exact Nat.le_refl _ | exact hle0) h)) (fun q h => Nat.le_trans hk0.1 h) ⟨he, hP.room hr9⟩ rfl hl.1 (Nat.le_of_ble_eq_true rfl) dX5_addWork_40 ⟨by decide, by decide⟩ (fun E ce q9 H1 locs1 hx9 _ _ _ _ _ => hx9.elim) (fun v H1 locs1 hv hk hS => ?_)
    obtain ⟨rfl, he⟩ := hv
    have hk0 := hk0.new hk (fun q h => h)
    have hP := hP0.old hk0
    refine lv_astore_n (lv' := [(3, .ref H0.size), (2, .ref (ad 5 r)), (0, .ref (ad 0 0)), (1, .int (nI r))]) hx hb dX5_addWork_43 rfl hl (by decide) rfl (fun ls hl => ?_)
    refine lv_aload_n hx hb dX5_addWork_44 rfl (lv_at hl 2 rfl) ?_
    refine gX5 F (hP.main rfl) 4 (by decide) wFL_X5_34 (fun _ h9 => h9) (v := .ref (ad 7 13)) rfl dX5_addWork_45 ?_
    refine lv_aload_n hx hb dX5_addWork_48 rfl (lv_at hl 0 rfl) ?_
    have hqH := he.lt
    obtain ⟨aA, n, mc, hLL, o1, o2, o3, o4, o5, hcl⟩ := hP0.lstN (q := H0.size) (σ' := fNewW σ nW r) hk0 (Or.inr ⟨rfl, rfl, rfl, rfl, rfl, hnW⟩) (Nat.le_refl _) hqH (hA _ (by first | exact Nat.le_refl _ | exact hle0)) (by exact fNewW_o)
    rename Heap => H2
    have hS0 := hS
    refine kcallV (n := 1) F (cL_add l G (AL1 (ad 7 13) aA n H2.size) (ad 7 13) aA n H2.size H0.size mc (lsX ad qs nT nW 13) (by rw [lsX_13, List.length_map, List.length_range]; omega) (Or.inl rfl) (fun h => Or.inr (Or.inl ⟨h, rfl⟩))) wML_X5_184 wIM_Jx4a65c_add_9ea2d wSE_Jx4a65c_Jx4a65c_add_9ea2d wIN_Jx4a65c wCO_Jx4a65c_add_9ea2d (by decide) rfl ⟨by decide, by decide⟩ (by obtain ⟨_, _, h⟩ := hP.lobj (i := 13) (by decide); exact frec F h _ rfl) hS (fun q h => by rcases h with rfl | ⟨h1, rfl⟩ | h <;> first | exact o1 | exact o2 h1 | exact hA q (Nat.le_trans hS.1 h)) (fun q h => Or.inr (Or.inr h)) ⟨rfl, hLL, (fun z hz => by rw [lsX_13] at hz; obtain ⟨t, h1, rfl⟩ := List.mem_map.mp hz; exact el_w hP o3 (List.mem_range.mp h1)), ⟨⟨6, _, Or.inr rfl, he⟩, fun z => z.elim o4 (fun z => z.elim (fun z => o5 z.1 z.2) (fun z => absurd z (Nat.not_le.mpr hqH)))⟩⟩ rfl hl.1 (Nat.le_of_ble_eq_true rfl) dX5_addWork_49 ⟨by decide, by decide⟩ (fun E ce q9 H1 locs1 hx9 _ _ _ _ _ => hx9.elim) (fun v H1 locs1 hv hk hS => ?_)
    obtain ⟨rfl, aA9, n9, hLL9, hn9, h9⟩ := hv
    have he := he.kept (hk.2 _ hqH (fun z => z.elim o4 (fun z => z.elim (fun z => o5 z.1 z.2) (fun z => absurd z (Nat.not_le.mpr hqH)))))
    have hP := hcl H1 aA9 n9 _ hLL9 (h9.elim Or.inl (fun z => Or.inr (Or.inl z))) (fun _ => h9.elim (fun z => z.2 ▸ o2 z.1) (fun z => hA _ (Nat.le_trans hS0.1 z))) hk (by simpa [ceO, fNewW, up] using he)
    obtain ⟨ad', hd⟩ : ∃ ad', ad' = adN ad 9 nW H0.size := ⟨_, rfl⟩
    obtain ⟨σ', hs⟩ : ∃ σ', σ' = fNewW σ nW r := ⟨_, rfl⟩
    rw [← hd, ← hs] at hP
    have e0 : ad 0 0 = ad' 0 0 := by rw [hd]; unfold adN; rw [if_neg (by omega)]
    have e1 : H0.size = ad' 9 nW := by rw [hd]; unfold adN; rw [if_pos ⟨rfl, rfl⟩]
    rw [e0, e1] at hl
    refine lv_pop hx hb dX5_addWork_52 rfl ?_
    refine lv_aload_n hx hb dX5_addWork_53 rfl (lv_at hl 0 rfl) ?_
    refine gX4 F (hP.work (Nat.lt_succ_self _)) 0 (by decide) wFL_X5_188 (fun _ h9 => h9) (v := .int (nI nW)) rfl dX5_addWork_54 ?_
    exact kiret hx hb hr hlocks hS (by decide) (by decide) dX5_addWork_57 (by subst hd; subst hs; exact ⟨r, hr9, rfl, hnW, rfl, _, hP⟩)
  · exact kthrow F hl9 hS hl.1 (cls := xIS) (text := "no more works") (ik := 72) (is := 177) (ic := 76) (by decide +kernel) wCL_X5_72 wIN_java_lang_IllegalStateException tx_177 (by simp [nwCast]) is_good is_bad is_ot dX5_addWork_18 dX5_addWork_21 dX5_addWork_22 dX5_addWork_24 dX5_addWork_27 (by decide) (Nat.le_of_ble_eq_true rfl) (by decide) (by decide) (by decide) (by decide) (fun H1 hz hq => ⟨hP.old ⟨hz, fun q h _ => hq q h⟩, Or.inr (⟨rfl, ⟨r, hr9, rfl⟩, Nat.le_antisymm hnW9 (Nat.not_lt.mp (fun z => c_15_1 (nI_lt (b := 12) z (by decide))))⟩)⟩)

