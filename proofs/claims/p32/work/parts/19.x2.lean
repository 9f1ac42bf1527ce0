theorem tx_74 : (RX5, 74, "no membership") ∈ xTx := by decide +kernel
theorem tx_83 : (RX5, 83, "a MEMBER ticket of today, or none") ∈ xTx := by decide +kernel
theorem tx_85 : (RX5, 85, "no more guests today") ∈ xTx := by decide +kernel
theorem tx_108 : (RX5, 108, "cannot be given back") ∈ xTx := by decide +kernel
theorem tx_119 : (RX5, 119, "the membership is not over") ∈ xTx := by decide +kernel
theorem tx_157 : (RX5, 157, "may not enter") ∈ xTx := by decide +kernel
theorem tx_162 : (RX5, 162, "in no room and in no queue") ∈ xTx := by decide +kernel
theorem tx_177 : (RX5, 177, "no more works") ∈ xTx := by decide +kernel
theorem tx_194 : (RX5, 194, "another house") ∈ xTx := by decide +kernel
theorem tx_200 : (RX5, 200, "lent, or its own house") ∈ xTx := by decide +kernel
theorem tx_208 : (RX5, 208, "not lent, or not its own house") ∈ xTx := by decide +kernel
theorem tx_223 : (RX5, 223, "beyond the last day") ∈ xTx := by decide +kernel
theorem tx_286 : (RX5, 286, "no such house") ∈ xTx := by decide +kernel
theorem tx_289 : (RX5, 289, "no such room") ∈ xTx := by decide +kernel
theorem tx_291 : (RX5, 291, "no such member") ∈ xTx := by decide +kernel
theorem tx_293 : (RX5, 293, "no such ticket") ∈ xTx := by decide +kernel
theorem tx_295 : (RX5, 295, "no such work") ∈ xTx := by decide +kernel
theorem tx_297 : (RX5, 297, "no such place") ∈ xTx := by decide +kernel
theorem tx_301 : (RX5, 301, "out of range") ∈ xTx := by decide +kernel
theorem tx_304 : (RX5, 304, "no more tickets") ∈ xTx := by decide +kernel
theorem tx_306 : (RX5, 306, "not of today, or void") ∈ xTx := by decide +kernel
set_option maxHeartbeats 4000000 in
set_option maxRecDepth 100000 in
theorem kX5_tillAt (l : Launch) (G : GE) (A1 A : Nat → Prop) (ad : Nat → Nat → Nat) (σ : SG) (qs : Nat → List Nat) (nT nW : Nat) (hl9 : l.stackTraces = false) (hh : Int32) : KM l G A1 yX5_tillAt cX5_tillAt 2 (some (.object "MuseumTill$Till")) (rmL 1 1 6) [.ref (ad 0 0), .int hh] (PX G A ad σ qs nT nW) (fun v _ => ∃ j, j < 5 ∧ hh + 1 = nI j ∧ v = some (.ref (ad 4 j))) (fun E _ => E = xIO ∧ ¬ ∃ j, j < 5 ∧ hh + 1 = nI j) := by
  refine KM.of (by decide) (Nat.le_of_ble_eq_true rfl) ?_
  intro p e s m args below meth c F hP ls hl
  have hx := F.1.1
  have hb := F.1.2.1
  have hown := F.1.2.2.2.1
  have hts := F.1.2.2.2.2
  have hr := F.2.1
  have hlocks := F.2.2.1
  have hE := F.2.2.2.2.2.1
  have hA := F.2.2.2.2.2.2
  have hS : va_S A1 s.heap s.heap [] := va_S.rf
  have hl : lv_has ls 2 [(0, .ref (ad 0 0)), (1, .int hh)] := hl
  have hP := hP
  refine lv_iload_n hx hb dX5_tillAt_0 rfl (lv_at hl 1 rfl) ?_
  refine lv_iconst (v := (-1)) hx hb dX5_tillAt_1 (by decide) ?_
  refine lv_icmp_lt (tgt := 10) hx hb dX5_tillAt_2 (by decide) (fun c_2_1 => ?_) (fun c_2_1 => ?_)
  · exact kthrowW F hl9 hS hl.1 (cls := xIO) (text := "no such house") (ik := 284) (is := 286) (ic := 288) (by decide +kernel) wCL_X5_284 wIN_java_lang_IndexOutOfBoundsException tx_286 (by simp [nwCast]) io_good io_bad io_ot dX5_tillAt_10 dX5_tillAt_13 dX5_tillAt_14 dX5_tillAt_17 dX5_tillAt_20 (by decide) (Nat.le_of_ble_eq_true rfl) (by decide) (by decide) (by decide) (by decide) (fun H1 hz hq => ⟨rfl, hs_no (Or.inl c_2_1)⟩)
  · refine lv_iload_n hx hb dX5_tillAt_5 rfl (lv_at hl 1 rfl) ?_
    refine lv_iconst (v := 4) hx hb dX5_tillAt_6 (by decide) ?_
    refine lv_icmp_lt (tgt := 21) hx hb dX5_tillAt_7 (by decide) (fun c_7_2 => ?_) (fun c_7_2 => ?_)
    · obtain ⟨j, hj, ej⟩ := hs_of c_2_1 c_7_2
      refine lv_aload_n hx hb dX5_tillAt_21 rfl (lv_at hl 0 rfl) ?_
      refine gX5 F (hP.main rfl) 0 (by decide) wFL_X5_11 (fun _ h9 => h9) (v := .ref (ad 1 0)) rfl dX5_tillAt_22 ?_
      refine lv_iload_n hx hb dX5_tillAt_25 rfl (lv_at hl 1 rfl) ?_
      refine lv_iconst (v := 1) hx hb dX5_tillAt_26 (by decide) ?_
      refine lv_iadd hx hb dX5_tillAt_27 ?_
      refine xaald hx hb hE.1.1 hP.tills 4 rfl ej hj (by decide) (rfs_at hj) dX5_tillAt_28 ?_
      exact karet hx hb hr hlocks hS (by decide) (by decide) dX5_tillAt_29 (⟨j, hj, ej, rfl⟩)
    · exact kthrowW F hl9 hS hl.1 (cls := xIO) (text := "no such house") (ik := 284) (is := 286) (ic := 288) (by decide +kernel) wCL_X5_284 wIN_java_lang_IndexOutOfBoundsException tx_286 (by simp [nwCast]) io_good io_bad io_ot dX5_tillAt_10 dX5_tillAt_13 dX5_tillAt_14 dX5_tillAt_17 dX5_tillAt_20 (by decide) (Nat.le_of_ble_eq_true rfl) (by decide) (by decide) (by decide) (by decide) (fun H1 hz hq => ⟨rfl, hs_no (Or.inr c_7_2)⟩)

set_option maxHeartbeats 4000000 in
set_option maxRecDepth 100000 in
theorem kX5_tillAt0 (l : Launch) (G : GE) (A1 A : Nat → Prop) (ad : Nat → Nat → Nat) (σ : SG) (qs : Nat → List Nat) (nT nW : Nat) (hh : Int32) (j : Nat) (hj : j < 5) (ej : hh + 1 = nI j) : KM l G A1 yX5_tillAt cX5_tillAt 2 (some (.object "MuseumTill$Till")) (rmL 1 0 0) [.ref (ad 0 0), .int hh] (PX G A ad σ qs nT nW) (fun v _ => v = some (.ref (ad 4 j))) (fun _ _ => False) := by
  refine KM.of (by decide) (Nat.le_of_ble_eq_true rfl) ?_
  intro p e s m args below meth c F hP ls hl
  have hx := F.1.1
  have hb := F.1.2.1
  have hown := F.1.2.2.2.1
  have hts := F.1.2.2.2.2
  have hr := F.2.1
  have hlocks := F.2.2.1
  have hE := F.2.2.2.2.2.1
  have hA := F.2.2.2.2.2.2
  have hS : va_S A1 s.heap s.heap [] := va_S.rf
  have hl : lv_has ls 2 [(0, .ref (ad 0 0)), (1, .int hh)] := hl
  have hP := hP
  refine lv_iload_n hx hb dX5_tillAt_0 rfl (lv_at hl 1 rfl) ?_
  refine lv_iconst (v := (-1)) hx hb dX5_tillAt_1 (by decide) ?_
  refine lv_icmp_lt (tgt := 10) hx hb dX5_tillAt_2 (by decide) (fun c_2_1 => ?_) (fun c_2_1 => ?_)
  · exact absurd c_2_1 (hs_ok hj ej).1
  · refine lv_iload_n hx hb dX5_tillAt_5 rfl (lv_at hl 1 rfl) ?_
    refine lv_iconst (v := 4) hx hb dX5_tillAt_6 (by decide) ?_
    refine lv_icmp_lt (tgt := 21) hx hb dX5_tillAt_7 (by decide) (fun c_7_2 => ?_) (fun c_7_2 => ?_)
    · refine lv_aload_n hx hb dX5_tillAt_21 rfl (lv_at hl 0 rfl) ?_
      refine gX5 F (hP.main rfl) 0 (by decide) wFL_X5_11 (fun _ h9 => h9) (v := .ref (ad 1 0)) rfl dX5_tillAt_22 ?_
      refine lv_iload_n hx hb dX5_tillAt_25 rfl (lv_at hl 1 rfl) ?_
      refine lv_iconst (v := 1) hx hb dX5_tillAt_26 (by decide) ?_
      refine lv_iadd hx hb dX5_tillAt_27 ?_
      refine xaald hx hb hE.1.1 hP.tills 4 rfl ej hj (by decide) (rfs_at hj) dX5_tillAt_28 ?_
      exact karet hx hb hr hlocks hS (by decide) (by decide) dX5_tillAt_29 (rfl)
    · exact absurd (hs_ok hj ej).2 c_7_2

set_option maxHeartbeats 4000000 in
set_option maxRecDepth 100000 in
theorem kX5_roomAt (l : Launch) (G : GE) (A1 A : Nat → Prop) (ad : Nat → Nat → Nat) (σ : SG) (qs : Nat → List Nat) (nT nW : Nat) (hl9 : l.stackTraces = false) (rr : Int32) : KM l G A1 yX5_roomAt cX5_roomAt 2 (some (.object "MuseumTill$Room")) (rmL 4 1 6) [.ref (ad 0 0), .int rr] (PX G A ad σ qs nT nW) (fun v _ => ∃ j, j < 12 ∧ rr = nI j ∧ v = some (.ref (ad 5 j))) (fun E _ => E = xIO ∧ ¬ ∃ j, j < 12 ∧ rr = nI j) := by
  refine KM.of (by decide) (Nat.le_of_ble_eq_true rfl) ?_
  intro p e s m args below meth c F hP ls hl
  have hx := F.1.1
  have hb := F.1.2.1
  have hown := F.1.2.2.2.1
  have hts := F.1.2.2.2.2
  have hr := F.2.1
  have hlocks := F.2.2.1
  have hE := F.2.2.2.2.2.1
  have hA := F.2.2.2.2.2.2
  have hS : va_S A1 s.heap s.heap [] := va_S.rf
  have hl : lv_has ls 2 [(0, .ref (ad 0 0)), (1, .int rr)] := hl
  have hP := hP
  refine lv_iload_n hx hb dX5_roomAt_0 rfl (lv_at hl 1 rfl) ?_
  refine lv_if_lt (tgt := 13) hx hb dX5_roomAt_1 (by decide) (fun c_1_1 => ?_) (fun c_1_1 => ?_)
  · exact kthrowW F hl9 hS hl.1 (cls := xIO) (text := "no such room") (ik := 284) (is := 289) (ic := 288) (by decide +kernel) wCL_X5_284 wIN_java_lang_IndexOutOfBoundsException tx_289 (by simp [nwCast]) io_good io_bad io_ot dX5_roomAt_13 dX5_roomAt_16 dX5_roomAt_17 dX5_roomAt_20 dX5_roomAt_23 (by decide) (Nat.le_of_ble_eq_true rfl) (by decide) (by decide) (by decide) (by decide) (fun H1 hz hq => ⟨rfl, ix_no (n := 12) (by decide) (Or.inl c_1_1)⟩)
  · refine lv_iload_n hx hb dX5_roomAt_4 rfl (lv_at hl 1 rfl) ?_
    refine lv_aload_n hx hb dX5_roomAt_5 rfl (lv_at hl 0 rfl) ?_
    refine gX5 F (hP.main rfl) 1 (by decide) wFL_X5_17 (fun _ h9 => h9) (v := .ref (ad 2 0)) rfl dX5_roomAt_6 ?_
    refine xalen hx hb hE.1.1 hP.rooms 3 rfl dX5_roomAt_9 ?_
    refine lv_icmp_lt (tgt := 24) hx hb dX5_roomAt_10 (by decide) (fun c_10_2 => ?_) (fun c_10_2 => ?_)
    · obtain ⟨j, hj, rfl⟩ := ix_of (n := 12) (by decide) c_1_1 c_10_2
      refine lv_aload_n hx hb dX5_roomAt_24 rfl (lv_at hl 0 rfl) ?_
      refine gX5 F (hP.main rfl) 1 (by decide) wFL_X5_17 (fun _ h9 => h9) (v := .ref (ad 2 0)) rfl dX5_roomAt_25 ?_
      refine lv_iload_n hx hb dX5_roomAt_28 rfl (lv_at hl 1 rfl) ?_
      refine xaald hx hb hE.1.1 hP.rooms 3 rfl rfl hj (by decide) (rfs_at hj) dX5_roomAt_29 ?_
      exact karet hx hb hr hlocks hS (by decide) (by decide) dX5_roomAt_30 (⟨j, hj, rfl, rfl⟩)
    · exact kthrowW F hl9 hS hl.1 (cls := xIO) (text := "no such room") (ik := 284) (is := 289) (ic := 288) (by decide +kernel) wCL_X5_284 wIN_java_lang_IndexOutOfBoundsException tx_289 (by simp [nwCast]) io_good io_bad io_ot dX5_roomAt_13 dX5_roomAt_16 dX5_roomAt_17 dX5_roomAt_20 dX5_roomAt_23 (by decide) (Nat.le_of_ble_eq_true rfl) (by decide) (by decide) (by decide) (by decide) (fun H1 hz hq => ⟨rfl, ix_no (n := 12) (by decide) (Or.inr c_10_2)⟩)

set_option maxHeartbeats 4000000 in
set_option maxRecDepth 100000 in
theorem kX5_roomAt0 (l : Launch) (G : GE) (A1 A : Nat → Prop) (ad : Nat → Nat → Nat) (σ : SG) (qs : Nat → List Nat) (nT nW : Nat) (j : Nat) (hj : j < 12) : KM l G A1 yX5_roomAt cX5_roomAt 2 (some (.object "MuseumTill$Room")) (rmL 4 0 0) [.ref (ad 0 0), .int (nI j)] (PX G A ad σ qs nT nW) (fun v _ => v = some (.ref (ad 5 j))) (fun _ _ => False) := by
  refine KM.of (by decide) (Nat.le_of_ble_eq_true rfl) ?_
  intro p e s m args below meth c F hP ls hl
  have hx := F.1.1
  have hb := F.1.2.1
  have hown := F.1.2.2.2.1
  have hts := F.1.2.2.2.2
  have hr := F.2.1
  have hlocks := F.2.2.1
  have hE := F.2.2.2.2.2.1
  have hA := F.2.2.2.2.2.2
  have hS : va_S A1 s.heap s.heap [] := va_S.rf
  have hl : lv_has ls 2 [(0, .ref (ad 0 0)), (1, .int (nI j))] := hl
  have hP := hP
  refine lv_iload_n hx hb dX5_roomAt_0 rfl (lv_at hl 1 rfl) ?_
  refine lv_if_lt (tgt := 13) hx hb dX5_roomAt_1 (by decide) (fun c_1_1 => ?_) (fun c_1_1 => ?_)
  · exact absurd c_1_1 (nI_pos (by omega))
  · refine lv_iload_n hx hb dX5_roomAt_4 rfl (lv_at hl 1 rfl) ?_
    refine lv_aload_n hx hb dX5_roomAt_5 rfl (lv_at hl 0 rfl) ?_
    refine gX5 F (hP.main rfl) 1 (by decide) wFL_X5_17 (fun _ h9 => h9) (v := .ref (ad 2 0)) rfl dX5_roomAt_6 ?_
    refine xalen hx hb hE.1.1 hP.rooms 3 rfl dX5_roomAt_9 ?_
    refine lv_icmp_lt (tgt := 24) hx hb dX5_roomAt_10 (by decide) (fun c_10_2 => ?_) (fun c_10_2 => ?_)
    · refine lv_aload_n hx hb dX5_roomAt_24 rfl (lv_at hl 0 rfl) ?_
      refine gX5 F (hP.main rfl) 1 (by decide) wFL_X5_17 (fun _ h9 => h9) (v := .ref (ad 2 0)) rfl dX5_roomAt_25 ?_
      refine lv_iload_n hx hb dX5_roomAt_28 rfl (lv_at hl 1 rfl) ?_
      refine xaald hx hb hE.1.1 hP.rooms 3 rfl rfl hj (by decide) (rfs_at hj) dX5_roomAt_29 ?_
      exact karet hx hb hr hlocks hS (by decide) (by decide) dX5_roomAt_30 (rfl)
    · exact absurd (nI_lt hj (by decide)) c_10_2

set_option maxHeartbeats 4000000 in
set_option maxRecDepth 100000 in
theorem kX5_memberAt (l : Launch) (G : GE) (A1 A : Nat → Prop) (ad : Nat → Nat → Nat) (σ : SG) (qs : Nat → List Nat) (nT nW : Nat) (hl9 : l.stackTraces = false) (mm : Int32) : KM l G A1 yX5_memberAt cX5_memberAt 2 (some (.object "MuseumTill$Member")) (rmL 4 1 6) [.ref (ad 0 0), .int mm] (PX G A ad σ qs nT nW) (fun v _ => ∃ j, j < 6 ∧ mm = nI j ∧ v = some (.ref (ad 6 j))) (fun E _ => E = xIO ∧ ¬ ∃ j, j < 6 ∧ mm = nI j) := by
  refine KM.of (by decide) (Nat.le_of_ble_eq_true rfl) ?_
  intro p e s m args below meth c F hP ls hl
  have hx := F.1.1
  have hb := F.1.2.1
  have hown := F.1.2.2.2.1
  have hts := F.1.2.2.2.2
  have hr := F.2.1
  have hlocks := F.2.2.1
  have hE := F.2.2.2.2.2.1
  have hA := F.2.2.2.2.2.2
  have hS : va_S A1 s.heap s.heap [] := va_S.rf
  have hl : lv_has ls 2 [(0, .ref (ad 0 0)), (1, .int mm)] := hl
  have hP := hP
  refine lv_iload_n hx hb dX5_memberAt_0 rfl (lv_at hl 1 rfl) ?_
  refine lv_if_lt (tgt := 13) hx hb dX5_memberAt_1 (by decide) (fun c_1_1 => ?_) (fun c_1_1 => ?_)
  · exact kthrowW F hl9 hS hl.1 (cls := xIO) (text := "no such member") (ik := 284) (is := 291) (ic := 288) (by decide +kernel) wCL_X5_284 wIN_java_lang_IndexOutOfBoundsException tx_291 (by simp [nwCast]) io_good io_bad io_ot dX5_memberAt_13 dX5_memberAt_16 dX5_memberAt_17 dX5_memberAt_20 dX5_memberAt_23 (by decide) (Nat.le_of_ble_eq_true rfl) (by decide) (by decide) (by decide) (by decide) (fun H1 hz hq => ⟨rfl, ix_no (n := 6) (by decide) (Or.inl c_1_1)⟩)
  · refine lv_iload_n hx hb dX5_memberAt_4 rfl (lv_at hl 1 rfl) ?_
    refine lv_aload_n hx hb dX5_memberAt_5 rfl (lv_at hl 0 rfl) ?_
    refine gX5 F (hP.main rfl) 2 (by decide) wFL_X5_23 (fun _ h9 => h9) (v := .ref (ad 3 0)) rfl dX5_memberAt_6 ?_
    refine xalen hx hb hE.1.1 hP.members 2 rfl dX5_memberAt_9 ?_
    refine lv_icmp_lt (tgt := 24) hx hb dX5_memberAt_10 (by decide) (fun c_10_2 => ?_) (fun c_10_2 => ?_)
    · obtain ⟨j, hj, rfl⟩ := ix_of (n := 6) (by decide) c_1_1 c_10_2
      refine lv_aload_n hx hb dX5_memberAt_24 rfl (lv_at hl 0 rfl) ?_
      refine gX5 F (hP.main rfl) 2 (by decide) wFL_X5_23 (fun _ h9 => h9) (v := .ref (ad 3 0)) rfl dX5_memberAt_25 ?_
      refine lv_iload_n hx hb dX5_memberAt_28 rfl (lv_at hl 1 rfl) ?_
      refine xaald hx hb hE.1.1 hP.members 2 rfl rfl hj (by decide) (rfs_at hj) dX5_memberAt_29 ?_
      exact karet hx hb hr hlocks hS (by decide) (by decide) dX5_memberAt_30 (⟨j, hj, rfl, rfl⟩)
    · exact kthrowW F hl9 hS hl.1 (cls := xIO) (text := "no such member") (ik := 284) (is := 291) (ic := 288) (by decide +kernel) wCL_X5_284 wIN_java_lang_IndexOutOfBoundsException tx_291 (by simp [nwCast]) io_good io_bad io_ot dX5_memberAt_13 dX5_memberAt_16 dX5_memberAt_17 dX5_memberAt_20 dX5_memberAt_23 (by decide) (Nat.le_of_ble_eq_true rfl) (by decide) (by decide) (by decide) (by decide) (fun H1 hz hq => ⟨rfl, ix_no (n := 6) (by decide) (Or.inr c_10_2)⟩)

set_option maxHeartbeats 4000000 in
set_option maxRecDepth 100000 in
theorem kX5_memberAt0 (l : Launch) (G : GE) (A1 A : Nat → Prop) (ad : Nat → Nat → Nat) (σ : SG) (qs : Nat → List Nat) (nT nW : Nat) (j : Nat) (hj : j < 6) : KM l G A1 yX5_memberAt cX5_memberAt 2 (some (.object "MuseumTill$Member")) (rmL 4 0 0) [.ref (ad 0 0), .int (nI j)] (PX G A ad σ qs nT nW) (fun v _ => v = some (.ref (ad 6 j))) (fun _ _ => False) := by
  refine KM.of (by decide) (Nat.le_of_ble_eq_true rfl) ?_
  intro p e s m args below meth c F hP ls hl
  have hx := F.1.1
  have hb := F.1.2.1
  have hown := F.1.2.2.2.1
  have hts := F.1.2.2.2.2
  have hr := F.2.1
  have hlocks := F.2.2.1
  have hE := F.2.2.2.2.2.1
  have hA := F.2.2.2.2.2.2
  have hS : va_S A1 s.heap s.heap [] := va_S.rf
  have hl : lv_has ls 2 [(0, .ref (ad 0 0)), (1, .int (nI j))] := hl
  have hP := hP
  refine lv_iload_n hx hb dX5_memberAt_0 rfl (lv_at hl 1 rfl) ?_
  refine lv_if_lt (tgt := 13) hx hb dX5_memberAt_1 (by decide) (fun c_1_1 => ?_) (fun c_1_1 => ?_)
  · exact absurd c_1_1 (nI_pos (by omega))
  · refine lv_iload_n hx hb dX5_memberAt_4 rfl (lv_at hl 1 rfl) ?_
    refine lv_aload_n hx hb dX5_memberAt_5 rfl (lv_at hl 0 rfl) ?_
    refine gX5 F (hP.main rfl) 2 (by decide) wFL_X5_23 (fun _ h9 => h9) (v := .ref (ad 3 0)) rfl dX5_memberAt_6 ?_
    refine xalen hx hb hE.1.1 hP.members 2 rfl dX5_memberAt_9 ?_
    refine lv_icmp_lt (tgt := 24) hx hb dX5_memberAt_10 (by decide) (fun c_10_2 => ?_) (fun c_10_2 => ?_)
    · refine lv_aload_n hx hb dX5_memberAt_24 rfl (lv_at hl 0 rfl) ?_
      refine gX5 F (hP.main rfl) 2 (by decide) wFL_X5_23 (fun _ h9 => h9) (v := .ref (ad 3 0)) rfl dX5_memberAt_25 ?_
      refine lv_iload_n hx hb dX5_memberAt_28 rfl (lv_at hl 1 rfl) ?_
      refine xaald hx hb hE.1.1 hP.members 2 rfl rfl hj (by decide) (rfs_at hj) dX5_memberAt_29 ?_
      exact karet hx hb hr hlocks hS (by decide) (by decide) dX5_memberAt_30 (rfl)
    · exact absurd (nI_lt hj (by decide)) c_10_2

set_option maxHeartbeats 4000000 in
set_option maxRecDepth 100000 in
theorem kX5_ticketAt (l : Launch) (G : GE) (A1 A : Nat → Prop) (ad : Nat → Nat → Nat) (σ : SG) (qs : Nat → List Nat) (nT nW : Nat) (hl9 : l.stackTraces = false) (tt : Int32) (hnT : nT ≤ 80) : KM l G A1 yX5_ticketAt cX5_ticketAt 2 (some (.object "MuseumTill$Ticket")) (rmL 4 1 6) [.ref (ad 0 0), .int tt] (PX G A ad σ qs nT nW) (fun v _ => ∃ j, j < nT ∧ tt = nI j ∧ v = some (.ref (ad 10 j))) (fun E _ => E = xIO ∧ ¬ ∃ j, j < nT ∧ tt = nI j) := by
  refine KM.of (by decide) (Nat.le_of_ble_eq_true rfl) ?_
  intro p e s m args below meth c F hP ls hl
  have hx := F.1.1
  have hb := F.1.2.1
  have hown := F.1.2.2.2.1
  have hts := F.1.2.2.2.2
  have hr := F.2.1
  have hlocks := F.2.2.1
  have hE := F.2.2.2.2.2.1
  have hA := F.2.2.2.2.2.2
  have hS : va_S A1 s.heap s.heap [] := va_S.rf
  have hl : lv_has ls 2 [(0, .ref (ad 0 0)), (1, .int tt)] := hl
  have hP := hP
  refine lv_iload_n hx hb dX5_ticketAt_0 rfl (lv_at hl 1 rfl) ?_
  refine lv_if_lt (tgt := 15) hx hb dX5_ticketAt_1 (by decide) (fun c_1_1 => ?_) (fun c_1_1 => ?_)
  · exact kthrowW F hl9 hS hl.1 (cls := xIO) (text := "no such ticket") (ik := 284) (is := 293) (ic := 288) (by decide +kernel) wCL_X5_284 wIN_java_lang_IndexOutOfBoundsException tx_293 (by simp [nwCast]) io_good io_bad io_ot dX5_ticketAt_15 dX5_ticketAt_18 dX5_ticketAt_19 dX5_ticketAt_22 dX5_ticketAt_25 (by decide) (Nat.le_of_ble_eq_true rfl) (by decide) (by decide) (by decide) (by decide) (fun H1 hz hq => ⟨rfl, ix_no (n := nT) (by omega) (Or.inl c_1_1)⟩)
  · refine lv_iload_n hx hb dX5_ticketAt_4 rfl (lv_at hl 1 rfl) ?_
    refine lv_aload_n hx hb dX5_ticketAt_5 rfl (lv_at hl 0 rfl) ?_
    refine gX5 F (hP.main rfl) 3 (by decide) wFL_X5_30 (fun _ h9 => h9) (v := .ref (ad 7 12)) rfl dX5_ticketAt_6 ?_
    refine kcallV (n := 0) F (cQ_size l G (fun q => s.heap.size ≤ q) A ad σ qs nT nW 12 (by decide)) wML_X5_173 wIM_Jx4a65c_size_8abf5 wSE_Jx4a65c_Jx4a65c_size_8abf5 wIN_Jx4a65c wCO_Jx4a65c_size_8abf5 (by decide) rfl ⟨by decide, by decide⟩ (by obtain ⟨_, _, h⟩ := hP.lobj (i := 12) (by decide); exact frec F h _ rfl) hS (fun q h => hA q (Nat.le_trans hS.1 h)) (fun q h => h) hP rfl hl.1 (Nat.le_of_ble_eq_true rfl) dX5_ticketAt_9 ⟨by decide, by decide⟩ (fun E ce q9 H1 locs1 hx9 _ _ _ _ _ => hx9.elim) (fun v H1 locs1 hv hk hS => ?_)
    have hP := hP.old hk
    rw [lsX_12, List.length_map, List.length_range] at hv
    subst hv
    refine lv_icmp_lt (tgt := 26) hx hb dX5_ticketAt_12 (by decide) (fun c_12_2 => ?_) (fun c_12_2 => ?_)
    · obtain ⟨j, hj, rfl⟩ := ix_of (n := nT) (by omega) c_1_1 c_12_2
      refine lv_aload_n hx hb dX5_ticketAt_26 rfl (lv_at hl 0 rfl) ?_
      refine gX5 F (hP.main rfl) 3 (by decide) wFL_X5_30 (fun _ h9 => h9) (v := .ref (ad 7 12)) rfl dX5_ticketAt_27 ?_
      refine lv_iload_n hx hb dX5_ticketAt_30 rfl (lv_at hl 1 rfl) ?_
      refine kcallV (n := 1) F (cQ_get l G (fun q => H1.size ≤ q) A ad σ qs nT nW 12 j (ad 10 j) (by decide) (by rw [lsX_12, List.getElem?_map, List.getElem?_range hj]; rfl)) wML_X5_234 wIM_Jx4a65c_get_915e3 wSE_Jx4a65c_Jx4a65c_get_915e3 wIN_Jx4a65c wCO_Jx4a65c_get_915e3 (by decide) rfl ⟨by decide, by decide⟩ (by obtain ⟨_, _, h⟩ := hP.lobj (i := 12) (by decide); exact frec F h _ rfl) hS (fun q h => hA q (Nat.le_trans hS.1 h)) (fun q h => h) hP rfl hl.1 (Nat.le_of_ble_eq_true rfl) dX5_ticketAt_31 ⟨by decide, by decide⟩ (fun E ce q9 H1 locs1 hx9 _ _ _ _ _ => hx9.elim) (fun v H1 locs1 hv hk hS => ?_)
      have hP := hP.old hk
      subst hv
      refine va_castS hx hb hown (hts _ wCL_X5_96) (hE.1.1.1 4 _ rfl).2 (frec F (hP.tick hj) _ rfl) dX5_ticketAt_34 ?_
      exact karet hx hb hr hlocks hS (by decide) (by decide) dX5_ticketAt_37 (⟨j, hj, rfl, rfl⟩)
    · exact kthrowW F hl9 hS hl.1 (cls := xIO) (text := "no such ticket") (ik := 284) (is := 293) (ic := 288) (by decide +kernel) wCL_X5_284 wIN_java_lang_IndexOutOfBoundsException tx_293 (by simp [nwCast]) io_good io_bad io_ot dX5_ticketAt_15 dX5_ticketAt_18 dX5_ticketAt_19 dX5_ticketAt_22 dX5_ticketAt_25 (by decide) (Nat.le_of_ble_eq_true rfl) (by decide) (by decide) (by decide) (by decide) (fun H1 hz hq => ⟨rfl, ix_no (n := nT) (by omega) (Or.inr c_12_2)⟩)

set_option maxHeartbeats 4000000 in
set_option maxRecDepth 100000 in
theorem kX5_ticketAt0 (l : Launch) (G : GE) (A1 A : Nat → Prop) (ad : Nat → Nat → Nat) (σ : SG) (qs : Nat → List Nat) (nT nW : Nat) (j : Nat) (hj : j < nT) (hnT : nT ≤ 80) : KM l G A1 yX5_ticketAt cX5_ticketAt 2 (some (.object "MuseumTill$Ticket")) (rmL 4 0 0) [.ref (ad 0 0), .int (nI j)] (PX G A ad σ qs nT nW) (fun v _ => v = some (.ref (ad 10 j))) (fun _ _ => False) := by
  refine KM.of (by decide) (Nat.le_of_ble_eq_true rfl) ?_
  intro p e s m args below meth c F hP ls hl
  have hx := F.1.1
  have hb := F.1.2.1
  have hown := F.1.2.2.2.1
  have hts := F.1.2.2.2.2
  have hr := F.2.1
  have hlocks := F.2.2.1
  have hE := F.2.2.2.2.2.1
  have hA := F.2.2.2.2.2.2
  have hS : va_S A1 s.heap s.heap [] := va_S.rf
  have hl : lv_has ls 2 [(0, .ref (ad 0 0)), (1, .int (nI j))] := hl
  have hP := hP
  refine lv_iload_n hx hb dX5_ticketAt_0 rfl (lv_at hl 1 rfl) ?_
  refine lv_if_lt (tgt := 15) hx hb dX5_ticketAt_1 (by decide) (fun c_1_1 => ?_) (fun c_1_1 => ?_)
  · exact absurd c_1_1 (nI_pos (by omega))
  · refine lv_iload_n hx hb dX5_ticketAt_4 rfl (lv_at hl 1 rfl) ?_
    refine lv_aload_n hx hb dX5_ticketAt_5 rfl (lv_at hl 0 rfl) ?_
    refine gX5 F (hP.main rfl) 3 (by decide) wFL_X5_30 (fun _ h9 => h9) (v := .ref (ad 7 12)) rfl dX5_ticketAt_6 ?_
    refine kcallV (n := 0) F (cQ_size l G (fun q => s.heap.size ≤ q) A ad σ qs nT nW 12 (by decide)) wML_X5_173 wIM_Jx4a65c_size_8abf5 wSE_Jx4a65c_Jx4a65c_size_8abf5 wIN_Jx4a65c wCO_Jx4a65c_size_8abf5 (by decide) rfl ⟨by decide, by decide⟩ (by obtain ⟨_, _, h⟩ := hP.lobj (i := 12) (by decide); exact frec F h _ rfl) hS (fun q h => hA q (Nat.le_trans hS.1 h)) (fun q h => h) hP rfl hl.1 (Nat.le_of_ble_eq_true rfl) dX5_ticketAt_9 ⟨by decide, by decide⟩ (fun E ce q9 H1 locs1 hx9 _ _ _ _ _ => hx9.elim) (fun v H1 locs1 hv hk hS => ?_)
    have hP := hP.old hk
    rw [lsX_12, List.length_map, List.length_range] at hv
    subst hv
    refine lv_icmp_lt (tgt := 26) hx hb dX5_ticketAt_12 (by decide) (fun c_12_2 => ?_) (fun c_12_2 => ?_)
    · refine lv_aload_n hx hb dX5_ticketAt_26 rfl (lv_at hl 0 rfl) ?_
      refine gX5 F (hP.main rfl) 3 (by decide) wFL_X5_30 (fun _ h9 => h9) (v := .ref (ad 7 12)) rfl dX5_ticketAt_27 ?_
      refine lv_iload_n hx hb dX5_ticketAt_30 rfl (lv_at hl 1 rfl) ?_
      refine kcallV (n := 1) F (cQ_get l G (fun q => H1.size ≤ q) A ad σ qs nT nW 12 j (ad 10 j) (by decide) (by rw [lsX_12, List.getElem?_map, List.getElem?_range hj]; rfl)) wML_X5_234 wIM_Jx4a65c_get_915e3 wSE_Jx4a65c_Jx4a65c_get_915e3 wIN_Jx4a65c wCO_Jx4a65c_get_915e3 (by decide) rfl ⟨by decide, by decide⟩ (by obtain ⟨_, _, h⟩ := hP.lobj (i := 12) (by decide); exact frec F h _ rfl) hS (fun q h => hA q (Nat.le_trans hS.1 h)) (fun q h => h) hP rfl hl.1 (Nat.le_of_ble_eq_true rfl) dX5_ticketAt_31 ⟨by decide, by decide⟩ (fun E ce q9 H1 locs1 hx9 _ _ _ _ _ => hx9.elim) (fun v H1 locs1 hv hk hS => ?_)
      have hP := hP.old hk
      subst hv
      refine va_castS hx hb hown (hts _ wCL_X5_96) (hE.1.1.1 4 _ rfl).2 (frec F (hP.tick hj) _ rfl) dX5_ticketAt_34 ?_
      exact karet hx hb hr hlocks hS (by decide) (by decide) dX5_ticketAt_37 (rfl)
    · exact absurd (nI_lt hj (by omega)) c_12_2

set_option maxHeartbeats 4000000 in
set_option maxRecDepth 100000 in
theorem kX5_workAt (l : Launch) (G : GE) (A1 A : Nat → Prop) (ad : Nat → Nat → Nat) (σ : SG) (qs : Nat → List Nat) (nT nW : Nat) (hl9 : l.stackTraces = false) (ww : Int32) (hnW : nW ≤ 12) : KM l G A1 yX5_workAt cX5_workAt 2 (some (.object "MuseumTill$Work")) (rmL 4 1 6) [.ref (ad 0 0), .int ww] (PX G A ad σ qs nT nW) (fun v _ => ∃ j, j < nW ∧ ww = nI j ∧ v = some (.ref (ad 9 j))) (fun E _ => E = xIO ∧ ¬ ∃ j, j < nW ∧ ww = nI j) := by
  refine KM.of (by decide) (Nat.le_of_ble_eq_true rfl) ?_
  intro p e s m args below meth c F hP ls hl
  have hx := F.1.1
  have hb := F.1.2.1
  have hown := F.1.2.2.2.1
  have hts := F.1.2.2.2.2
  have hr := F.2.1
  have hlocks := F.2.2.1
  have hE := F.2.2.2.2.2.1
  have hA := F.2.2.2.2.2.2
  have hS : va_S A1 s.heap s.heap [] := va_S.rf
  have hl : lv_has ls 2 [(0, .ref (ad 0 0)), (1, .int ww)] := hl
  have hP := hP
  refine lv_iload_n hx hb dX5_workAt_0 rfl (lv_at hl 1 rfl) ?_
  refine lv_if_lt (tgt := 15) hx hb dX5_workAt_1 (by decide) (fun c_1_1 => ?_) (fun c_1_1 => ?_)
  · exact kthrowW F hl9 hS hl.1 (cls := xIO) (text := "no such work") (ik := 284) (is := 295) (ic := 288) (by decide +kernel) wCL_X5_284 wIN_java_lang_IndexOutOfBoundsException tx_295 (by simp [nwCast]) io_good io_bad io_ot dX5_workAt_15 dX5_workAt_18 dX5_workAt_19 dX5_workAt_22 dX5_workAt_25 (by decide) (Nat.le_of_ble_eq_true rfl) (by decide) (by decide) (by decide) (by decide) (fun H1 hz hq => ⟨rfl, ix_no (n := nW) (by omega) (Or.inl c_1_1)⟩)
  · refine lv_iload_n hx hb dX5_workAt_4 rfl (lv_at hl 1 rfl) ?_
    refine lv_aload_n hx hb dX5_workAt_5 rfl (lv_at hl 0 rfl) ?_
    refine gX5 F (hP.main rfl) 4 (by decide) wFL_X5_34 (fun _ h9 => h9) (v := .ref (ad 7 13)) rfl dX5_workAt_6 ?_
    refine kcallV (n := 0) F (cQ_size l G (fun q => s.heap.size ≤ q) A ad σ qs nT nW 13 (by decide)) wML_X5_173 wIM_Jx4a65c_size_8abf5 wSE_Jx4a65c_Jx4a65c_size_8abf5 wIN_Jx4a65c wCO_Jx4a65c_size_8abf5 (by decide) rfl ⟨by decide, by decide⟩ (by obtain ⟨_, _, h⟩ := hP.lobj (i := 13) (by decide); exact frec F h _ rfl) hS (fun q h => hA q (Nat.le_trans hS.1 h)) (fun q h => h) hP rfl hl.1 (Nat.le_of_ble_eq_true rfl) dX5_workAt_9 ⟨by decide, by decide⟩ (fun E ce q9 H1 locs1 hx9 _ _ _ _ _ => hx9.elim) (fun v H1 locs1 hv hk hS => ?_)
    have hP := hP.old hk
    rw [lsX_13, List.length_map, List.length_range] at hv
    subst hv
    refine lv_icmp_lt (tgt := 26) hx hb dX5_workAt_12 (by decide) (fun c_12_2 => ?_) (fun c_12_2 => ?_)
    · obtain ⟨j, hj, rfl⟩ := ix_of (n := nW) (by omega) c_1_1 c_12_2
      refine lv_aload_n hx hb dX5_workAt_26 rfl (lv_at hl 0 rfl) ?_
      refine gX5 F (hP.main rfl) 4 (by decide) wFL_X5_34 (fun _ h9 => h9) (v := .ref (ad 7 13)) rfl dX5_workAt_27 ?_
      refine lv_iload_n hx hb dX5_workAt_30 rfl (lv_at hl 1 rfl) ?_
      refine kcallV (n := 1) F (cQ_get l G (fun q => H1.size ≤ q) A ad σ qs nT nW 13 j (ad 9 j) (by decide) (by rw [lsX_13, List.getElem?_map, List.getElem?_range hj]; rfl)) wML_X5_234 wIM_Jx4a65c_get_915e3 wSE_Jx4a65c_Jx4a65c_get_915e3 wIN_Jx4a65c wCO_Jx4a65c_get_915e3 (by decide) rfl ⟨by decide, by decide⟩ (by obtain ⟨_, _, h⟩ := hP.lobj (i := 13) (by decide); exact frec F h _ rfl) hS (fun q h => hA q (Nat.le_trans hS.1 h)) (fun q h => h) hP rfl hl.1 (Nat.le_of_ble_eq_true rfl) dX5_workAt_31 ⟨by decide, by decide⟩ (fun E ce q9 H1 locs1 hx9 _ _ _ _ _ => hx9.elim) (fun v H1 locs1 hv hk hS => ?_)
      have hP := hP.old hk
      subst hv
      refine va_castS hx hb hown (hts _ wCL_X5_179) (hE.1.1.1 6 _ rfl).2 (frec F (hP.work hj) _ rfl) dX5_workAt_34 ?_
      exact karet hx hb hr hlocks hS (by decide) (by decide) dX5_workAt_37 (⟨j, hj, rfl, rfl⟩)
    · exact kthrowW F hl9 hS hl.1 (cls := xIO) (text := "no such work") (ik := 284) (is := 295) (ic := 288) (by decide +kernel) wCL_X5_284 wIN_java_lang_IndexOutOfBoundsException tx_295 (by simp [nwCast]) io_good io_bad io_ot dX5_workAt_15 dX5_workAt_18 dX5_workAt_19 dX5_workAt_22 dX5_workAt_25 (by decide) (Nat.le_of_ble_eq_true rfl) (by decide) (by decide) (by decide) (by decide) (fun H1 hz hq => ⟨rfl, ix_no (n := nW) (by omega) (Or.inr c_12_2)⟩)

set_option maxHeartbeats 4000000 in
set_option maxRecDepth 100000 in
theorem kX5_workAt0 (l : Launch) (G : GE) (A1 A : Nat → Prop) (ad : Nat → Nat → Nat) (σ : SG) (qs : Nat → List Nat) (nT nW : Nat) (j : Nat) (hj : j < nW) (hnW : nW ≤ 12) : KM l G A1 yX5_workAt cX5_workAt 2 (some (.object "MuseumTill$Work")) (rmL 4 0 0) [.ref (ad 0 0), .int (nI j)] (PX G A ad σ qs nT nW) (fun v _ => v = some (.ref (ad 9 j))) (fun _ _ => False) := by
  refine KM.of (by decide) (Nat.le_of_ble_eq_true rfl) ?_
  intro p e s m args below meth c F hP ls hl
  have hx := F.1.1
  have hb := F.1.2.1
  have hown := F.1.2.2.2.1
  have hts := F.1.2.2.2.2
  have hr := F.2.1
  have hlocks := F.2.2.1
  have hE := F.2.2.2.2.2.1
  have hA := F.2.2.2.2.2.2
  have hS : va_S A1 s.heap s.heap [] := va_S.rf
  have hl : lv_has ls 2 [(0, .ref (ad 0 0)), (1, .int (nI j))] := hl
  have hP := hP
  refine lv_iload_n hx hb dX5_workAt_0 rfl (lv_at hl 1 rfl) ?_
  refine lv_if_lt (tgt := 15) hx hb dX5_workAt_1 (by decide) (fun c_1_1 => ?_) (fun c_1_1 => ?_)
  · exact absurd c_1_1 (nI_pos (by omega))
  · refine lv_iload_n hx hb dX5_workAt_4 rfl (lv_at hl 1 rfl) ?_
    refine lv_aload_n hx hb dX5_workAt_5 rfl (lv_at hl 0 rfl) ?_
    refine gX5 F (hP.main rfl) 4 (by decide) wFL_X5_34 (fun _ h9 => h9) (v := .ref (ad 7 13)) rfl dX5_workAt_6 ?_
    refine kcallV (n := 0) F (cQ_size l G (fun q => s.heap.size ≤ q) A ad σ qs nT nW 13 (by decide)) wML_X5_173 wIM_Jx4a65c_size_8abf5 wSE_Jx4a65c_Jx4a65c_size_8abf5 wIN_Jx4a65c wCO_Jx4a65c_size_8abf5 (by decide) rfl ⟨by decide, by decide⟩ (by obtain ⟨_, _, h⟩ := hP.lobj (i := 13) (by decide); exact frec F h _ rfl) hS (fun q h => hA q (Nat.le_trans hS.1 h)) (fun q h => h) hP rfl hl.1 (Nat.le_of_ble_eq_true rfl) dX5_workAt_9 ⟨by decide, by decide⟩ (fun E ce q9 H1 locs1 hx9 _ _ _ _ _ => hx9.elim) (fun v H1 locs1 hv hk hS => ?_)
    have hP := hP.old hk
    rw [lsX_13, List.length_map, List.length_range] at hv
    subst hv
    refine lv_icmp_lt (tgt := 26) hx hb dX5_workAt_12 (by decide) (fun c_12_2 => ?_) (fun c_12_2 => ?_)
    · refine lv_aload_n hx hb dX5_workAt_26 rfl (lv_at hl 0 rfl) ?_
      refine gX5 F (hP.main rfl) 4 (by decide) wFL_X5_34 (fun _ h9 => h9) (v := .ref (ad 7 13)) rfl dX5_workAt_27 ?_
      refine lv_iload_n hx hb dX5_workAt_30 rfl (lv_at hl 1 rfl) ?_
      refine kcallV (n := 1) F (cQ_get l G (fun q => H1.size ≤ q) A ad σ qs nT nW 13 j (ad 9 j) (by decide) (by rw [lsX_13, List.getElem?_map, List.getElem?_range hj]; rfl)) wML_X5_234 wIM_Jx4a65c_get_915e3 wSE_Jx4a65c_Jx4a65c_get_915e3 wIN_Jx4a65c wCO_Jx4a65c_get_915e3 (by decide) rfl ⟨by decide, by decide⟩ (by obtain ⟨_, _, h⟩ := hP.lobj (i := 13) (by decide); exact frec F h _ rfl) hS (fun q h => hA q (Nat.le_trans hS.1 h)) (fun q h => h) hP rfl hl.1 (Nat.le_of_ble_eq_true rfl) dX5_workAt_31 ⟨by decide, by decide⟩ (fun E ce q9 H1 locs1 hx9 _ _ _ _ _ => hx9.elim) (fun v H1 locs1 hv hk hS => ?_)
      have hP := hP.old hk
      subst hv
      refine va_castS hx hb hown (hts _ wCL_X5_179) (hE.1.1.1 6 _ rfl).2 (frec F (hP.work hj) _ rfl) dX5_workAt_34 ?_
      exact karet hx hb hr hlocks hS (by decide) (by decide) dX5_workAt_37 (rfl)
    · exact absurd (nI_lt hj (by omega)) c_12_2

