set_option maxHeartbeats 4000000 in
set_option maxRecDepth 100000 in
theorem kX5_checkRange (l : Launch) (G : GE) (A1 : Nat → Prop)  (hl9 : l.stackTraces = false) (vv lo hi : Int32) : KM l G A1 yX5_checkRange cX5_checkRange 3 none (rmL 1 1 6) [.int vv, .int lo, .int hi] (fun _ => True) (fun v _ => v = none ∧ ¬ vv < lo ∧ vv ≤ hi) (fun E _ => E = xIA ∧ (vv < lo ∨ ¬ vv ≤ hi)) := by
  refine KM.of (by decide) (Nat.le_of_ble_eq_true rfl) ?_
  intro p e s m args below meth c F hP ls hl
  have hx := F.1.1
  have hb := F.1.2.1
  have hown := F.1.2.2.2.1
  have hts := F.1.2.2.2.2
  have hr := F.2.1
  have hlocks := F.2.2.1
  have hE := F.2.2.2.2.2.1
  have hA := F.2.2.2.2.2.2
  have hS : va_S A1 s.heap s.heap [] := va_S.rf
  have hl : lv_has ls 3 [(0, .int vv), (1, .int lo), (2, .int hi)] := hl
  have hP := hP
  refine lv_iload_n hx hb dX5_checkRange_0 rfl (lv_at hl 0 rfl) ?_
  refine lv_iload_n hx hb dX5_checkRange_1 rfl (lv_at hl 1 rfl) ?_
  refine lv_icmp_lt (tgt := 10) hx hb dX5_checkRange_2 (by decide) (fun c_2_1 => ?_) (fun c_2_1 => ?_)
  · exact kthrowW F hl9 hS hl.1 (cls := xIA) (text := "out of range") (ik := 299) (is := 301) (ic := 303) (by decide +kernel) wCL_X5_299 wIN_java_lang_IllegalArgumentException tx_301 (by simp [nwCast]) ia_good ia_bad ia_ot dX5_checkRange_10 dX5_checkRange_13 dX5_checkRange_14 dX5_checkRange_17 dX5_checkRange_20 (by decide) (Nat.le_of_ble_eq_true rfl) (by decide) (by decide) (by decide) (by decide) (fun H1 hz hq => ⟨rfl, (Or.inl c_2_1)⟩)
  · refine lv_iload_n hx hb dX5_checkRange_5 rfl (lv_at hl 0 rfl) ?_
    refine lv_iload_n hx hb dX5_checkRange_6 rfl (lv_at hl 2 rfl) ?_
    refine lv_icmp_le (tgt := 21) hx hb dX5_checkRange_7 (by decide) (fun c_7_2 => ?_) (fun c_7_2 => ?_)
    · exact kvret hx hb hr hlocks hS (by decide) (by decide) dX5_checkRange_21 (⟨rfl, c_2_1, c_7_2⟩)
    · exact kthrowW F hl9 hS hl.1 (cls := xIA) (text := "out of range") (ik := 299) (is := 301) (ic := 303) (by decide +kernel) wCL_X5_299 wIN_java_lang_IllegalArgumentException tx_301 (by simp [nwCast]) ia_good ia_bad ia_ot dX5_checkRange_10 dX5_checkRange_13 dX5_checkRange_14 dX5_checkRange_17 dX5_checkRange_20 (by decide) (Nat.le_of_ble_eq_true rfl) (by decide) (by decide) (by decide) (by decide) (fun H1 hz hq => ⟨rfl, (Or.inr c_7_2)⟩)

set_option maxHeartbeats 4000000 in
set_option maxRecDepth 100000 in
theorem kX5_checkPlace (l : Launch) (G : GE) (A1 : Nat → Prop)  (hl9 : l.stackTraces = false) (vv : Int32) : KM l G A1 yX5_checkPlace cX5_checkPlace 1 none (rmL 1 1 6) [.int vv] (fun _ => True) (fun v _ => v = none ∧ 0 ≤ vv) (fun E _ => E = xIO ∧ ¬ 0 ≤ vv) := by
  refine KM.of (by decide) (Nat.le_of_ble_eq_true rfl) ?_
  intro p e s m args below meth c F hP ls hl
  have hx := F.1.1
  have hb := F.1.2.1
  have hown := F.1.2.2.2.1
  have hts := F.1.2.2.2.2
  have hr := F.2.1
  have hlocks := F.2.2.1
  have hE := F.2.2.2.2.2.1
  have hA := F.2.2.2.2.2.2
  have hS : va_S A1 s.heap s.heap [] := va_S.rf
  have hl : lv_has ls 1 [(0, .int vv)] := hl
  have hP := hP
  refine lv_iload_n hx hb dX5_checkPlace_0 rfl (lv_at hl 0 rfl) ?_
  refine lv_if_ge (tgt := 15) hx hb dX5_checkPlace_1 (by decide) (fun c_1_1 => ?_) (fun c_1_1 => ?_)
  · exact kvret hx hb hr hlocks hS (by decide) (by decide) dX5_checkPlace_15 (⟨rfl, c_1_1⟩)
  · exact kthrowW F hl9 hS hl.1 (cls := xIO) (text := "no such place") (ik := 284) (is := 297) (ic := 288) (by decide +kernel) wCL_X5_284 wIN_java_lang_IndexOutOfBoundsException tx_297 (by simp [nwCast]) io_good io_bad io_ot dX5_checkPlace_4 dX5_checkPlace_7 dX5_checkPlace_8 dX5_checkPlace_11 dX5_checkPlace_14 (by decide) (Nat.le_of_ble_eq_true rfl) (by decide) (by decide) (by decide) (by decide) (fun H1 hz hq => ⟨rfl, c_1_1⟩)

set_option maxHeartbeats 4000000 in
set_option maxRecDepth 100000 in
theorem kX5_checkRealHouse (l : Launch) (G : GE) (A1 : Nat → Prop)  (hl9 : l.stackTraces = false) (hh : Int32) : KM l G A1 yX5_checkRealHouse cX5_checkRealHouse 1 none (rmL 1 1 6) [.int hh] (fun _ => True) (fun v _ => v = none ∧ ∃ j, j < 4 ∧ hh = nI j) (fun E _ => E = xIO ∧ ¬ ∃ j, j < 4 ∧ hh = nI j) := by
  refine KM.of (by decide) (Nat.le_of_ble_eq_true rfl) ?_
  intro p e s m args below meth c F hP ls hl
  have hx := F.1.1
  have hb := F.1.2.1
  have hown := F.1.2.2.2.1
  have hts := F.1.2.2.2.2
  have hr := F.2.1
  have hlocks := F.2.2.1
  have hE := F.2.2.2.2.2.1
  have hA := F.2.2.2.2.2.2
  have hS : va_S A1 s.heap s.heap [] := va_S.rf
  have hl : lv_has ls 1 [(0, .int hh)] := hl
  have hP := hP
  refine lv_iload_n hx hb dX5_checkRealHouse_0 rfl (lv_at hl 0 rfl) ?_
  refine lv_if_lt (tgt := 9) hx hb dX5_checkRealHouse_1 (by decide) (fun c_1_1 => ?_) (fun c_1_1 => ?_)
  · exact kthrowW F hl9 hS hl.1 (cls := xIO) (text := "no such house") (ik := 284) (is := 286) (ic := 288) (by decide +kernel) wCL_X5_284 wIN_java_lang_IndexOutOfBoundsException tx_286 (by simp [nwCast]) io_good io_bad io_ot dX5_checkRealHouse_9 dX5_checkRealHouse_12 dX5_checkRealHouse_13 dX5_checkRealHouse_16 dX5_checkRealHouse_19 (by decide) (Nat.le_of_ble_eq_true rfl) (by decide) (by decide) (by decide) (by decide) (fun H1 hz hq => ⟨rfl, ix_no (n := 4) (by decide) (Or.inl c_1_1)⟩)
  · refine lv_iload_n hx hb dX5_checkRealHouse_4 rfl (lv_at hl 0 rfl) ?_
    refine lv_iconst (v := 4) hx hb dX5_checkRealHouse_5 (by decide) ?_
    refine lv_icmp_lt (tgt := 20) hx hb dX5_checkRealHouse_6 (by decide) (fun c_6_2 => ?_) (fun c_6_2 => ?_)
    · obtain ⟨j, hj, rfl⟩ := ix_of (n := 4) (by decide) c_1_1 c_6_2
      exact kvret hx hb hr hlocks hS (by decide) (by decide) dX5_checkRealHouse_20 (⟨rfl, j, hj, rfl⟩)
    · exact kthrowW F hl9 hS hl.1 (cls := xIO) (text := "no such house") (ik := 284) (is := 286) (ic := 288) (by decide +kernel) wCL_X5_284 wIN_java_lang_IndexOutOfBoundsException tx_286 (by simp [nwCast]) io_good io_bad io_ot dX5_checkRealHouse_9 dX5_checkRealHouse_12 dX5_checkRealHouse_13 dX5_checkRealHouse_16 dX5_checkRealHouse_19 (by decide) (Nat.le_of_ble_eq_true rfl) (by decide) (by decide) (by decide) (by decide) (fun H1 hz hq => ⟨rfl, ix_no (n := 4) (by decide) (Or.inr c_6_2)⟩)

set_option maxHeartbeats 4000000 in
set_option maxRecDepth 100000 in
theorem kX5_checkTicketsLeft (l : Launch) (G : GE) (A1 A : Nat → Prop) (ad : Nat → Nat → Nat) (σ : SG) (qs : Nat → List Nat) (nT nW : Nat) (hl9 : l.stackTraces = false) (hnT : nT ≤ 80) : KM l G A1 yX5_checkTicketsLeft cX5_checkTicketsLeft 1 none (rmL 2 1 6) [.ref (ad 0 0)] (PX G A ad σ qs nT nW) (fun v _ => v = none ∧ nT < 80) (fun E _ => E = xIS ∧ nT = 80) := by
  refine KM.of (by decide) (Nat.le_of_ble_eq_true rfl) ?_
  intro p e s m args below meth c F hP ls hl
  have hx := F.1.1
  have hb := F.1.2.1
  have hown := F.1.2.2.2.1
  have hts := F.1.2.2.2.2
  have hr := F.2.1
  have hlocks := F.2.2.1
  have hE := F.2.2.2.2.2.1
  have hA := F.2.2.2.2.2.2
  have hS : va_S A1 s.heap s.heap [] := va_S.rf
  have hl : lv_has ls 1 [(0, .ref (ad 0 0))] := hl
  have hP := hP
  refine lv_aload_n hx hb dX5_checkTicketsLeft_0 rfl (lv_at hl 0 rfl) ?_
  refine gX5 F (hP.main rfl) 3 (by decide) wFL_X5_30 (fun _ h9 => h9) (v := .ref (ad 7 12)) rfl dX5_checkTicketsLeft_1 ?_
  refine kcallV (n := 0) F (cQ_size l G (fun q => s.heap.size ≤ q) A ad σ qs nT nW 12 (by decide)) wML_X5_173 wIM_Jx4a65c_size_8abf5 wSE_Jx4a65c_Jx4a65c_size_8abf5 wIN_Jx4a65c wCO_Jx4a65c_size_8abf5 (by decide) rfl ⟨by decide, by decide⟩ (by obtain ⟨_, _, h⟩ := hP.lobj (i := 12) (by decide); exact frec F h _ rfl) hS (fun q h => hA q (Nat.le_trans hS.1 h)) (fun q h => h) hP rfl hl.1 (Nat.le_of_ble_eq_true rfl) dX5_checkTicketsLeft_4 ⟨by decide, by decide⟩ (fun E ce q9 H1 locs1 hx9 _ _ _ _ _ => hx9.elim) (fun v H1 locs1 hv hk hS => ?_)
  have hP := hP.old hk
  rw [lsX_12, List.length_map, List.length_range] at hv
  subst hv
  refine lv_bipush (v := 80) hx hb dX5_checkTicketsLeft_7 (by decide) ?_
  refine lv_icmp_lt (tgt := 23) hx hb dX5_checkTicketsLeft_9 (by decide) (fun c_9_1 => ?_) (fun c_9_1 => ?_)
  · exact kvret hx hb hr hlocks hS (by decide) (by decide) dX5_checkTicketsLeft_23 (⟨rfl, (nI_ltI (b := 80) (by omega) (by decide)).mp c_9_1⟩)
  · exact kthrowW F hl9 hS hl.1 (cls := xIS) (text := "no more tickets") (ik := 72) (is := 304) (ic := 76) (by decide +kernel) wCL_X5_72 wIN_java_lang_IllegalStateException tx_304 (by simp [nwCast]) is_good is_bad is_ot dX5_checkTicketsLeft_12 dX5_checkTicketsLeft_15 dX5_checkTicketsLeft_16 dX5_checkTicketsLeft_19 dX5_checkTicketsLeft_22 (by decide) (Nat.le_of_ble_eq_true rfl) (by decide) (by decide) (by decide) (by decide) (fun H1 hz hq => ⟨rfl, Nat.le_antisymm hnT (Nat.not_lt.mp (fun z => c_9_1 (nI_lt (b := 80) z (by decide))))⟩)

set_option maxHeartbeats 4000000 in
set_option maxRecDepth 100000 in
theorem kX5_checkUsable (l : Launch) (G : GE) (A1 A : Nat → Prop) (ad : Nat → Nat → Nat) (σ : SG) (qs : Nat → List Nat) (nT nW : Nat) (hl9 : l.stackTraces = false) (t : Nat) (ht : t < nT) : KM l G A1 yX5_checkUsable cX5_checkUsable 2 none (rmL 1 1 6) [.ref (ad 0 0), .ref (ad 10 t)] (PX G A ad σ qs nT nW) (fun v _ => v = none ∧ ¬ nI t < σ 26 0 ∧ σ 14 t = 0) (fun E _ => E = xIS ∧ (nI t < σ 26 0 ∨ ¬ σ 14 t = 0)) := by
  refine KM.of (by decide) (Nat.le_of_ble_eq_true rfl) ?_
  intro p e s m args below meth c F hP ls hl
  have hx := F.1.1
  have hb := F.1.2.1
  have hown := F.1.2.2.2.1
  have hts := F.1.2.2.2.2
  have hr := F.2.1
  have hlocks := F.2.2.1
  have hE := F.2.2.2.2.2.1
  have hA := F.2.2.2.2.2.2
  have hS : va_S A1 s.heap s.heap [] := va_S.rf
  have hl : lv_has ls 2 [(0, .ref (ad 0 0)), (1, .ref (ad 10 t))] := hl
  have hP := hP
  refine lv_aload_n hx hb dX5_checkUsable_0 rfl (lv_at hl 1 rfl) ?_
  refine gX2 F (hP.tick ht) 0 (by decide) wFL_X5_238 (fun _ h9 => h9) (v := .int (nI t)) rfl dX5_checkUsable_1 ?_
  refine lv_aload_n hx hb dX5_checkUsable_4 rfl (lv_at hl 0 rfl) ?_
  refine gX5 F (hP.main rfl) 6 (by decide) wFL_X5_278 (fun _ h9 => h9) (v := .int (σ 26 0)) rfl dX5_checkUsable_5 ?_
  refine lv_icmp_lt (tgt := 18) hx hb dX5_checkUsable_8 (by decide) (fun c_8_1 => ?_) (fun c_8_1 => ?_)
  · exact kthrowW F hl9 hS hl.1 (cls := xIS) (text := "not of today, or void") (ik := 72) (is := 306) (ic := 76) (by decide +kernel) wCL_X5_72 wIN_java_lang_IllegalStateException tx_306 (by simp [nwCast]) is_good is_bad is_ot dX5_checkUsable_18 dX5_checkUsable_21 dX5_checkUsable_22 dX5_checkUsable_25 dX5_checkUsable_28 (by decide) (Nat.le_of_ble_eq_true rfl) (by decide) (by decide) (by decide) (by decide) (fun H1 hz hq => ⟨rfl, (Or.inl c_8_1)⟩)
  · refine lv_aload_n hx hb dX5_checkUsable_11 rfl (lv_at hl 1 rfl) ?_
    refine gX2 F (hP.tick ht) 5 (by decide) wFL_X5_110 (fun _ h9 => h9) (v := .int (σ 14 t)) rfl dX5_checkUsable_12 ?_
    refine lv_if_eq (tgt := 29) hx hb dX5_checkUsable_15 (by decide) (fun c_15_2 => ?_) (fun c_15_2 => ?_)
    · exact kvret hx hb hr hlocks hS (by decide) (by decide) dX5_checkUsable_29 (⟨rfl, c_8_1, c_15_2⟩)
    · exact kthrowW F hl9 hS hl.1 (cls := xIS) (text := "not of today, or void") (ik := 72) (is := 306) (ic := 76) (by decide +kernel) wCL_X5_72 wIN_java_lang_IllegalStateException tx_306 (by simp [nwCast]) is_good is_bad is_ot dX5_checkUsable_18 dX5_checkUsable_21 dX5_checkUsable_22 dX5_checkUsable_25 dX5_checkUsable_28 (by decide) (Nat.le_of_ble_eq_true rfl) (by decide) (by decide) (by decide) (by decide) (fun H1 hz hq => ⟨rfl, (Or.inr c_15_2)⟩)

def pc1 (x : Int32) : Int32 := x - ((x.toUInt32 >>> ((1 : Int32).toUInt32 &&& Int32.toUInt32 31)).toInt32 &&& 1431655765)
def pc2 (x : Int32) : Int32 := (x &&& 858993459) + ((x.toUInt32 >>> ((2 : Int32).toUInt32 &&& Int32.toUInt32 31)).toInt32 &&& 858993459)
def pc3 (x : Int32) : Int32 := (x + (x.toUInt32 >>> ((4 : Int32).toUInt32 &&& Int32.toUInt32 31)).toInt32) &&& 252645135
def pc4 (x : Int32) : Int32 := x + (x.toUInt32 >>> ((8 : Int32).toUInt32 &&& Int32.toUInt32 31)).toInt32
def pc5 (x : Int32) : Int32 := x + (x.toUInt32 >>> ((16 : Int32).toUInt32 &&& Int32.toUInt32 31)).toInt32
def popc (x : Int32) : Int32 := pc5 (pc4 (pc3 (pc2 (pc1 x)))) &&& 63
set_option maxHeartbeats 4000000 in
set_option maxRecDepth 100000 in
theorem kJ_bitCount (l : Launch) (G : GE) (A1 : Nat → Prop)  (x : Int32) : KM l G A1 yJ6_bitCount_0f7a4 cJ6_bitCount_0f7a4 1 (some .int) (rmL 1 0 0) [.int x] (fun _ => True) (fun v _ => v = some (.int (popc x))) (fun _ _ => False) := by
  refine KM.of (by decide) (Nat.le_of_ble_eq_true rfl) ?_
  intro p e s m args below meth c F hP ls hl
  have hx := F.1.1
  have hb := F.1.2.1
  have hown := F.1.2.2.2.1
  have hts := F.1.2.2.2.2
  have hr := F.2.1
  have hlocks := F.2.2.1
  have hE := F.2.2.2.2.2.1
  have hA := F.2.2.2.2.2.2
  have hS : va_S A1 s.heap s.heap [] := va_S.rf
  have hl : lv_has ls 1 [(0, .int x)] := hl
  have hP := hP
  refine lv_iload_n hx hb dJ6_bitCount_0f7a4_0 rfl (lv_at hl 0 rfl) ?_
  refine lv_iload_n hx hb dJ6_bitCount_0f7a4_1 rfl (lv_at hl 0 rfl) ?_
  refine lv_iconst (v := 1) hx hb dJ6_bitCount_0f7a4_2 (by decide) ?_
  refine lv_iushr hx hb dJ6_bitCount_0f7a4_3 rfl ?_
  refine lv_ldcw (v := 1431655765) hx hb hown (hts _ wCN_J6_265) dJ6_bitCount_0f7a4_4 ?_
  refine lv_iand hx hb dJ6_bitCount_0f7a4_7 ?_
  refine lv_isub hx hb dJ6_bitCount_0f7a4_8 ?_
  refine W.eq (g2 := F0 m 9 ls [.int (pc1 x)]) (congrArg (fun z => F0 m 9 ls [.int z]) (rfl)) ?_
  refine lv_istore_n (lv' := [(0, .int (pc1 x))]) hx hb dJ6_bitCount_0f7a4_9 rfl hl (by decide) rfl (fun ls hl => ?_)
  refine lv_iload_n hx hb dJ6_bitCount_0f7a4_10 rfl (lv_at hl 0 rfl) ?_
  refine lv_ldcw (v := 858993459) hx hb hown (hts _ wCN_J6_266) dJ6_bitCount_0f7a4_11 ?_
  refine lv_iand hx hb dJ6_bitCount_0f7a4_14 ?_
  refine lv_iload_n hx hb dJ6_bitCount_0f7a4_15 rfl (lv_at hl 0 rfl) ?_
  refine lv_iconst (v := 2) hx hb dJ6_bitCount_0f7a4_16 (by decide) ?_
  refine lv_iushr hx hb dJ6_bitCount_0f7a4_17 rfl ?_
  refine lv_ldcw (v := 858993459) hx hb hown (hts _ wCN_J6_266) dJ6_bitCount_0f7a4_18 ?_
  refine lv_iand hx hb dJ6_bitCount_0f7a4_21 ?_
  refine lv_iadd hx hb dJ6_bitCount_0f7a4_22 ?_
  refine W.eq (g2 := F0 m 23 ls [.int (pc2 (pc1 x))]) (congrArg (fun z => F0 m 23 ls [.int z]) (rfl)) ?_
  refine lv_istore_n (lv' := [(0, .int (pc2 (pc1 x)))]) hx hb dJ6_bitCount_0f7a4_23 rfl hl (by decide) rfl (fun ls hl => ?_)
  refine lv_iload_n hx hb dJ6_bitCount_0f7a4_24 rfl (lv_at hl 0 rfl) ?_
  refine lv_iload_n hx hb dJ6_bitCount_0f7a4_25 rfl (lv_at hl 0 rfl) ?_
  refine lv_iconst (v := 4) hx hb dJ6_bitCount_0f7a4_26 (by decide) ?_
  refine lv_iushr hx hb dJ6_bitCount_0f7a4_27 rfl ?_
  refine lv_iadd hx hb dJ6_bitCount_0f7a4_28 ?_
  refine lv_ldcw (v := 252645135) hx hb hown (hts _ wCN_J6_267) dJ6_bitCount_0f7a4_29 ?_
  refine lv_iand hx hb dJ6_bitCount_0f7a4_32 ?_
  refine W.eq (g2 := F0 m 33 ls [.int (pc3 (pc2 (pc1 x)))]) (congrArg (fun z => F0 m 33 ls [.int z]) (rfl)) ?_
  refine lv_istore_n (lv' := [(0, .int (pc3 (pc2 (pc1 x))))]) hx hb dJ6_bitCount_0f7a4_33 rfl hl (by decide) rfl (fun ls hl => ?_)
  refine lv_iload_n hx hb dJ6_bitCount_0f7a4_34 rfl (lv_at hl 0 rfl) ?_
  refine lv_iload_n hx hb dJ6_bitCount_0f7a4_35 rfl (lv_at hl 0 rfl) ?_
  refine lv_bipush (v := 8) hx hb dJ6_bitCount_0f7a4_36 (by decide) ?_
  refine lv_iushr hx hb dJ6_bitCount_0f7a4_38 rfl ?_
  refine lv_iadd hx hb dJ6_bitCount_0f7a4_39 ?_
  refine W.eq (g2 := F0 m 40 ls [.int (pc4 (pc3 (pc2 (pc1 x))))]) (congrArg (fun z => F0 m 40 ls [.int z]) (rfl)) ?_
  refine lv_istore_n (lv' := [(0, .int (pc4 (pc3 (pc2 (pc1 x)))))]) hx hb dJ6_bitCount_0f7a4_40 rfl hl (by decide) rfl (fun ls hl => ?_)
  refine lv_iload_n hx hb dJ6_bitCount_0f7a4_41 rfl (lv_at hl 0 rfl) ?_
  refine lv_iload_n hx hb dJ6_bitCount_0f7a4_42 rfl (lv_at hl 0 rfl) ?_
  refine lv_bipush (v := 16) hx hb dJ6_bitCount_0f7a4_43 (by decide) ?_
  refine lv_iushr hx hb dJ6_bitCount_0f7a4_45 rfl ?_
  refine lv_iadd hx hb dJ6_bitCount_0f7a4_46 ?_
  refine W.eq (g2 := F0 m 47 ls [.int (pc5 (pc4 (pc3 (pc2 (pc1 x)))))]) (congrArg (fun z => F0 m 47 ls [.int z]) (rfl)) ?_
  refine lv_istore_n (lv' := [(0, .int (pc5 (pc4 (pc3 (pc2 (pc1 x))))))]) hx hb dJ6_bitCount_0f7a4_47 rfl hl (by decide) rfl (fun ls hl => ?_)
  refine lv_iload_n hx hb dJ6_bitCount_0f7a4_48 rfl (lv_at hl 0 rfl) ?_
  refine lv_bipush (v := 63) hx hb dJ6_bitCount_0f7a4_49 (by decide) ?_
  refine lv_iand hx hb dJ6_bitCount_0f7a4_51 ?_
  exact kiret hx hb hr hlocks hS (by decide) (by decide) dJ6_bitCount_0f7a4_52 (rfl)

def fEach (am se : Int32) : Int32 := if popc se = 0 then 0 else am / popc se
def fPart (am se hh : Int32) : Int32 := if hh = -1 then am - fEach am se * popc se else fEach am se * popc (se &&& ((7 : Int32) <<< ((hh * 3) &&& 31)))
set_option maxHeartbeats 4000000 in
set_option maxRecDepth 100000 in
theorem kX5_partOf (l : Launch) (G : GE) (A1 : Nat → Prop)  (am se hh : Int32) : KM l G A1 yX5_partOf cX5_partOf 6 (some .int) (rmL 2 0 0) [.int am, .int se, .int hh] (fun _ => True) (fun v _ => v = some (.int (fPart am se hh))) (fun _ _ => False) := by
  refine KM.of (by decide) (Nat.le_of_ble_eq_true rfl) ?_
  intro p e s m args below meth c F hP ls hl
  have hx := F.1.1
  have hb := F.1.2.1
  have hown := F.1.2.2.2.1
  have hts := F.1.2.2.2.2
  have hr := F.2.1
  have hlocks := F.2.2.1
  have hE := F.2.2.2.2.2.1
  have hA := F.2.2.2.2.2.2
  have hS : va_S A1 s.heap s.heap [] := va_S.rf
  have hl : lv_has ls 6 [(0, .int am), (1, .int se), (2, .int hh)] := hl
  have hP := hP
  refine lv_iload_n hx hb dX5_partOf_0 rfl (lv_at hl 1 rfl) ?_
  refine kcallS (n := 1) F (kJ_bitCount l G (fun q => s.heap.size ≤ q) se) wML_X5_347 wST_J6_bitCount_0f7a4 wIN_J6 wCO_J6_bitCount_0f7a4 (by decide) rfl ⟨by decide, by decide⟩ hS (fun q h => hA q (Nat.le_trans hS.1 h)) (fun q h => h) trivial rfl hl.1 (Nat.le_of_ble_eq_true rfl) dX5_partOf_1 ⟨by decide, by decide⟩ (fun E ce q9 H1 locs1 hx9 _ _ _ _ _ => hx9.elim) (fun v H1 locs1 hv hk hS => ?_)
  subst hv
  refine lv_istore_n (lv' := [(3, .int (popc se)), (0, .int am), (1, .int se), (2, .int hh)]) hx hb dX5_partOf_4 rfl hl (by decide) rfl (fun ls hl => ?_)
  refine lv_iload_n hx hb dX5_partOf_5 rfl (lv_at hl 0 rfl) ?_
  refine lv_if_ne (tgt := 13) hx hb dX5_partOf_6 (by decide) (fun c_6_1 => ?_) (fun c_6_1 => ?_)
  · refine lv_iload_n hx hb dX5_partOf_13 rfl (lv_at hl 1 rfl) ?_
    refine lv_iload_n hx hb dX5_partOf_14 rfl (lv_at hl 0 rfl) ?_
    refine lv_idiv hx hb dX5_partOf_15 c_6_1 ?_
    refine lv_istore (lv' := [(4, .int (am / (popc se))), (3, .int (popc se)), (0, .int am), (1, .int se), (2, .int hh)]) hx hb dX5_partOf_16 hl (by decide) rfl (fun ls hl => ?_)
    refine lv_iload_n hx hb dX5_partOf_18 rfl (lv_at hl 4 rfl) ?_
    refine lv_iconst (v := (-1)) hx hb dX5_partOf_19 (by decide) ?_
    refine lv_icmp_ne (tgt := 30) hx hb dX5_partOf_20 (by decide) (fun c_20_2 => ?_) (fun c_20_2 => ?_)
    · refine lv_bipush (v := 7) hx hb dX5_partOf_30 (by decide) ?_
      refine lv_iload_n hx hb dX5_partOf_32 rfl (lv_at hl 4 rfl) ?_
      refine lv_iconst (v := 3) hx hb dX5_partOf_33 (by decide) ?_
      refine lv_imul hx hb dX5_partOf_34 ?_
      refine lv_ishl hx hb dX5_partOf_35 ?_
      refine lv_istore (lv' := [(5, .int (7 <<< ((hh * 3) &&& 31))), (4, .int (am / (popc se))), (3, .int (popc se)), (0, .int am), (1, .int se), (2, .int hh)]) hx hb dX5_partOf_36 hl (by decide) rfl (fun ls hl => ?_)
      refine lv_iload hx hb dX5_partOf_38 (lv_at hl 1 rfl) ?_
      refine lv_iload_n hx hb dX5_partOf_40 rfl (lv_at hl 4 rfl) ?_
      refine lv_iload hx hb dX5_partOf_41 (lv_at hl 0 rfl) ?_
      refine lv_iand hx hb dX5_partOf_43 ?_
      refine kcallS (n := 1) F (kJ_bitCount l G (fun q => H1.size ≤ q) (se &&& (7 <<< ((hh * 3) &&& 31)))) wML_X5_347 wST_J6_bitCount_0f7a4 wIN_J6 wCO_J6_bitCount_0f7a4 (by decide) rfl ⟨by decide, by decide⟩ hS (fun q h => hA q (Nat.le_trans hS.1 h)) (fun q h => h) trivial rfl hl.1 (Nat.le_of_ble_eq_true rfl) dX5_partOf_44 ⟨by decide, by decide⟩ (fun E ce q9 H1 locs1 hx9 _ _ _ _ _ => hx9.elim) (fun v H1 locs1 hv hk hS => ?_)
      subst hv
      refine lv_imul hx hb dX5_partOf_47 ?_
      exact kiret hx hb hr hlocks hS (by decide) (by decide) dX5_partOf_48 (by simp [fPart, fEach, c_6_1, c_20_2])
    · refine lv_iload_n hx hb dX5_partOf_23 rfl (lv_at hl 2 rfl) ?_
      refine lv_iload hx hb dX5_partOf_24 (lv_at hl 0 rfl) ?_
      refine lv_iload_n hx hb dX5_partOf_26 rfl (lv_at hl 1 rfl) ?_
      refine lv_imul hx hb dX5_partOf_27 ?_
      refine lv_isub hx hb dX5_partOf_28 ?_
      exact kiret hx hb hr hlocks hS (by decide) (by decide) dX5_partOf_29 (by simp [fPart, fEach, c_6_1, c_20_2])
  · refine lv_iconst (v := 0) hx hb dX5_partOf_9 (by decide) ?_
    refine lv_goto (tgt := 16) hx hb dX5_partOf_10 (by decide) ?_
    refine lv_istore (lv' := [(4, .int 0), (3, .int (popc se)), (0, .int am), (1, .int se), (2, .int hh)]) hx hb dX5_partOf_16 hl (by decide) rfl (fun ls hl => ?_)
    refine lv_iload_n hx hb dX5_partOf_18 rfl (lv_at hl 4 rfl) ?_
    refine lv_iconst (v := (-1)) hx hb dX5_partOf_19 (by decide) ?_
    refine lv_icmp_ne (tgt := 30) hx hb dX5_partOf_20 (by decide) (fun c_20_3 => ?_) (fun c_20_3 => ?_)
    · refine lv_bipush (v := 7) hx hb dX5_partOf_30 (by decide) ?_
      refine lv_iload_n hx hb dX5_partOf_32 rfl (lv_at hl 4 rfl) ?_
      refine lv_iconst (v := 3) hx hb dX5_partOf_33 (by decide) ?_
      refine lv_imul hx hb dX5_partOf_34 ?_
      refine lv_ishl hx hb dX5_partOf_35 ?_
      refine lv_istore (lv' := [(5, .int (7 <<< ((hh * 3) &&& 31))), (4, .int 0), (3, .int (popc se)), (0, .int am), (1, .int se), (2, .int hh)]) hx hb dX5_partOf_36 hl (by decide) rfl (fun ls hl => ?_)
      refine lv_iload hx hb dX5_partOf_38 (lv_at hl 1 rfl) ?_
      refine lv_iload_n hx hb dX5_partOf_40 rfl (lv_at hl 4 rfl) ?_
      refine lv_iload hx hb dX5_partOf_41 (lv_at hl 0 rfl) ?_
      refine lv_iand hx hb dX5_partOf_43 ?_
      refine kcallS (n := 1) F (kJ_bitCount l G (fun q => H1.size ≤ q) (se &&& (7 <<< ((hh * 3) &&& 31)))) wML_X5_347 wST_J6_bitCount_0f7a4 wIN_J6 wCO_J6_bitCount_0f7a4 (by decide) rfl ⟨by decide, by decide⟩ hS (fun q h => hA q (Nat.le_trans hS.1 h)) (fun q h => h) trivial rfl hl.1 (Nat.le_of_ble_eq_true rfl) dX5_partOf_44 ⟨by decide, by decide⟩ (fun E ce q9 H1 locs1 hx9 _ _ _ _ _ => hx9.elim) (fun v H1 locs1 hv hk hS => ?_)
      subst hv
      refine lv_imul hx hb dX5_partOf_47 ?_
      exact kiret hx hb hr hlocks hS (by decide) (by decide) dX5_partOf_48 (by simp [fPart, fEach, c_6_1, c_20_3])
    · refine lv_iload_n hx hb dX5_partOf_23 rfl (lv_at hl 2 rfl) ?_
      refine lv_iload hx hb dX5_partOf_24 (lv_at hl 0 rfl) ?_
      refine lv_iload_n hx hb dX5_partOf_26 rfl (lv_at hl 1 rfl) ?_
      refine lv_imul hx hb dX5_partOf_27 ?_
      refine lv_isub hx hb dX5_partOf_28 ?_
      exact kiret hx hb hr hlocks hS (by decide) (by decide) dX5_partOf_29 (by simp [fPart, fEach, c_6_1, c_20_3])

