def inB (x a b : Int32) : Bool := decide (a ≤ x) && decide (x ≤ b)
set_option maxHeartbeats 4000000 in
set_option maxRecDepth 100000 in
theorem kM_in (l : Launch) (G : GE) (A1 : Nat → Prop) (x a b : Int32) : KM l G A1 yX6_in cX6_in 3 (some .boolean) (rmL 1 0 0) [.int x, .int a, .int b] (fun _ => True) (fun v _ => v = some (.int (b2i (inB x a b)))) (fun _ _ => False) := by
  refine KM.of (by decide) (Nat.le_of_ble_eq_true rfl) ?_
  intro p e s m args below meth c F hP ls hl
  have hx := F.1.1
  have hb := F.1.2.1
  have hown := F.1.2.2.2.1
  have hts := F.1.2.2.2.2
  have hr := F.2.1
  have hlocks := F.2.2.1
  have hE := F.2.2.2.2.2.1
  have hA := F.2.2.2.2.2.2
  have hS : va_S A1 s.heap s.heap [] := va_S.rf
  have hl : lv_has ls 3 [(0, .int x), (1, .int a), (2, .int b)] := hl
  have hP := hP
  refine lv_iload_n hx hb dX6_in_0 rfl (lv_at hl 0 rfl) ?_
  refine lv_iload_n hx hb dX6_in_1 rfl (lv_at hl 1 rfl) ?_
  refine lv_icmp_lt (tgt := 14) hx hb dX6_in_2 (by decide) (fun c_2_1 => ?_) (fun c_2_1 => ?_)
  · refine lv_iconst (v := 0) hx hb dX6_in_14 (by decide) ?_
    exact kzret hx hb hr hlocks hS (by decide) (by decide) (Or.inl rfl) dX6_in_15 (by simp [b2i, inB, c_2_1, ← Int32.not_lt])
  · refine lv_iload_n hx hb dX6_in_5 rfl (lv_at hl 0 rfl) ?_
    refine lv_iload_n hx hb dX6_in_6 rfl (lv_at hl 2 rfl) ?_
    refine lv_icmp_gt (tgt := 14) hx hb dX6_in_7 (by decide) (fun c_7_2 => ?_) (fun c_7_2 => ?_)
    · refine lv_iconst (v := 0) hx hb dX6_in_14 (by decide) ?_
      exact kzret hx hb hr hlocks hS (by decide) (by decide) (Or.inl rfl) dX6_in_15 (by simp [b2i, inB, c_2_1, c_7_2, ← Int32.not_lt])
    · refine lv_iconst (v := 1) hx hb dX6_in_10 (by decide) ?_
      refine lv_goto (tgt := 15) hx hb dX6_in_11 (by decide) ?_
      exact kzret hx hb hr hlocks hS (by decide) (by decide) (Or.inr rfl) dX6_in_15 (by simp [b2i, inB, c_2_1, c_7_2, ← Int32.not_lt])

set_option maxHeartbeats 4000000 in
set_option maxRecDepth 100000 in
theorem kM_thrown (l : Launch) (G : GE) (A1 A : Nat → Prop) (ad : Nat → Nat) (τ : SG)  : KM l G A1 yX6_thrown cX6_thrown 1 (some .int) (rmL 1 0 0) [.ref (ad 30)] (PM G A ad τ) (fun v _ => v = some (.int (τ 27 0))) (fun _ _ => False) := by
  refine KM.of (by decide) (Nat.le_of_ble_eq_true rfl) ?_
  intro p e s m args below meth c F hP ls hl
  have hx := F.1.1
  have hb := F.1.2.1
  have hown := F.1.2.2.2.1
  have hts := F.1.2.2.2.2
  have hr := F.2.1
  have hlocks := F.2.2.1
  have hE := F.2.2.2.2.2.1
  have hA := F.2.2.2.2.2.2
  have hS : va_S A1 s.heap s.heap [] := va_S.rf
  have hl : lv_has ls 1 [(0, .ref (ad 30))] := hl
  have hP := hP
  refine lv_aload_n hx hb dX6_thrown_0 rfl (lv_at hl 0 rfl) ?_
  refine gX6 F hP.main 27 (by decide) wFL_X6_81 (fun _ h9 => h9) (v := .int (τ 27 0)) rfl dX6_thrown_1 ?_
  exact kiret hx hb hr hlocks hS (by decide) (by decide) dX6_thrown_4 (rfl)

set_option maxHeartbeats 4000000 in
set_option maxRecDepth 100000 in
theorem kM_isHouse (l : Launch) (G : GE) (A1 : Nat → Prop) (x : Int32) : KM l G A1 yX6_isHouse cX6_isHouse 1 (some .boolean) (rmL 2 0 0) [.int x] (fun _ => True) (fun v _ => v = some (.int (b2i (inB x 0 3)))) (fun _ _ => False) := by
  refine KM.of (by decide) (Nat.le_of_ble_eq_true rfl) ?_
  intro p e s m args below meth c F hP ls hl
  have hx := F.1.1
  have hb := F.1.2.1
  have hown := F.1.2.2.2.1
  have hts := F.1.2.2.2.2
  have hr := F.2.1
  have hlocks := F.2.2.1
  have hE := F.2.2.2.2.2.1
  have hA := F.2.2.2.2.2.2
  have hS : va_S A1 s.heap s.heap [] := va_S.rf
  have hl : lv_has ls 1 [(0, .int x)] := hl
  have hP := hP
  refine lv_iload_n hx hb dX6_isHouse_0 rfl (lv_at hl 0 rfl) ?_
  refine lv_iconst (v := 0) hx hb dX6_isHouse_1 (by decide) ?_
  refine lv_iconst (v := 3) hx hb dX6_isHouse_2 (by decide) ?_
  refine kcallS (n := 3) F (kM_in l G (fun q => s.heap.size ≤ q)  x 0 3) wML_X6_84 wST_X6_in wIN_X6 wCO_X6_in (by decide) rfl ⟨by decide, by decide⟩ hS (fun q h => hA q (Nat.le_trans hS.1 h)) (fun q h => h) trivial rfl hl.1 (Nat.le_of_ble_eq_true rfl) dX6_isHouse_3 ⟨by decide, by decide⟩ (fun E ce q9 H1 locs1 hx9 _ _ _ _ _ => hx9.elim) (fun v H1 locs1 hv hk hS => ?_)
  skip
  subst hv
  exact kzret hx hb hr hlocks hS (by decide) (by decide) (b2i_or _) dX6_isHouse_6 (rfl)

set_option maxHeartbeats 4000000 in
set_option maxRecDepth 100000 in
theorem kM_isRoom (l : Launch) (G : GE) (A1 : Nat → Prop) (x : Int32) : KM l G A1 yX6_isRoom cX6_isRoom 1 (some .boolean) (rmL 2 0 0) [.int x] (fun _ => True) (fun v _ => v = some (.int (b2i (inB x 0 11)))) (fun _ _ => False) := by
  refine KM.of (by decide) (Nat.le_of_ble_eq_true rfl) ?_
  intro p e s m args below meth c F hP ls hl
  have hx := F.1.1
  have hb := F.1.2.1
  have hown := F.1.2.2.2.1
  have hts := F.1.2.2.2.2
  have hr := F.2.1
  have hlocks := F.2.2.1
  have hE := F.2.2.2.2.2.1
  have hA := F.2.2.2.2.2.2
  have hS : va_S A1 s.heap s.heap [] := va_S.rf
  have hl : lv_has ls 1 [(0, .int x)] := hl
  have hP := hP
  refine lv_iload_n hx hb dX6_isRoom_0 rfl (lv_at hl 0 rfl) ?_
  refine lv_iconst (v := 0) hx hb dX6_isRoom_1 (by decide) ?_
  refine lv_bipush (v := 11) hx hb dX6_isRoom_2 (by decide) ?_
  refine kcallS (n := 3) F (kM_in l G (fun q => s.heap.size ≤ q)  x 0 11) wML_X6_84 wST_X6_in wIN_X6 wCO_X6_in (by decide) rfl ⟨by decide, by decide⟩ hS (fun q h => hA q (Nat.le_trans hS.1 h)) (fun q h => h) trivial rfl hl.1 (Nat.le_of_ble_eq_true rfl) dX6_isRoom_4 ⟨by decide, by decide⟩ (fun E ce q9 H1 locs1 hx9 _ _ _ _ _ => hx9.elim) (fun v H1 locs1 hv hk hS => ?_)
  skip
  subst hv
  exact kzret hx hb hr hlocks hS (by decide) (by decide) (b2i_or _) dX6_isRoom_7 (rfl)

set_option maxHeartbeats 4000000 in
set_option maxRecDepth 100000 in
theorem kM_isMember (l : Launch) (G : GE) (A1 : Nat → Prop) (x : Int32) : KM l G A1 yX6_isMember cX6_isMember 1 (some .boolean) (rmL 2 0 0) [.int x] (fun _ => True) (fun v _ => v = some (.int (b2i (inB x 0 5)))) (fun _ _ => False) := by
  refine KM.of (by decide) (Nat.le_of_ble_eq_true rfl) ?_
  intro p e s m args below meth c F hP ls hl
  have hx := F.1.1
  have hb := F.1.2.1
  have hown := F.1.2.2.2.1
  have hts := F.1.2.2.2.2
  have hr := F.2.1
  have hlocks := F.2.2.1
  have hE := F.2.2.2.2.2.1
  have hA := F.2.2.2.2.2.2
  have hS : va_S A1 s.heap s.heap [] := va_S.rf
  have hl : lv_has ls 1 [(0, .int x)] := hl
  have hP := hP
  refine lv_iload_n hx hb dX6_isMember_0 rfl (lv_at hl 0 rfl) ?_
  refine lv_iconst (v := 0) hx hb dX6_isMember_1 (by decide) ?_
  refine lv_iconst (v := 5) hx hb dX6_isMember_2 (by decide) ?_
  refine kcallS (n := 3) F (kM_in l G (fun q => s.heap.size ≤ q)  x 0 5) wML_X6_84 wST_X6_in wIN_X6 wCO_X6_in (by decide) rfl ⟨by decide, by decide⟩ hS (fun q h => hA q (Nat.le_trans hS.1 h)) (fun q h => h) trivial rfl hl.1 (Nat.le_of_ble_eq_true rfl) dX6_isMember_3 ⟨by decide, by decide⟩ (fun E ce q9 H1 locs1 hx9 _ _ _ _ _ => hx9.elim) (fun v H1 locs1 hv hk hS => ?_)
  skip
  subst hv
  exact kzret hx hb hr hlocks hS (by decide) (by decide) (b2i_or _) dX6_isMember_6 (rfl)

set_option maxHeartbeats 4000000 in
set_option maxRecDepth 100000 in
theorem kM_isTicket (l : Launch) (G : GE) (A1 A : Nat → Prop) (ad : Nat → Nat) (τ : SG) (x : Int32) : KM l G A1 yX6_isTicket cX6_isTicket 2 (some .boolean) (rmL 2 0 0) [.ref (ad 30), .int x] (PM G A ad τ) (fun v _ => v = some (.int (b2i (inB x 0 (τ 3 0 - 1))))) (fun _ _ => False) := by
  refine KM.of (by decide) (Nat.le_of_ble_eq_true rfl) ?_
  intro p e s m args below meth c F hP ls hl
  have hx := F.1.1
  have hb := F.1.2.1
  have hown := F.1.2.2.2.1
  have hts := F.1.2.2.2.2
  have hr := F.2.1
  have hlocks := F.2.2.1
  have hE := F.2.2.2.2.2.1
  have hA := F.2.2.2.2.2.2
  have hS : va_S A1 s.heap s.heap [] := va_S.rf
  have hl : lv_has ls 2 [(0, .ref (ad 30)), (1, .int x)] := hl
  have hP := hP
  refine lv_iload_n hx hb dX6_isTicket_0 rfl (lv_at hl 1 rfl) ?_
  refine lv_iconst (v := 0) hx hb dX6_isTicket_1 (by decide) ?_
  refine lv_aload_n hx hb dX6_isTicket_2 rfl (lv_at hl 0 rfl) ?_
  refine gX6 F hP.main 3 (by decide) wFL_X6_88 (fun _ h9 => h9) (v := .int (τ 3 0)) rfl dX6_isTicket_3 ?_
  refine lv_iconst (v := 1) hx hb dX6_isTicket_6 (by decide) ?_
  refine lv_isub hx hb dX6_isTicket_7 ?_
  refine kcallS (n := 3) F (kM_in l G (fun q => s.heap.size ≤ q)  x 0 ((τ 3 0) - 1)) wML_X6_84 wST_X6_in wIN_X6 wCO_X6_in (by decide) rfl ⟨by decide, by decide⟩ hS (fun q h => hA q (Nat.le_trans hS.1 h)) (fun q h => h) trivial rfl hl.1 (Nat.le_of_ble_eq_true rfl) dX6_isTicket_8 ⟨by decide, by decide⟩ (fun E ce q9 H1 locs1 hx9 _ _ _ _ _ => hx9.elim) (fun v H1 locs1 hv hk hS => ?_)
  have hP := hP.old hk
  subst hv
  exact kzret hx hb hr hlocks hS (by decide) (by decide) (b2i_or _) dX6_isTicket_11 (rfl)

set_option maxHeartbeats 4000000 in
set_option maxRecDepth 100000 in
theorem kM_isWork (l : Launch) (G : GE) (A1 A : Nat → Prop) (ad : Nat → Nat) (τ : SG) (x : Int32) : KM l G A1 yX6_isWork cX6_isWork 2 (some .boolean) (rmL 2 0 0) [.ref (ad 30), .int x] (PM G A ad τ) (fun v _ => v = some (.int (b2i (inB x 0 (τ 16 0 - 1))))) (fun _ _ => False) := by
  refine KM.of (by decide) (Nat.le_of_ble_eq_true rfl) ?_
  intro p e s m args below meth c F hP ls hl
  have hx := F.1.1
  have hb := F.1.2.1
  have hown := F.1.2.2.2.1
  have hts := F.1.2.2.2.2
  have hr := F.2.1
  have hlocks := F.2.2.1
  have hE := F.2.2.2.2.2.1
  have hA := F.2.2.2.2.2.2
  have hS : va_S A1 s.heap s.heap [] := va_S.rf
  have hl : lv_has ls 2 [(0, .ref (ad 30)), (1, .int x)] := hl
  have hP := hP
  refine lv_iload_n hx hb dX6_isWork_0 rfl (lv_at hl 1 rfl) ?_
  refine lv_iconst (v := 0) hx hb dX6_isWork_1 (by decide) ?_
  refine lv_aload_n hx hb dX6_isWork_2 rfl (lv_at hl 0 rfl) ?_
  refine gX6 F hP.main 16 (by decide) wFL_X6_91 (fun _ h9 => h9) (v := .int (τ 16 0)) rfl dX6_isWork_3 ?_
  refine lv_iconst (v := 1) hx hb dX6_isWork_6 (by decide) ?_
  refine lv_isub hx hb dX6_isWork_7 ?_
  refine kcallS (n := 3) F (kM_in l G (fun q => s.heap.size ≤ q)  x 0 ((τ 16 0) - 1)) wML_X6_84 wST_X6_in wIN_X6 wCO_X6_in (by decide) rfl ⟨by decide, by decide⟩ hS (fun q h => hA q (Nat.le_trans hS.1 h)) (fun q h => h) trivial rfl hl.1 (Nat.le_of_ble_eq_true rfl) dX6_isWork_8 ⟨by decide, by decide⟩ (fun E ce q9 H1 locs1 hx9 _ _ _ _ _ => hx9.elim) (fun v H1 locs1 hv hk hS => ?_)
  have hP := hP.old hk
  subst hv
  exact kzret hx hb hr hlocks hS (by decide) (by decide) (b2i_or _) dX6_isWork_11 (rfl)

def mNow (τ : SG) (t : Nat) : Bool := decide (τ 7 t = τ 26 0) && decide (τ 9 t = 0)
set_option maxHeartbeats 4000000 in
set_option maxRecDepth 100000 in
theorem kM_isNow (l : Launch) (G : GE) (A1 A : Nat → Prop) (ad : Nat → Nat) (τ : SG) (t : Nat) (ht : t < 80) : KM l G A1 yX6_isNow cX6_isNow 2 (some .boolean) (rmL 1 0 0) [.ref (ad 30), .int (nI t)] (PM G A ad τ) (fun v _ => v = some (.int (b2i (mNow τ t)))) (fun _ _ => False) := by
  refine KM.of (by decide) (Nat.le_of_ble_eq_true rfl) ?_
  intro p e s m args below meth c F hP ls hl
  have hx := F.1.1
  have hb := F.1.2.1
  have hown := F.1.2.2.2.1
  have hts := F.1.2.2.2.2
  have hr := F.2.1
  have hlocks := F.2.2.1
  have hE := F.2.2.2.2.2.1
  have hA := F.2.2.2.2.2.2
  have hS : va_S A1 s.heap s.heap [] := va_S.rf
  have hl : lv_has ls 2 [(0, .ref (ad 30)), (1, .int (nI t))] := hl
  have hP := hP
  refine lv_aload_n hx hb dX6_isNow_0 rfl (lv_at hl 0 rfl) ?_
  refine gX6 F hP.main 7 (by decide) wFL_X6_25 (fun _ h9 => h9) (v := .ref (ad 7)) rfl dX6_isNow_1 ?_
  refine lv_iload_n hx hb dX6_isNow_4 rfl (lv_at hl 1 rfl) ?_
  refine xiald hx hb hE.1.1 (hP.arr 7 (by decide) (by decide)) 0 rfl (k := t) rfl ht (by decide) dX6_isNow_5 ?_
  refine lv_aload_n hx hb dX6_isNow_6 rfl (lv_at hl 0 rfl) ?_
  refine gX6 F hP.main 26 (by decide) wFL_X6_94 (fun _ h9 => h9) (v := .int (τ 26 0)) rfl dX6_isNow_7 ?_
  refine lv_icmp_ne (tgt := 26) hx hb dX6_isNow_10 (by decide) (fun c_10_1 => ?_) (fun c_10_1 => ?_)
  · refine lv_iconst (v := 0) hx hb dX6_isNow_26 (by decide) ?_
    exact kzret hx hb hr hlocks hS (by decide) (by decide) (Or.inl rfl) dX6_isNow_27 (by simp [b2i, mNow, c_10_1])
  · refine lv_aload_n hx hb dX6_isNow_13 rfl (lv_at hl 0 rfl) ?_
    refine gX6 F hP.main 9 (by decide) wFL_X6_31 (fun _ h9 => h9) (v := .ref (ad 9)) rfl dX6_isNow_14 ?_
    refine lv_iload_n hx hb dX6_isNow_17 rfl (lv_at hl 1 rfl) ?_
    refine xzald hx hb hE.1.1 (hP.arr 9 (by decide) (by decide)) 1 rfl (k := t) rfl ht (by decide) dX6_isNow_18 ?_
    refine lv_if_ne (tgt := 26) hx hb dX6_isNow_19 (by decide) (fun c_19_2 => ?_) (fun c_19_2 => ?_)
    · refine lv_iconst (v := 0) hx hb dX6_isNow_26 (by decide) ?_
      exact kzret hx hb hr hlocks hS (by decide) (by decide) (Or.inl rfl) dX6_isNow_27 (by simp [b2i, mNow, c_10_1, c_19_2])
    · refine lv_iconst (v := 1) hx hb dX6_isNow_22 (by decide) ?_
      refine lv_goto (tgt := 27) hx hb dX6_isNow_23 (by decide) ?_
      exact kzret hx hb hr hlocks hS (by decide) (by decide) (Or.inr rfl) dX6_isNow_27 (by simp [b2i, mNow, c_10_1, c_19_2])

