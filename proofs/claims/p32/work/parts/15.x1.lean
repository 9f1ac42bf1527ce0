/-! THE LEAVES of the class: methods of one object -/
theorem nz {x : Int32} (h : x = 0 ∨ x = 1) : narrow .boolean (.int x) = .int x := by rcases h with h | h <;> subst h <;> rfl
theorem fz {x : Int32} (h : x = 0 ∨ x = 1) : fits .boolean (.int x) = true := by rcases h with h | h <;> subst h <;> rfl
theorem wCO_obj : Cond.code objectInit ⟨#[0xb1]⟩ 1 none ∈ gTb := gm (List.mem_of_getElem? (i := 63) (by decide +kernel)) rfl
/-- the object at a becomes e' : what comes back from a method of one object -/
def OB1 (G : GE) (a : Nat) (e' : va_E) (H : Heap) : Prop := va_at G.1 mcl (a, e') H
def fBel (ld day : Int32) : Bool := decide (day ≤ ld)
def fLeft (ld day : Int32) : Int32 := if fBel ld day then ld - day + 1 else 0
def fEnded (ms ld day : Int32) : Int32 := ms * 30 - fLeft ld day
set_option maxHeartbeats 4000000 in
set_option maxRecDepth 100000 in
theorem cX0_belongsC (l : Launch) (G : GE) (A1 : Nat → Prop) (a : Nat) (ms ld day : Int32) : KM l G A1 yX0_belongs cX0_belongs 2 (some .boolean) (rmL 1 0 0) [.ref a, .int day] (fun H => va_at G.1 mcl (a, .inr (2, [.int ms, .int ld])) H) (fun v _ => v = some (.int (b2i (fBel ld day)))) (fun _ _ => False) := by
  refine KM.of (by decide) (Nat.le_of_ble_eq_true rfl) ?_
  intro p e s m args below meth c F hP ls hl
  have hx := F.1.1
  have hb := F.1.2.1
  have hown := F.1.2.2.2.1
  have hts := F.1.2.2.2.2
  have hr := F.2.1
  have hlocks := F.2.2.1
  have hE := F.2.2.2.2.2.1
  have hA := F.2.2.2.2.2.2
  have hS : va_S A1 s.heap s.heap [] := va_S.rf
  have hl : lv_has ls 2 [(0, .ref a), (1, .int day)] := hl
  have hO := hP
  refine lv_aload_n hx hb dX0_belongs_0 rfl (lv_at hl 0 rfl) ?_
  refine gX0 F hO 1 (by decide) wFL_X0_9 (fun _ h9 => h9) (v := .int ld) rfl dX0_belongs_1 ?_
  refine lv_iload_n hx hb dX0_belongs_4 rfl (lv_at hl 1 rfl) ?_
  refine lv_icmp_lt (tgt := 12) hx hb dX0_belongs_5 (by decide) (fun c_5_1 => ?_) (fun c_5_1 => ?_)
  · refine lv_iconst (v := 0) hx hb dX0_belongs_12 (by decide) ?_
    exact kzret hx hb hr hlocks hS (by decide) (by decide) (Or.inl rfl) dX0_belongs_13 (by simp [b2i, fBel, Int32.not_le.mpr c_5_1])
  · refine lv_iconst (v := 1) hx hb dX0_belongs_8 (by decide) ?_
    refine lv_goto (tgt := 13) hx hb dX0_belongs_9 (by decide) ?_
    exact kzret hx hb hr hlocks hS (by decide) (by decide) (Or.inr rfl) dX0_belongs_13 (by simp [b2i, fBel, Int32.not_lt.mp c_5_1])

set_option maxHeartbeats 4000000 in
set_option maxRecDepth 100000 in
theorem cX0_daysLeftC (l : Launch) (G : GE) (A1 : Nat → Prop) (a : Nat) (ms ld day : Int32) : KM l G A1 yX0_daysLeft cX0_daysLeft 2 (some .int) (rmL 2 0 0) [.ref a, .int day] (fun H => va_at G.1 mcl (a, .inr (2, [.int ms, .int ld])) H) (fun v _ => v = some (.int (fLeft ld day))) (fun _ _ => False) := by
  refine KM.of (by decide) (Nat.le_of_ble_eq_true rfl) ?_
  intro p e s m args below meth c F hP ls hl
  have hx := F.1.1
  have hb := F.1.2.1
  have hown := F.1.2.2.2.1
  have hts := F.1.2.2.2.2
  have hr := F.2.1
  have hlocks := F.2.2.1
  have hE := F.2.2.2.2.2.1
  have hA := F.2.2.2.2.2.2
  have hS : va_S A1 s.heap s.heap [] := va_S.rf
  have hl : lv_has ls 2 [(0, .ref a), (1, .int day)] := hl
  have hO := hP
  refine lv_aload_n hx hb dX0_daysLeft_0 rfl (lv_at hl 0 rfl) ?_
  refine lv_iload_n hx hb dX0_daysLeft_1 rfl (lv_at hl 1 rfl) ?_
  refine kcallV (n := 1) F (cX0_belongsC l G (fun q => s.heap.size ≤ q) a ms ld day) wML_X0_15 wIM_X0_belongs wSE_X0_X0_belongs wIN_X0 wCO_X0_belongs (by decide) rfl ⟨by decide, by decide⟩ (frec F hO _ rfl) hS hA (fun q h => h) hO rfl hl.1 (Nat.le_of_ble_eq_true rfl) dX0_daysLeft_2 ⟨by decide, by decide⟩ (fun E ce q9 H1 locs1 hx9 _ _ _ _ _ => hx9.elim) (fun v H1 locs1 hv hk hS => ?_)
  subst hv
  have hO := atO hO hk
  refine lv_if_eq (tgt := 19) hx hb dX0_daysLeft_5 (by decide) (fun c_5_1 => ?_) (fun c_5_1 => ?_)
  · refine lv_iconst (v := 0) hx hb dX0_daysLeft_19 (by decide) ?_
    exact kiret hx hb hr hlocks hS (by decide) (by decide) dX0_daysLeft_20 (by simp [fLeft, (b2i_0.mp c_5_1)])
  · refine lv_aload_n hx hb dX0_daysLeft_8 rfl (lv_at hl 0 rfl) ?_
    refine gX0 F hO 1 (by decide) wFL_X0_9 (fun _ h9 => h9) (v := .int ld) rfl dX0_daysLeft_9 ?_
    refine lv_iload_n hx hb dX0_daysLeft_12 rfl (lv_at hl 1 rfl) ?_
    refine lv_isub hx hb dX0_daysLeft_13 ?_
    refine lv_iconst (v := 1) hx hb dX0_daysLeft_14 (by decide) ?_
    refine lv_iadd hx hb dX0_daysLeft_15 ?_
    refine lv_goto (tgt := 20) hx hb dX0_daysLeft_16 (by decide) ?_
    exact kiret hx hb hr hlocks hS (by decide) (by decide) dX0_daysLeft_20 (by simp [fLeft, (b2i_1.mp c_5_1)])

set_option maxHeartbeats 4000000 in
set_option maxRecDepth 100000 in
theorem cX0_daysEndedC (l : Launch) (G : GE) (A1 : Nat → Prop) (a : Nat) (ms ld day : Int32) : KM l G A1 yX0_daysEnded cX0_daysEnded 2 (some .int) (rmL 3 0 0) [.ref a, .int day] (fun H => va_at G.1 mcl (a, .inr (2, [.int ms, .int ld])) H) (fun v _ => v = some (.int (fEnded ms ld day))) (fun _ _ => False) := by
  refine KM.of (by decide) (Nat.le_of_ble_eq_true rfl) ?_
  intro p e s m args below meth c F hP ls hl
  have hx := F.1.1
  have hb := F.1.2.1
  have hown := F.1.2.2.2.1
  have hts := F.1.2.2.2.2
  have hr := F.2.1
  have hlocks := F.2.2.1
  have hE := F.2.2.2.2.2.1
  have hA := F.2.2.2.2.2.2
  have hS : va_S A1 s.heap s.heap [] := va_S.rf
  have hl : lv_has ls 2 [(0, .ref a), (1, .int day)] := hl
  have hO := hP
  refine lv_aload_n hx hb dX0_daysEnded_0 rfl (lv_at hl 0 rfl) ?_
  refine gX0 F hO 0 (by decide) wFL_X0_19 (fun _ h9 => h9) (v := .int ms) rfl dX0_daysEnded_1 ?_
  refine lv_bipush (v := 30) hx hb dX0_daysEnded_4 (by decide) ?_
  refine lv_imul hx hb dX0_daysEnded_6 ?_
  refine lv_aload_n hx hb dX0_daysEnded_7 rfl (lv_at hl 0 rfl) ?_
  refine lv_iload_n hx hb dX0_daysEnded_8 rfl (lv_at hl 1 rfl) ?_
  refine kcallV (n := 1) F (cX0_daysLeftC l G (fun q => s.heap.size ≤ q) a ms ld day) wML_X0_22 wIM_X0_daysLeft wSE_X0_X0_daysLeft wIN_X0 wCO_X0_daysLeft (by decide) rfl ⟨by decide, by decide⟩ (frec F hO _ rfl) hS hA (fun q h => h) hO rfl hl.1 (Nat.le_of_ble_eq_true rfl) dX0_daysEnded_9 ⟨by decide, by decide⟩ (fun E ce q9 H1 locs1 hx9 _ _ _ _ _ => hx9.elim) (fun v H1 locs1 hv hk hS => ?_)
  subst hv
  have hO := atO hO hk
  refine lv_isub hx hb dX0_daysEnded_12 ?_
  exact kiret hx hb hr hlocks hS (by decide) (by decide) dX0_daysEnded_13 (rfl)

def fFor (ho h : Int32) : Bool := decide (ho = -1) || decide (ho = h)
def fOf (vo so me m s : Int32) : Bool := decide (vo = 0) && decide (so = s) && decide (me = m)
set_option maxHeartbeats 4000000 in
set_option maxRecDepth 100000 in
theorem cX2_isForC (l : Launch) (G : GE) (A1 : Nat → Prop) (a : Nat) (nb so ho me co vo se ro wa : Int32) (hh : Int32) : KM l G A1 yX2_isFor cX2_isFor 2 (some .boolean) (rmL 1 0 0) [.ref a, .int hh] (fun H => va_at G.1 mcl (a, .inr (4, [.int nb, .int so, .int ho, .int me, .int co, .int vo, .int se, .int ro, .int wa])) H) (fun v _ => v = some (.int (b2i (fFor ho hh)))) (fun _ _ => False) := by
  refine KM.of (by decide) (Nat.le_of_ble_eq_true rfl) ?_
  intro p e s m args below meth c F hP ls hl
  have hx := F.1.1
  have hb := F.1.2.1
  have hown := F.1.2.2.2.1
  have hts := F.1.2.2.2.2
  have hr := F.2.1
  have hlocks := F.2.2.1
  have hE := F.2.2.2.2.2.1
  have hA := F.2.2.2.2.2.2
  have hS : va_S A1 s.heap s.heap [] := va_S.rf
  have hl : lv_has ls 2 [(0, .ref a), (1, .int hh)] := hl
  have hO := hP
  refine lv_aload_n hx hb dX2_isFor_0 rfl (lv_at hl 0 rfl) ?_
  refine gX2 F hO 2 (by decide) wFL_X2_21 (fun _ h9 => h9) (v := .int ho) rfl dX2_isFor_1 ?_
  refine lv_iconst (v := (-1)) hx hb dX2_isFor_4 (by decide) ?_
  refine lv_icmp_eq (tgt := 16) hx hb dX2_isFor_5 (by decide) (fun c_5_1 => ?_) (fun c_5_1 => ?_)
  · refine lv_iconst (v := 1) hx hb dX2_isFor_16 (by decide) ?_
    refine lv_goto (tgt := 21) hx hb dX2_isFor_17 (by decide) ?_
    exact kzret hx hb hr hlocks hS (by decide) (by decide) (Or.inr rfl) dX2_isFor_21 (by simp [b2i, fFor, c_5_1])
  · refine lv_aload_n hx hb dX2_isFor_8 rfl (lv_at hl 0 rfl) ?_
    refine gX2 F hO 2 (by decide) wFL_X2_21 (fun _ h9 => h9) (v := .int ho) rfl dX2_isFor_9 ?_
    refine lv_iload_n hx hb dX2_isFor_12 rfl (lv_at hl 1 rfl) ?_
    refine lv_icmp_ne (tgt := 20) hx hb dX2_isFor_13 (by decide) (fun c_13_2 => ?_) (fun c_13_2 => ?_)
    · refine lv_iconst (v := 0) hx hb dX2_isFor_20 (by decide) ?_
      exact kzret hx hb hr hlocks hS (by decide) (by decide) (Or.inl rfl) dX2_isFor_21 (by simp [b2i, fFor, c_5_1, c_13_2])
    · refine lv_iconst (v := 1) hx hb dX2_isFor_16 (by decide) ?_
      refine lv_goto (tgt := 21) hx hb dX2_isFor_17 (by decide) ?_
      exact kzret hx hb hr hlocks hS (by decide) (by decide) (Or.inr rfl) dX2_isFor_21 (by simp [b2i, fFor, c_5_1, c_13_2])

set_option maxHeartbeats 4000000 in
set_option maxRecDepth 100000 in
theorem cX2_isOfMemberC (l : Launch) (G : GE) (A1 : Nat → Prop) (a : Nat) (nb so ho me co vo se ro wa : Int32) (mm ss : Int32) : KM l G A1 yX2_isOfMember cX2_isOfMember 3 (some .boolean) (rmL 1 0 0) [.ref a, .int mm, .int ss] (fun H => va_at G.1 mcl (a, .inr (4, [.int nb, .int so, .int ho, .int me, .int co, .int vo, .int se, .int ro, .int wa])) H) (fun v _ => v = some (.int (b2i (fOf vo so me mm ss)))) (fun _ _ => False) := by
  refine KM.of (by decide) (Nat.le_of_ble_eq_true rfl) ?_
  intro p e s m args below meth c F hP ls hl
  have hx := F.1.1
  have hb := F.1.2.1
  have hown := F.1.2.2.2.1
  have hts := F.1.2.2.2.2
  have hr := F.2.1
  have hlocks := F.2.2.1
  have hE := F.2.2.2.2.2.1
  have hA := F.2.2.2.2.2.2
  have hS : va_S A1 s.heap s.heap [] := va_S.rf
  have hl : lv_has ls 3 [(0, .ref a), (1, .int mm), (2, .int ss)] := hl
  have hO := hP
  refine lv_aload_n hx hb dX2_isOfMember_0 rfl (lv_at hl 0 rfl) ?_
  refine gX2 F hO 5 (by decide) wFL_X2_30 (fun _ h9 => h9) (v := .int vo) rfl dX2_isOfMember_1 ?_
  refine lv_if_ne (tgt := 27) hx hb dX2_isOfMember_4 (by decide) (fun c_4_1 => ?_) (fun c_4_1 => ?_)
  · refine lv_iconst (v := 0) hx hb dX2_isOfMember_27 (by decide) ?_
    exact kzret hx hb hr hlocks hS (by decide) (by decide) (Or.inl rfl) dX2_isOfMember_28 (by simp [b2i, fOf, c_4_1])
  · refine lv_aload_n hx hb dX2_isOfMember_7 rfl (lv_at hl 0 rfl) ?_
    refine gX2 F hO 1 (by decide) wFL_X2_18 (fun _ h9 => h9) (v := .int so) rfl dX2_isOfMember_8 ?_
    refine lv_iload_n hx hb dX2_isOfMember_11 rfl (lv_at hl 2 rfl) ?_
    refine lv_icmp_ne (tgt := 27) hx hb dX2_isOfMember_12 (by decide) (fun c_12_2 => ?_) (fun c_12_2 => ?_)
    · refine lv_iconst (v := 0) hx hb dX2_isOfMember_27 (by decide) ?_
      exact kzret hx hb hr hlocks hS (by decide) (by decide) (Or.inl rfl) dX2_isOfMember_28 (by simp [b2i, fOf, c_4_1, c_12_2])
    · refine lv_aload_n hx hb dX2_isOfMember_15 rfl (lv_at hl 0 rfl) ?_
      refine gX2 F hO 3 (by decide) wFL_X2_24 (fun _ h9 => h9) (v := .int me) rfl dX2_isOfMember_16 ?_
      refine lv_iload_n hx hb dX2_isOfMember_19 rfl (lv_at hl 1 rfl) ?_
      refine lv_icmp_ne (tgt := 27) hx hb dX2_isOfMember_20 (by decide) (fun c_20_3 => ?_) (fun c_20_3 => ?_)
      · refine lv_iconst (v := 0) hx hb dX2_isOfMember_27 (by decide) ?_
        exact kzret hx hb hr hlocks hS (by decide) (by decide) (Or.inl rfl) dX2_isOfMember_28 (by simp [b2i, fOf, c_4_1, c_12_2, c_20_3])
      · refine lv_iconst (v := 1) hx hb dX2_isOfMember_23 (by decide) ?_
        refine lv_goto (tgt := 28) hx hb dX2_isOfMember_24 (by decide) ?_
        exact kzret hx hb hr hlocks hS (by decide) (by decide) (Or.inr rfl) dX2_isOfMember_28 (by simp [b2i, fOf, c_4_1, c_12_2, c_20_3])

set_option maxHeartbeats 4000000 in
set_option maxRecDepth 100000 in
theorem cX2_leaveRoomC (l : Launch) (G : GE) (A1 : Nat → Prop) (a : Nat) (nb so ho me co vo se ro wa : Int32) (hA1 : A1 a) : KM l G A1 yX2_leaveRoom cX2_leaveRoom 1 none (rmL 1 0 0) [.ref a] (fun H => va_at G.1 mcl (a, .inr (4, [.int nb, .int so, .int ho, .int me, .int co, .int vo, .int se, .int ro, .int wa])) H) (fun v H => v = none ∧ va_at G.1 mcl (a, .inr (4, [.int nb, .int so, .int ho, .int me, .int co, .int vo, .int se, .int (-1), .int 0])) H) (fun _ _ => False) := by
  refine KM.of (by decide) (Nat.le_of_ble_eq_true rfl) ?_
  intro p e s m args below meth c F hP ls hl
  have hx := F.1.1
  have hb := F.1.2.1
  have hown := F.1.2.2.2.1
  have hts := F.1.2.2.2.2
  have hr := F.2.1
  have hlocks := F.2.2.1
  have hE := F.2.2.2.2.2.1
  have hA := F.2.2.2.2.2.2
  have hS : va_S A1 s.heap s.heap [] := va_S.rf
  have hl : lv_has ls 1 [(0, .ref a)] := hl
  have hO := hP
  refine lv_aload_n hx hb dX2_leaveRoom_0 rfl (lv_at hl 0 rfl) ?_
  refine lv_iconst (v := (-1)) hx hb dX2_leaveRoom_1 (by decide) ?_
  refine pX2 F hS hO hA1 7 (by decide) wFL_X2_9 (fun _ h9 => h9) rfl rfl rfl (by simp) dX2_leaveRoom_2 (fun H_1 locs1 hO z1 oq1 hS => ?_)
  have hO : va_at G.1 mcl (a, .inr (4, [.int nb, .int so, .int ho, .int me, .int co, .int vo, .int se, .int (-1), .int wa])) H_1 := hO
  refine lv_aload_n hx hb dX2_leaveRoom_5 rfl (lv_at hl 0 rfl) ?_
  refine lv_iconst (v := 0) hx hb dX2_leaveRoom_6 (by decide) ?_
  refine pX2 F hS hO hA1 8 (by decide) wFL_X2_34 (fun _ h9 => h9) rfl rfl rfl (by simp) dX2_leaveRoom_7 (fun H_2 locs1 hO z1 oq1 hS => ?_)
  have hO : va_at G.1 mcl (a, .inr (4, [.int nb, .int so, .int ho, .int me, .int co, .int vo, .int se, .int (-1), .int 0])) H_2 := hO
  exact kvret hx hb hr hlocks hS (by decide) (by decide) dX2_leaveRoom_10 (⟨rfl, hO⟩)

set_option maxHeartbeats 4000000 in
set_option maxRecDepth 100000 in
theorem cX3_initC (l : Launch) (G : GE) (A1 : Nat → Prop) (a : Nat) (tp ke fe sa gi : Int32) (hA1 : A1 a) (pr : Int32) : KM l G A1 yX3_init cX3_init 2 none (rmL 1 0 0) [.ref a, .int pr] (fun H => va_at G.1 mcl (a, .inr (5, [.int tp, .int ke, .int fe, .int sa, .int gi])) H) (fun v H => v = none ∧ va_at G.1 mcl (a, .inr (5, [.int pr, .int ke, .int fe, .int sa, .int gi])) H) (fun _ _ => False) := by
  refine KM.of (by decide) (Nat.le_of_ble_eq_true rfl) ?_
  intro p e s m args below meth c F hP ls hl
  have hx := F.1.1
  have hb := F.1.2.1
  have hown := F.1.2.2.2.1
  have hts := F.1.2.2.2.2
  have hr := F.2.1
  have hlocks := F.2.2.1
  have hE := F.2.2.2.2.2.1
  have hA := F.2.2.2.2.2.2
  have hS : va_S A1 s.heap s.heap [] := va_S.rf
  have hl : lv_has ls 2 [(0, .ref a), (1, .int pr)] := hl
  have hO := hP
  refine lv_aload_n hx hb dX3_init_0 rfl (lv_at hl 0 rfl) ?_
  refine W.objInit hx hb hown (hts _ wML_X3_1) (hts _ wz_62) (hts _ wCO_obj) rfl (by rw [F.1.2.2.1]; exact hl.1) rfl dX3_init_1 (Nat.le_of_ble_eq_true rfl) (Nat.le_of_ble_eq_true rfl) ?_
  refine W.eq (g2 := F0 m 4 ls []) rfl ?_
  refine lv_aload_n hx hb dX3_init_4 rfl (lv_at hl 0 rfl) ?_
  refine lv_iload_n hx hb dX3_init_5 rfl (lv_at hl 1 rfl) ?_
  refine pX3 F hS hO hA1 0 (by decide) wFL_X3_7 (fun _ h9 => h9) rfl rfl rfl (by simp) dX3_init_6 (fun H_1 locs1 hO z1 oq1 hS => ?_)
  have hO : va_at G.1 mcl (a, .inr (5, [.int pr, .int ke, .int fe, .int sa, .int gi])) H_1 := hO
  exact kvret hx hb hr hlocks hS (by decide) (by decide) dX3_init_9 (⟨rfl, hO⟩)

set_option maxHeartbeats 4000000 in
set_option maxRecDepth 100000 in
theorem cX3_bookFeeC (l : Launch) (G : GE) (A1 : Nat → Prop) (a : Nat) (tp ke fe sa gi : Int32) (hA1 : A1 a) (am : Int32) : KM l G A1 yX3_bookFee cX3_bookFee 2 none (rmL 1 0 0) [.ref a, .int am] (fun H => va_at G.1 mcl (a, .inr (5, [.int tp, .int ke, .int fe, .int sa, .int gi])) H) (fun v H => v = none ∧ va_at G.1 mcl (a, .inr (5, [.int tp, .int (ke + am), .int (fe + am), .int sa, .int gi])) H) (fun _ _ => False) := by
  refine KM.of (by decide) (Nat.le_of_ble_eq_true rfl) ?_
  intro p e s m args below meth c F hP ls hl
  have hx := F.1.1
  have hb := F.1.2.1
  have hown := F.1.2.2.2.1
  have hts := F.1.2.2.2.2
  have hr := F.2.1
  have hlocks := F.2.2.1
  have hE := F.2.2.2.2.2.1
  have hA := F.2.2.2.2.2.2
  have hS : va_S A1 s.heap s.heap [] := va_S.rf
  have hl : lv_has ls 2 [(0, .ref a), (1, .int am)] := hl
  have hO := hP
  refine lv_aload_n hx hb dX3_bookFee_0 rfl (lv_at hl 0 rfl) ?_
  refine lv_dup hx hb dX3_bookFee_1 rfl ?_
  refine gX3 F hO 2 (by decide) wFL_X3_13 (fun _ h9 => h9) (v := .int fe) rfl dX3_bookFee_2 ?_
  refine lv_iload_n hx hb dX3_bookFee_5 rfl (lv_at hl 1 rfl) ?_
  refine lv_iadd hx hb dX3_bookFee_6 ?_
  refine pX3 F hS hO hA1 2 (by decide) wFL_X3_13 (fun _ h9 => h9) rfl rfl rfl (by simp) dX3_bookFee_7 (fun H_1 locs1 hO z1 oq1 hS => ?_)
  have hO : va_at G.1 mcl (a, .inr (5, [.int tp, .int ke, .int (fe + am), .int sa, .int gi])) H_1 := hO
  refine lv_aload_n hx hb dX3_bookFee_10 rfl (lv_at hl 0 rfl) ?_
  refine lv_dup hx hb dX3_bookFee_11 rfl ?_
  refine gX3 F hO 1 (by decide) wFL_X3_16 (fun _ h9 => h9) (v := .int ke) rfl dX3_bookFee_12 ?_
  refine lv_iload_n hx hb dX3_bookFee_15 rfl (lv_at hl 1 rfl) ?_
  refine lv_iadd hx hb dX3_bookFee_16 ?_
  refine pX3 F hS hO hA1 1 (by decide) wFL_X3_16 (fun _ h9 => h9) rfl rfl rfl (by simp) dX3_bookFee_17 (fun H_2 locs1 hO z1 oq1 hS => ?_)
  have hO : va_at G.1 mcl (a, .inr (5, [.int tp, .int (ke + am), .int (fe + am), .int sa, .int gi])) H_2 := hO
  exact kvret hx hb hr hlocks hS (by decide) (by decide) dX3_bookFee_20 (⟨rfl, hO⟩)

set_option maxHeartbeats 4000000 in
set_option maxRecDepth 100000 in
theorem cX3_bookSaleC (l : Launch) (G : GE) (A1 : Nat → Prop) (a : Nat) (tp ke fe sa gi : Int32) (hA1 : A1 a) (am : Int32) : KM l G A1 yX3_bookSale cX3_bookSale 2 none (rmL 1 0 0) [.ref a, .int am] (fun H => va_at G.1 mcl (a, .inr (5, [.int tp, .int ke, .int fe, .int sa, .int gi])) H) (fun v H => v = none ∧ va_at G.1 mcl (a, .inr (5, [.int tp, .int (ke + am), .int fe, .int (sa + am), .int gi])) H) (fun _ _ => False) := by
  refine KM.of (by decide) (Nat.le_of_ble_eq_true rfl) ?_
  intro p e s m args below meth c F hP ls hl
  have hx := F.1.1
  have hb := F.1.2.1
  have hown := F.1.2.2.2.1
  have hts := F.1.2.2.2.2
  have hr := F.2.1
  have hlocks := F.2.2.1
  have hE := F.2.2.2.2.2.1
  have hA := F.2.2.2.2.2.2
  have hS : va_S A1 s.heap s.heap [] := va_S.rf
  have hl : lv_has ls 2 [(0, .ref a), (1, .int am)] := hl
  have hO := hP
  refine lv_aload_n hx hb dX3_bookSale_0 rfl (lv_at hl 0 rfl) ?_
  refine lv_dup hx hb dX3_bookSale_1 rfl ?_
  refine gX3 F hO 3 (by decide) wFL_X3_19 (fun _ h9 => h9) (v := .int sa) rfl dX3_bookSale_2 ?_
  refine lv_iload_n hx hb dX3_bookSale_5 rfl (lv_at hl 1 rfl) ?_
  refine lv_iadd hx hb dX3_bookSale_6 ?_
  refine pX3 F hS hO hA1 3 (by decide) wFL_X3_19 (fun _ h9 => h9) rfl rfl rfl (by simp) dX3_bookSale_7 (fun H_1 locs1 hO z1 oq1 hS => ?_)
  have hO : va_at G.1 mcl (a, .inr (5, [.int tp, .int ke, .int fe, .int (sa + am), .int gi])) H_1 := hO
  refine lv_aload_n hx hb dX3_bookSale_10 rfl (lv_at hl 0 rfl) ?_
  refine lv_dup hx hb dX3_bookSale_11 rfl ?_
  refine gX3 F hO 1 (by decide) wFL_X3_16 (fun _ h9 => h9) (v := .int ke) rfl dX3_bookSale_12 ?_
  refine lv_iload_n hx hb dX3_bookSale_15 rfl (lv_at hl 1 rfl) ?_
  refine lv_iadd hx hb dX3_bookSale_16 ?_
  refine pX3 F hS hO hA1 1 (by decide) wFL_X3_16 (fun _ h9 => h9) rfl rfl rfl (by simp) dX3_bookSale_17 (fun H_2 locs1 hO z1 oq1 hS => ?_)
  have hO : va_at G.1 mcl (a, .inr (5, [.int tp, .int (ke + am), .int fe, .int (sa + am), .int gi])) H_2 := hO
  exact kvret hx hb hr hlocks hS (by decide) (by decide) dX3_bookSale_20 (⟨rfl, hO⟩)

set_option maxHeartbeats 4000000 in
set_option maxRecDepth 100000 in
theorem cX3_bookGiftC (l : Launch) (G : GE) (A1 : Nat → Prop) (a : Nat) (tp ke fe sa gi : Int32) (hA1 : A1 a) (am : Int32) : KM l G A1 yX3_bookGift cX3_bookGift 2 none (rmL 1 0 0) [.ref a, .int am] (fun H => va_at G.1 mcl (a, .inr (5, [.int tp, .int ke, .int fe, .int sa, .int gi])) H) (fun v H => v = none ∧ va_at G.1 mcl (a, .inr (5, [.int tp, .int (ke + am), .int fe, .int sa, .int (gi + am)])) H) (fun _ _ => False) := by
  refine KM.of (by decide) (Nat.le_of_ble_eq_true rfl) ?_
  intro p e s m args below meth c F hP ls hl
  have hx := F.1.1
  have hb := F.1.2.1
  have hown := F.1.2.2.2.1
  have hts := F.1.2.2.2.2
  have hr := F.2.1
  have hlocks := F.2.2.1
  have hE := F.2.2.2.2.2.1
  have hA := F.2.2.2.2.2.2
  have hS : va_S A1 s.heap s.heap [] := va_S.rf
  have hl : lv_has ls 2 [(0, .ref a), (1, .int am)] := hl
  have hO := hP
  refine lv_aload_n hx hb dX3_bookGift_0 rfl (lv_at hl 0 rfl) ?_
  refine lv_dup hx hb dX3_bookGift_1 rfl ?_
  refine gX3 F hO 4 (by decide) wFL_X3_22 (fun _ h9 => h9) (v := .int gi) rfl dX3_bookGift_2 ?_
  refine lv_iload_n hx hb dX3_bookGift_5 rfl (lv_at hl 1 rfl) ?_
  refine lv_iadd hx hb dX3_bookGift_6 ?_
  refine pX3 F hS hO hA1 4 (by decide) wFL_X3_22 (fun _ h9 => h9) rfl rfl rfl (by simp) dX3_bookGift_7 (fun H_1 locs1 hO z1 oq1 hS => ?_)
  have hO : va_at G.1 mcl (a, .inr (5, [.int tp, .int ke, .int fe, .int sa, .int (gi + am)])) H_1 := hO
  refine lv_aload_n hx hb dX3_bookGift_10 rfl (lv_at hl 0 rfl) ?_
  refine lv_dup hx hb dX3_bookGift_11 rfl ?_
  refine gX3 F hO 1 (by decide) wFL_X3_16 (fun _ h9 => h9) (v := .int ke) rfl dX3_bookGift_12 ?_
  refine lv_iload_n hx hb dX3_bookGift_15 rfl (lv_at hl 1 rfl) ?_
  refine lv_iadd hx hb dX3_bookGift_16 ?_
  refine pX3 F hS hO hA1 1 (by decide) wFL_X3_16 (fun _ h9 => h9) rfl rfl rfl (by simp) dX3_bookGift_17 (fun H_2 locs1 hO z1 oq1 hS => ?_)
  have hO : va_at G.1 mcl (a, .inr (5, [.int tp, .int (ke + am), .int fe, .int sa, .int (gi + am)])) H_2 := hO
  exact kvret hx hb hr hlocks hS (by decide) (by decide) dX3_bookGift_20 (⟨rfl, hO⟩)

set_option maxHeartbeats 4000000 in
set_option maxRecDepth 100000 in
theorem cX2_initC (l : Launch) (G : GE) (A1 : Nat → Prop) (a : Nat) (nb so ho me co : Int32) (hA1 : A1 a) : KM l G A1 yX2_init cX2_init 6 none (rmL 1 0 0) [.ref a, .int nb, .int so, .int ho, .int me, .int co] (fun H => va_at G.1 mcl (a, .inr (4, [.int 0, .int 0, .int 0, .int 0, .int 0, .int 0, .int 0, .int 0, .int 0])) H) (fun v H => v = none ∧ va_at G.1 mcl (a, .inr (4, [.int nb, .int so, .int ho, .int me, .int co, .int 0, .int 0, .int (-1), .int 0])) H) (fun _ _ => False) := by
  refine KM.of (by decide) (Nat.le_of_ble_eq_true rfl) ?_
  intro p e s m args below meth c F hP ls hl
  have hx := F.1.1
  have hb := F.1.2.1
  have hown := F.1.2.2.2.1
  have hts := F.1.2.2.2.2
  have hr := F.2.1
  have hlocks := F.2.2.1
  have hE := F.2.2.2.2.2.1
  have hA := F.2.2.2.2.2.2
  have hS : va_S A1 s.heap s.heap [] := va_S.rf
  have hl : lv_has ls 6 [(0, .ref a), (1, .int nb), (2, .int so), (3, .int ho), (4, .int me), (5, .int co)] := hl
  have hO := hP
  refine lv_aload_n hx hb dX2_init_0 rfl (lv_at hl 0 rfl) ?_
  refine W.objInit hx hb hown (hts _ wML_X2_3) (hts _ wz_62) (hts _ wCO_obj) rfl (by rw [F.1.2.2.1]; exact hl.1) rfl dX2_init_1 (Nat.le_of_ble_eq_true rfl) (Nat.le_of_ble_eq_true rfl) ?_
  refine W.eq (g2 := F0 m 4 ls []) rfl ?_
  refine lv_aload_n hx hb dX2_init_4 rfl (lv_at hl 0 rfl) ?_
  refine lv_iconst (v := (-1)) hx hb dX2_init_5 (by decide) ?_
  refine pX2 F hS hO hA1 7 (by decide) wFL_X2_9 (fun _ h9 => h9) rfl rfl rfl (by simp) dX2_init_6 (fun H_1 locs1 hO z1 oq1 hS => ?_)
  have hO : va_at G.1 mcl (a, .inr (4, [.int 0, .int 0, .int 0, .int 0, .int 0, .int 0, .int 0, .int (-1), .int 0])) H_1 := hO
  refine lv_aload_n hx hb dX2_init_9 rfl (lv_at hl 0 rfl) ?_
  refine lv_iload_n hx hb dX2_init_10 rfl (lv_at hl 1 rfl) ?_
  refine pfX2 F hS hO hA1 0 (by decide) wFL_X2_15 (fun _ h9 => h9) rfl rfl rfl rfl rfl (by simp) dX2_init_11 (fun H_2 locs1 hO z1 oq1 hS => ?_)
  have hO : va_at G.1 mcl (a, .inr (4, [.int nb, .int 0, .int 0, .int 0, .int 0, .int 0, .int 0, .int (-1), .int 0])) H_2 := hO
  refine lv_aload_n hx hb dX2_init_14 rfl (lv_at hl 0 rfl) ?_
  refine lv_iload_n hx hb dX2_init_15 rfl (lv_at hl 2 rfl) ?_
  refine pfX2 F hS hO hA1 1 (by decide) wFL_X2_18 (fun _ h9 => h9) rfl rfl rfl rfl rfl (by simp) dX2_init_16 (fun H_3 locs1 hO z1 oq1 hS => ?_)
  have hO : va_at G.1 mcl (a, .inr (4, [.int nb, .int so, .int 0, .int 0, .int 0, .int 0, .int 0, .int (-1), .int 0])) H_3 := hO
  refine lv_aload_n hx hb dX2_init_19 rfl (lv_at hl 0 rfl) ?_
  refine lv_iload_n hx hb dX2_init_20 rfl (lv_at hl 3 rfl) ?_
  refine pfX2 F hS hO hA1 2 (by decide) wFL_X2_21 (fun _ h9 => h9) rfl rfl rfl rfl rfl (by simp) dX2_init_21 (fun H_4 locs1 hO z1 oq1 hS => ?_)
  have hO : va_at G.1 mcl (a, .inr (4, [.int nb, .int so, .int ho, .int 0, .int 0, .int 0, .int 0, .int (-1), .int 0])) H_4 := hO
  refine lv_aload_n hx hb dX2_init_24 rfl (lv_at hl 0 rfl) ?_
  refine lv_iload hx hb dX2_init_25 (lv_at hl 4 rfl) ?_
  refine pfX2 F hS hO hA1 3 (by decide) wFL_X2_24 (fun _ h9 => h9) rfl rfl rfl rfl rfl (by simp) dX2_init_27 (fun H_5 locs1 hO z1 oq1 hS => ?_)
  have hO : va_at G.1 mcl (a, .inr (4, [.int nb, .int so, .int ho, .int me, .int 0, .int 0, .int 0, .int (-1), .int 0])) H_5 := hO
  refine lv_aload_n hx hb dX2_init_30 rfl (lv_at hl 0 rfl) ?_
  refine lv_iload hx hb dX2_init_31 (lv_at hl 5 rfl) ?_
  refine pfX2 F hS hO hA1 4 (by decide) wFL_X2_27 (fun _ h9 => h9) rfl rfl rfl rfl rfl (by simp) dX2_init_33 (fun H_6 locs1 hO z1 oq1 hS => ?_)
  have hO : va_at G.1 mcl (a, .inr (4, [.int nb, .int so, .int ho, .int me, .int co, .int 0, .int 0, .int (-1), .int 0])) H_6 := hO
  exact kvret hx hb hr hlocks hS (by decide) (by decide) dX2_init_36 (⟨rfl, hO⟩)

set_option maxHeartbeats 4000000 in
set_option maxRecDepth 100000 in
theorem cX0_initC (l : Launch) (G : GE) (A1 : Nat → Prop) (a : Nat) (hA1 : A1 a) : KM l G A1 yX0_init cX0_init 1 none (rmL 1 0 0) [.ref a] (fun H => va_at G.1 mcl (a, .inr (2, [.int 0, .int 0])) H) (fun v H => v = none ∧ va_at G.1 mcl (a, .inr (2, [.int 0, .int (-1)])) H) (fun _ _ => False) := by
  refine KM.of (by decide) (Nat.le_of_ble_eq_true rfl) ?_
  intro p e s m args below meth c F hP ls hl
  have hx := F.1.1
  have hb := F.1.2.1
  have hown := F.1.2.2.2.1
  have hts := F.1.2.2.2.2
  have hr := F.2.1
  have hlocks := F.2.2.1
  have hE := F.2.2.2.2.2.1
  have hA := F.2.2.2.2.2.2
  have hS : va_S A1 s.heap s.heap [] := va_S.rf
  have hl : lv_has ls 1 [(0, .ref a)] := hl
  have hO := hP
  refine lv_aload_n hx hb dX0_init_0 rfl (lv_at hl 0 rfl) ?_
  refine W.objInit hx hb hown (hts _ wML_X0_3) (hts _ wz_62) (hts _ wCO_obj) rfl (by rw [F.1.2.2.1]; exact hl.1) rfl dX0_init_1 (Nat.le_of_ble_eq_true rfl) (Nat.le_of_ble_eq_true rfl) ?_
  refine W.eq (g2 := F0 m 4 ls []) rfl ?_
  refine lv_aload_n hx hb dX0_init_4 rfl (lv_at hl 0 rfl) ?_
  refine lv_iconst (v := (-1)) hx hb dX0_init_5 (by decide) ?_
  refine pX0 F hS hO hA1 1 (by decide) wFL_X0_9 (fun _ h9 => h9) rfl rfl rfl (by simp) dX0_init_6 (fun H_1 locs1 hO z1 oq1 hS => ?_)
  have hO : va_at G.1 mcl (a, .inr (2, [.int 0, .int (-1)])) H_1 := hO
  exact kvret hx hb hr hlocks hS (by decide) (by decide) dX0_init_9 (⟨rfl, hO⟩)

set_option maxHeartbeats 4000000 in
set_option maxRecDepth 100000 in
theorem cX4_initC (l : Launch) (G : GE) (A1 : Nat → Prop) (a b : Nat) (nb rn rh cp cl vi : Int32) (ql : Nat) (hA1 : A1 a) (hab : b ≠ a) : KM l G A1 yX4_init cX4_init 3 none (rmL 1 0 0) [.ref a, .int nb, .ref b] (fun H => va_at G.1 mcl (a, .inr (6, [.int 0, .int 0, .int 0, .int 0, .int 0, .int 0, .int 0, .int 0])) H ∧ va_at G.1 mcl (b, .inr (3, [.int rn, .int rh, .int cp, .int cl, .int vi, .ref ql])) H) (fun v H => v = none ∧ va_at G.1 mcl (a, .inr (6, [.int nb, .int rh, .int rn, .int 0, .int 0, .int 0, .int 20, .int 0])) H) (fun _ _ => False) := by
  refine KM.of (by decide) (Nat.le_of_ble_eq_true rfl) ?_
  intro p e s m args below meth c F hP ls hl
  have hx := F.1.1
  have hb := F.1.2.1
  have hown := F.1.2.2.2.1
  have hts := F.1.2.2.2.2
  have hr := F.2.1
  have hlocks := F.2.2.1
  have hE := F.2.2.2.2.2.1
  have hA := F.2.2.2.2.2.2
  have hS : va_S A1 s.heap s.heap [] := va_S.rf
  have hl : lv_has ls 3 [(0, .ref a), (1, .int nb), (2, .ref b)] := hl
  obtain ⟨hO, hRm⟩ := hP
  refine lv_aload_n hx hb dX4_init_0 rfl (lv_at hl 0 rfl) ?_
  refine W.objInit hx hb hown (hts _ wML_X4_3) (hts _ wz_62) (hts _ wCO_obj) rfl (by rw [F.1.2.2.1]; exact hl.1) rfl dX4_init_1 (Nat.le_of_ble_eq_true rfl) (Nat.le_of_ble_eq_true rfl) ?_
  refine W.eq (g2 := F0 m 4 ls []) rfl ?_
  refine lv_aload_n hx hb dX4_init_4 rfl (lv_at hl 0 rfl) ?_
  refine lv_bipush (v := 20) hx hb dX4_init_5 (by decide) ?_
  refine pX4 F hS hO hA1 6 (by decide) wFL_X4_9 (fun _ h9 => h9) rfl rfl rfl (by simp) dX4_init_7 (fun H_1 locs1 hO z1 oq1 hS => ?_)
  have hO : va_at G.1 mcl (a, .inr (6, [.int 0, .int 0, .int 0, .int 0, .int 0, .int 0, .int 20, .int 0])) H_1 := hO
  have hRm := hRm.kept (oq1 _ hab)
  refine lv_aload_n hx hb dX4_init_10 rfl (lv_at hl 0 rfl) ?_
  refine lv_iload_n hx hb dX4_init_11 rfl (lv_at hl 1 rfl) ?_
  refine pfX4 F hS hO hA1 0 (by decide) wFL_X4_15 (fun _ h9 => h9) rfl rfl rfl rfl rfl (by simp) dX4_init_12 (fun H_2 locs1 hO z1 oq1 hS => ?_)
  have hO : va_at G.1 mcl (a, .inr (6, [.int nb, .int 0, .int 0, .int 0, .int 0, .int 0, .int 20, .int 0])) H_2 := hO
  have hRm := hRm.kept (oq1 _ hab)
  refine lv_aload_n hx hb dX4_init_15 rfl (lv_at hl 0 rfl) ?_
  refine lv_aload_n hx hb dX4_init_16 rfl (lv_at hl 2 rfl) ?_
  refine gX1 F hRm 1 (by decide) wFL_X4_18 (fun _ h9 => h9) (v := .int rh) rfl dX4_init_17 ?_
  refine pfX4 F hS hO hA1 1 (by decide) wFL_X4_23 (fun _ h9 => h9) rfl rfl rfl rfl rfl (by simp) dX4_init_20 (fun H_3 locs1 hO z1 oq1 hS => ?_)
  have hO : va_at G.1 mcl (a, .inr (6, [.int nb, .int rh, .int 0, .int 0, .int 0, .int 0, .int 20, .int 0])) H_3 := hO
  have hRm := hRm.kept (oq1 _ hab)
  refine lv_aload_n hx hb dX4_init_23 rfl (lv_at hl 0 rfl) ?_
  refine lv_aload_n hx hb dX4_init_24 rfl (lv_at hl 2 rfl) ?_
  refine gX1 F hRm 0 (by decide) wFL_X4_24 (fun _ h9 => h9) (v := .int rn) rfl dX4_init_25 ?_
  refine pX4 F hS hO hA1 2 (by decide) wFL_X4_25 (fun _ h9 => h9) rfl rfl rfl (by simp) dX4_init_28 (fun H_4 locs1 hO z1 oq1 hS => ?_)
  have hO : va_at G.1 mcl (a, .inr (6, [.int nb, .int rh, .int rn, .int 0, .int 0, .int 0, .int 20, .int 0])) H_4 := hO
  have hRm := hRm.kept (oq1 _ hab)
  exact kvret hx hb hr hlocks hS (by decide) (by decide) dX4_init_31 (⟨rfl, hO⟩)

