def fWait (σ : SG) : List Nat → Nat
  | [] => 0
  | t :: q => if σ 10 t = 2 then fWait σ q + 1 else 0
theorem fWait_le (σ : SG) : ∀ q, fWait σ q ≤ q.length
  | [] => Nat.le_refl _
  | t :: q => by
    have := fWait_le σ q
    simp only [fWait]
    split <;> simp <;> omega
theorem fWait_drop {σ : SG} {q : List Nat} {i t : Nat} (h : q[i]? = some t) : fWait σ (q.drop i) = if σ 10 t = 2 then fWait σ (q.drop (i + 1)) + 1 else 0 := by
  obtain ⟨hi, e⟩ := List.getElem?_eq_some_iff.mp h
  rw [List.drop_eq_getElem_cons hi, e]
  rfl
theorem fWait_up {σ : SG} {f i : Nat} {v : Int32} (hf : f ≠ 10) : ∀ q, fWait (up σ f i v) q = fWait σ q
  | [] => rfl
  | t :: q => by
    simp only [fWait]
    rw [up_f (Ne.symm hf), fWait_up hf q]
/-- a queue without t -/
def qrem (t : Nat) : List Nat → List Nat
  | [] => []
  | x :: q => if x = t then q else x :: qrem t q
theorem qrem_at : ∀ (q : List Nat) (i t : Nat), q[i]? = some t → (∀ k, k < i → ¬ q[k]? = some t) → q.eraseIdx i = qrem t q
  | [], i, t, h, _ => by simp at h
  | x :: q, 0, t, h, _ => by
    simp at h
    simp [qrem, h]
  | x :: q, i + 1, t, h, hn => by
    have h0 := hn 0 (by omega)
    simp only [List.getElem?_cons_zero, Option.some.injEq] at h0
    rw [List.eraseIdx_cons_succ, qrem_at q i t (by simpa using h) (fun k hk => by have := hn (k + 1) (by omega); simpa using this)]
    simp only [qrem]
    rw [if_neg h0]
theorem qrem_no : ∀ (q : List Nat) (t : Nat), (∀ k, k < q.length → ¬ q[k]? = some t) → qrem t q = q
  | [], _, _ => rfl
  | x :: q, t, hn => by
    have h0 := hn 0 (by simp)
    simp only [List.getElem?_cons_zero, Option.some.injEq] at h0
    simp only [qrem]
    rw [if_neg h0, qrem_no q t (fun k hk => by have := hn (k + 1) (by simpa using hk); simpa using this)]
theorem PX.qlt {G : GE} {A : Nat → Prop} {ad : Nat → Nat → Nat} {σ : SG} {qs : Nat → List Nat} {nT nW : Nat} {H : Heap} (h : PX G A ad σ qs nT nW H) {r t : Nat} (hr : r < 12) (ht : t ∈ qs r) : t < nT := by
  obtain ⟨_, _, _, _, _, _, _, h⟩ := h
  exact h r hr t ht
set_option maxHeartbeats 4000000 in
set_option maxRecDepth 100000 in
theorem kX1_waitingMembers (l : Launch) (G : GE) (A1 A : Nat → Prop) (ad : Nat → Nat → Nat) (σ : SG) (qs : Nat → List Nat) (nT nW : Nat) (r : Nat) (hr9 : r < 12) (hlen : (qs r).length ≤ 1000) : KM l G A1 yX1_waitingMembers cX1_waitingMembers 2 (some .int) (rmL 4 0 0) [.ref (ad 5 r)] (PX G A ad σ qs nT nW) (fun v _ => v = some (.int (nI (fWait σ (qs r))))) (fun _ _ => False) := by
  refine KM.of (by decide) (Nat.le_of_ble_eq_true rfl) ?_
  intro p e s m args below meth c F hP ls hl
  have hx := F.1.1
  have hb := F.1.2.1
  have hown := F.1.2.2.2.1
  have hts := F.1.2.2.2.2
  have hr := F.2.1
  have hlocks := F.2.2.1
  have hE := F.2.2.2.2.2.1
  have hA := F.2.2.2.2.2.2
  have hS : va_S A1 s.heap s.heap [] := va_S.rf
  have hl : lv_has ls 2 [(0, .ref (ad 5 r))] := hl
  have hP := hP
  refine lv_iconst (v := 0) hx hb dX1_waitingMembers_0 (by decide) ?_
  refine lv_istore_n (lv' := [(1, .int 0), (0, .ref (ad 5 r))]) hx hb dX1_waitingMembers_1 rfl hl (by decide) rfl (fun ls hl => ?_)
  have L2 : ∀ (n9 : Nat) (i : Nat) (h1 : i ≤ (qs r).length) (h2 : (qs r).length < i + n9) (hT : i + fWait σ ((qs r).drop i) = fWait σ (qs r)) (H : Heap) (locs : List Loc) (ls : Array Slot), va_S A1 s.heap H locs → PX G A ad σ qs nT nW H → lv_has ls 2 [(1, .int (nI i)), (0, .ref (ad 5 r))] → W p l e (rmL 4 0 0) s m args below meth c H locs 0 0 (KE below A1 (fun v _ => v = some (.int (nI (fWait σ (qs r))))) (fun _ _ => False) args s (rmL 4 0 0)) (F0 m 2 ls []) := by
    intro n9
    induction n9 with
    | zero =>
      intro i h1 h2 hT H locs ls hS hP hl
      exact absurd True.intro (by omega)
    | succ n9 ih2 =>
      intro i h1 h2 hT H locs ls hS hP hl
      refine lv_iload_n hx hb dX1_waitingMembers_2 rfl (lv_at hl 0 rfl) ?_
      refine lv_aload_n hx hb dX1_waitingMembers_3 rfl (lv_at hl 1 rfl) ?_
      refine gX1 F (hP.room hr9) 5 (by decide) wFL_X1_18 (fun _ h9 => h9) (v := .ref (ad 7 r)) rfl dX1_waitingMembers_4 ?_
      refine kcallV (n := 0) F (cQ_size l G (fun q => H.size ≤ q) A ad σ qs nT nW r (by omega)) wML_X1_51 wIM_Jx4a65c_size_8abf5 wSE_Jx4a65c_Jx4a65c_size_8abf5 wIN_Jx4a65c wCO_Jx4a65c_size_8abf5 (by decide) rfl ⟨by decide, by decide⟩ (by obtain ⟨_, _, h⟩ := hP.lobj (i := r) (by omega); exact frec F h _ rfl) hS (fun q h => hA q (Nat.le_trans hS.1 h)) (fun q h => h) hP rfl hl.1 (Nat.le_of_ble_eq_true rfl) dX1_waitingMembers_7 ⟨by decide, by decide⟩ (fun E ce q9 H1 locs1 hx9 _ _ _ _ _ => hx9.elim) (fun v H1 locs1 hv hk hS => ?_)
      have hP := hP.old hk
      rw [lsX_q _ _ _ _ hr9, List.length_map] at hv
      subst hv
      refine lv_icmp_ge (tgt := 37) hx hb dX1_waitingMembers_10 (by decide) (fun c_10_1 => ?_) (fun c_10_1 => ?_)
      · have ei := nI_eqle (n := (qs r).length) h1 (by omega) c_10_1
        refine lv_iload_n hx hb dX1_waitingMembers_37 rfl (lv_at hl 0 rfl) ?_
        exact kiret hx hb hr hlocks hS (by decide) (by decide) dX1_waitingMembers_38 (by rw [ei, List.drop_length] at hT; rw [← hT, ei]; rfl)
      · have hi := nI_lt' (n := (qs r).length) h1 (by omega) c_10_1
        obtain ⟨u, hu⟩ : ∃ u, (qs r)[i]? = some u := ⟨_, List.getElem?_eq_getElem hi⟩
        have hun := hP.qlt hr9 (List.mem_of_getElem? hu)
        refine lv_aload_n hx hb dX1_waitingMembers_13 rfl (lv_at hl 1 rfl) ?_
        refine gX1 F (hP.room hr9) 5 (by decide) wFL_X1_18 (fun _ h9 => h9) (v := .ref (ad 7 r)) rfl dX1_waitingMembers_14 ?_
        refine lv_iload_n hx hb dX1_waitingMembers_17 rfl (lv_at hl 0 rfl) ?_
        refine kcallV (n := 1) F (cQ_get l G (fun q => H1.size ≤ q) A ad σ qs nT nW r i (ad 10 u) (by omega) (by rw [lsX_q _ _ _ _ hr9, List.getElem?_map, hu]; rfl)) wML_X1_54 wIM_Jx4a65c_get_915e3 wSE_Jx4a65c_Jx4a65c_get_915e3 wIN_Jx4a65c wCO_Jx4a65c_get_915e3 (by decide) rfl ⟨by decide, by decide⟩ (by obtain ⟨_, _, h⟩ := hP.lobj (i := r) (by omega); exact frec F h _ rfl) hS (fun q h => hA q (Nat.le_trans hS.1 h)) (fun q h => h) hP rfl hl.1 (Nat.le_of_ble_eq_true rfl) dX1_waitingMembers_18 ⟨by decide, by decide⟩ (fun E ce q9 H1 locs1 hx9 _ _ _ _ _ => hx9.elim) (fun v H1 locs1 hv hk hS => ?_)
        have hP := hP.old hk
        subst hv
        refine va_castS hx hb hown (hts _ wCL_X1_29) (hE.1.1.1 4 _ rfl).2 (frec F (hP.tick hun) _ rfl) dX1_waitingMembers_21 ?_
        refine gX2 F (hP.tick hun) 1 (by decide) wFL_X1_37 (fun _ h9 => h9) (v := .int (σ 10 u)) rfl dX1_waitingMembers_24 ?_
        refine lv_iconst (v := 2) hx hb dX1_waitingMembers_27 (by decide) ?_
        refine lv_icmp_ne (tgt := 37) hx hb dX1_waitingMembers_28 (by decide) (fun c_28_2 => ?_) (fun c_28_2 => ?_)
        · refine lv_iload_n hx hb dX1_waitingMembers_37 rfl (lv_at hl 0 rfl) ?_
          exact kiret hx hb hr hlocks hS (by decide) (by decide) dX1_waitingMembers_38 (by rw [fWait_drop hu, if_neg c_28_2, Nat.add_zero] at hT; rw [hT])
        · refine lv_iinc (v := (nI (i + 1))) (lv' := [(1, .int (nI (i + 1))), (0, .ref (ad 5 r))]) hx hb dX1_waitingMembers_31 hl (k := 0) rfl (nI_1 _) (by decide) rfl (fun ls hl => ?_)
          refine lv_goto (tgt := 2) hx hb dX1_waitingMembers_34 (by decide) ?_
          exact ih2 (i + 1) (by omega) (by omega) (by rw [fWait_drop hu, if_pos c_28_2] at hT; omega) _ _ _ hS hP (lv_sub hl [0, 1] rfl)
  exact L2 ((qs r).length + 1) 0 (Nat.zero_le _) (by omega) (by rw [Nat.zero_add]; rfl) _ _ _ hS hP (lv_sub hl [0, 1] rfl)

set_option maxHeartbeats 4000000 in
set_option maxRecDepth 100000 in
theorem kX1_leaveQueue (l : Launch) (G : GE) (A : Nat → Prop) (ad : Nat → Nat → Nat) (σ : SG) (qs : Nat → List Nat) (nT nW : Nat) (r t : Nat) (hr9 : r < 12) (ht : t < nT) (hlen : (qs r).length ≤ 1000) : KM l G A yX1_leaveQueue cX1_leaveQueue 3 none (rmL 4 0 0) [.ref (ad 5 r), .ref (ad 10 t)] (PX G A ad σ qs nT nW) (fun v H => v = none ∧ PX G A ad σ (sq qs r (qrem t (qs r))) nT nW H) (fun _ _ => False) := by
  refine KM.of (by decide) (Nat.le_of_ble_eq_true rfl) ?_
  intro p e s m args below meth c F hP ls hl
  have hx := F.1.1
  have hb := F.1.2.1
  have hown := F.1.2.2.2.1
  have hts := F.1.2.2.2.2
  have hr := F.2.1
  have hlocks := F.2.2.1
  have hE := F.2.2.2.2.2.1
  have hA := F.2.2.2.2.2.2
  have hS : va_S A s.heap s.heap [] := va_S.rf
  have hl : lv_has ls 3 [(0, .ref (ad 5 r)), (1, .ref (ad 10 t))] := hl
  have hP := hP
  refine lv_iconst (v := 0) hx hb dX1_leaveQueue_0 (by decide) ?_
  refine lv_istore_n (lv' := [(2, .int 0), (0, .ref (ad 5 r)), (1, .ref (ad 10 t))]) hx hb dX1_leaveQueue_1 rfl hl (by decide) rfl (fun ls hl => ?_)
  have L2 : ∀ (n9 : Nat) (i : Nat) (h1 : i ≤ (qs r).length) (h2 : (qs r).length < i + n9) (hT : ∀ k, k < i → ¬ (qs r)[k]? = some t) (H : Heap) (locs : List Loc) (ls : Array Slot), va_S A s.heap H locs → PX G A ad σ qs nT nW H → lv_has ls 3 [(2, .int (nI i)), (0, .ref (ad 5 r)), (1, .ref (ad 10 t))] → W p l e (rmL 4 0 0) s m args below meth c H locs 0 0 (KE below A (fun v H => v = none ∧ PX G A ad σ (sq qs r (qrem t (qs r))) nT nW H) (fun _ _ => False) args s (rmL 4 0 0)) (F0 m 2 ls []) := by
    intro n9
    induction n9 with
    | zero =>
      intro i h1 h2 hT H locs ls hS hP hl
      exact absurd True.intro (by omega)
    | succ n9 ih2 =>
      intro i h1 h2 hT H locs ls hS hP hl
      refine lv_iload_n hx hb dX1_leaveQueue_2 rfl (lv_at hl 0 rfl) ?_
      refine lv_aload_n hx hb dX1_leaveQueue_3 rfl (lv_at hl 1 rfl) ?_
      refine gX1 F (hP.room hr9) 5 (by decide) wFL_X1_18 (fun _ h9 => h9) (v := .ref (ad 7 r)) rfl dX1_leaveQueue_4 ?_
      refine kcallV (n := 0) F (cQ_size l G (fun q => H.size ≤ q) A ad σ qs nT nW r (by omega)) wML_X1_51 wIM_Jx4a65c_size_8abf5 wSE_Jx4a65c_Jx4a65c_size_8abf5 wIN_Jx4a65c wCO_Jx4a65c_size_8abf5 (by decide) rfl ⟨by decide, by decide⟩ (by obtain ⟨_, _, h⟩ := hP.lobj (i := r) (by omega); exact frec F h _ rfl) hS (fun q h => hA q (Nat.le_trans hS.1 h)) (fun q h => h) hP rfl hl.1 (Nat.le_of_ble_eq_true rfl) dX1_leaveQueue_7 ⟨by decide, by decide⟩ (fun E ce q9 H1 locs1 hx9 _ _ _ _ _ => hx9.elim) (fun v H1 locs1 hv hk hS => ?_)
      have hP := hP.old hk
      rw [lsX_q _ _ _ _ hr9, List.length_map] at hv
      subst hv
      refine lv_icmp_ge (tgt := 41) hx hb dX1_leaveQueue_10 (by decide) (fun c_10_1 => ?_) (fun c_10_1 => ?_)
      · have ei := nI_eqle (n := (qs r).length) h1 (by omega) c_10_1
        exact kvret hx hb hr hlocks hS (by decide) (by decide) dX1_leaveQueue_41 (⟨rfl, by rw [qrem_no _ _ (ei ▸ hT), show sq qs r (qs r) = qs from funext fun j => by unfold sq; split <;> simp_all]; exact hP⟩)
      · have hi := nI_lt' (n := (qs r).length) h1 (by omega) c_10_1
        obtain ⟨u, hu⟩ : ∃ u, (qs r)[i]? = some u := ⟨_, List.getElem?_eq_getElem hi⟩
        have hun := hP.qlt hr9 (List.mem_of_getElem? hu)
        refine lv_aload_n hx hb dX1_leaveQueue_13 rfl (lv_at hl 1 rfl) ?_
        refine gX1 F (hP.room hr9) 5 (by decide) wFL_X1_18 (fun _ h9 => h9) (v := .ref (ad 7 r)) rfl dX1_leaveQueue_14 ?_
        refine lv_iload_n hx hb dX1_leaveQueue_17 rfl (lv_at hl 0 rfl) ?_
        refine kcallV (n := 1) F (cQ_get l G (fun q => H1.size ≤ q) A ad σ qs nT nW r i (ad 10 u) (by omega) (by rw [lsX_q _ _ _ _ hr9, List.getElem?_map, hu]; rfl)) wML_X1_54 wIM_Jx4a65c_get_915e3 wSE_Jx4a65c_Jx4a65c_get_915e3 wIN_Jx4a65c wCO_Jx4a65c_get_915e3 (by decide) rfl ⟨by decide, by decide⟩ (by obtain ⟨_, _, h⟩ := hP.lobj (i := r) (by omega); exact frec F h _ rfl) hS (fun q h => hA q (Nat.le_trans hS.1 h)) (fun q h => h) hP rfl hl.1 (Nat.le_of_ble_eq_true rfl) dX1_leaveQueue_18 ⟨by decide, by decide⟩ (fun E ce q9 H1 locs1 hx9 _ _ _ _ _ => hx9.elim) (fun v H1 locs1 hv hk hS => ?_)
        have hP := hP.old hk
        subst hv
        refine lv_aload_n hx hb dX1_leaveQueue_21 rfl (lv_at hl 2 rfl) ?_
        refine lv_acmp_ne (rx := some (ad 10 u)) (ry := some (ad 10 t)) (tgt := 35) hx hb dX1_leaveQueue_22 (by decide) (fun c_22_2 => ?_) (fun c_22_2 => ?_)
        · refine lv_iinc (v := (nI (i + 1))) (lv' := [(2, .int (nI (i + 1))), (0, .ref (ad 5 r)), (1, .ref (ad 10 t))]) hx hb dX1_leaveQueue_35 hl (k := 0) rfl (nI_1 _) (by decide) rfl (fun ls hl => ?_)
          refine lv_goto (tgt := 2) hx hb dX1_leaveQueue_38 (by decide) ?_
          exact ih2 (i + 1) (by omega) (by omega) (lt_s hT (fun z => c_22_2 (by rw [hu] at z; rw [Option.some.inj z]))) _ _ _ hS hP (lv_sub hl [0, 1, 2] rfl)
        · have eu : u = t := hP.inj10 hun ht (Option.some.inj c_22_2)
          subst eu
          refine lv_aload_n hx hb dX1_leaveQueue_25 rfl (lv_at hl 1 rfl) ?_
          refine gX1 F (hP.room hr9) 5 (by decide) wFL_X1_18 (fun _ h9 => h9) (v := .ref (ad 7 r)) rfl dX1_leaveQueue_26 ?_
          refine lv_iload_n hx hb dX1_leaveQueue_29 rfl (lv_at hl 0 rfl) ?_
          refine kcallV (n := 1) F (cQ_remove l G A ad σ qs nT nW r i u hr9 hu) wML_X1_58 wIM_Jx4a65c_remove_915e3 wSE_Jx4a65c_Jx4a65c_remove_915e3 wIN_Jx4a65c wCO_Jx4a65c_remove_915e3 (by decide) rfl ⟨by decide, by decide⟩ (by obtain ⟨_, _, h⟩ := hP.lobj (i := r) (by omega); exact frec F h _ rfl) hS (fun _ h => h) (fun q h => hA q (Nat.le_trans hS.1 h)) hP rfl hl.1 (Nat.le_of_ble_eq_true rfl) dX1_leaveQueue_30 ⟨by decide, by decide⟩ (fun E ce q9 H1 locs1 hx9 _ _ _ _ _ => hx9.elim) (fun v H1 locs1 hv hk hS => ?_)
          obtain ⟨rfl, hP⟩ := hv
          rw [qrem_at _ i u hu hT] at hP
          refine lv_pop hx hb dX1_leaveQueue_33 rfl ?_
          exact kvret hx hb hr hlocks hS (by decide) (by decide) dX1_leaveQueue_34 (⟨rfl, hP⟩)
  exact L2 ((qs r).length + 1) 0 (Nat.zero_le _) (by omega) (fun k h => absurd h (Nat.not_lt_zero k)) _ _ _ hS hP (lv_sub hl [0, 1, 2] rfl)

def fQue (σ : SG) (qs : Nat → List Nat) (r t : Nat) : List Nat := if σ 10 t = 2 then (qs r).insertIdx (fWait σ (qs r)) t else qs r ++ [t]
set_option maxHeartbeats 4000000 in
set_option maxRecDepth 100000 in
theorem kX1_queueUp (l : Launch) (G : GE) (A : Nat → Prop) (ad : Nat → Nat → Nat) (σ : SG) (qs : Nat → List Nat) (nT nW : Nat) (r t : Nat) (hr9 : r < 12) (ht : t < nT) (hlen : (qs r).length ≤ 100) : KM l G A yX1_queueUp cX1_queueUp 2 none (rmL 8 1 200) [.ref (ad 5 r), .ref (ad 10 t)] (PX G A ad σ qs nT nW) (fun v H => v = none ∧ PX G A ad (up (up σ 16 t (nI r)) 17 t 1) (sq qs r (fQue σ qs r t)) nT nW H) (fun _ _ => False) := by
  refine KM.of (by decide) (Nat.le_of_ble_eq_true rfl) ?_
  intro p e s m args below meth c F hP ls hl
  have hx := F.1.1
  have hb := F.1.2.1
  have hown := F.1.2.2.2.1
  have hts := F.1.2.2.2.2
  have hr := F.2.1
  have hlocks := F.2.2.1
  have hE := F.2.2.2.2.2.1
  have hA := F.2.2.2.2.2.2
  have hS : va_S A s.heap s.heap [] := va_S.rf
  have hl : lv_has ls 2 [(0, .ref (ad 5 r)), (1, .ref (ad 10 t))] := hl
  have hP := hP
  refine lv_aload_n hx hb dX1_queueUp_0 rfl (lv_at hl 1 rfl) ?_
  refine lv_aload_n hx hb dX1_queueUp_1 rfl (lv_at hl 0 rfl) ?_
  refine gX1 F (hP.room hr9) 0 (by decide) wFL_X1_22 (fun _ h9 => h9) (v := .int (nI r)) rfl dX1_queueUp_2 ?_
  refine pX2 F hS (hP.tick ht) (hP.otick ht) 7 (by decide) wFL_X1_28 (fun _ h9 => h9) rfl rfl rfl (by simp) dX1_queueUp_5 (fun H1 locs1 he1 z1 oq1 hS => ?_)
  have hP := hP.p16 ht he1 oq1
  refine lv_aload_n hx hb dX1_queueUp_8 rfl (lv_at hl 1 rfl) ?_
  refine lv_iconst (v := 1) hx hb dX1_queueUp_9 (by decide) ?_
  refine pX2 F hS (hP.tick ht) (hP.otick ht) 8 (by decide) wFL_X1_33 (fun _ h9 => h9) rfl rfl rfl (by simp) dX1_queueUp_10 (fun H1 locs1 he1 z1 oq1 hS => ?_)
  have hP := hP.p17 ht he1 oq1
  refine lv_aload_n hx hb dX1_queueUp_13 rfl (lv_at hl 1 rfl) ?_
  refine gX2 F (hP.tick ht) 1 (by decide) wFL_X1_37 (fun _ h9 => h9) (v := .int (σ 10 t)) rfl dX1_queueUp_14 ?_
  refine lv_iconst (v := 2) hx hb dX1_queueUp_17 (by decide) ?_
  refine lv_icmp_ne (tgt := 36) hx hb dX1_queueUp_18 (by decide) (fun c_18_1 => ?_) (fun c_18_1 => ?_)
  · refine lv_aload_n hx hb dX1_queueUp_36 rfl (lv_at hl 0 rfl) ?_
    refine gX1 F (hP.room hr9) 5 (by decide) wFL_X1_18 (fun _ h9 => h9) (v := .ref (ad 7 r)) rfl dX1_queueUp_37 ?_
    refine lv_aload_n hx hb dX1_queueUp_40 rfl (lv_at hl 1 rfl) ?_
    refine kcallV (n := 1) F (cQ_add l G A ad (up (up σ 16 t (nI r)) 17 t 1) qs nT nW r t hr9 ht hlen) wML_X1_48 wIM_Jx4a65c_add_9ea2d wSE_Jx4a65c_Jx4a65c_add_9ea2d wIN_Jx4a65c wCO_Jx4a65c_add_9ea2d (by decide) rfl ⟨by decide, by decide⟩ (by obtain ⟨_, _, h⟩ := hP.lobj (i := r) (by omega); exact frec F h _ rfl) hS (fun _ h => h) (fun q h => hA q (Nat.le_trans hS.1 h)) hP rfl hl.1 (Nat.le_of_ble_eq_true rfl) dX1_queueUp_41 ⟨by decide, by decide⟩ (fun E ce q9 H1 locs1 hx9 _ _ _ _ _ => hx9.elim) (fun v H1 locs1 hv hk hS => ?_)
    obtain ⟨rfl, hP⟩ := hv
    refine lv_pop hx hb dX1_queueUp_44 rfl ?_
    exact kvret hx hb hr hlocks hS (by decide) (by decide) dX1_queueUp_45 (⟨rfl, by rw [show fQue σ qs r t = _ from if_neg c_18_1]; exact hP⟩)
  · refine lv_aload_n hx hb dX1_queueUp_21 rfl (lv_at hl 0 rfl) ?_
    refine gX1 F (hP.room hr9) 5 (by decide) wFL_X1_18 (fun _ h9 => h9) (v := .ref (ad 7 r)) rfl dX1_queueUp_22 ?_
    refine lv_aload_n hx hb dX1_queueUp_25 rfl (lv_at hl 0 rfl) ?_
    refine kcallV (n := 0) F (kX1_waitingMembers l G (fun q => H1.size ≤ q) A ad (up (up σ 16 t (nI r)) 17 t 1) qs nT nW r hr9 (by omega)) wML_X1_40 wIM_X1_waitingMembers wSE_X1_X1_waitingMembers wIN_X1 wCO_X1_waitingMembers (by decide) rfl ⟨by decide, by decide⟩ (frec F (hP.room hr9) _ rfl) hS (fun q h => hA q (Nat.le_trans hS.1 h)) (fun q h => h) hP rfl hl.1 (Nat.le_of_ble_eq_true rfl) dX1_queueUp_26 ⟨by decide, by decide⟩ (fun E ce q9 H1 locs1 hx9 _ _ _ _ _ => hx9.elim) (fun v H1 locs1 hv hk hS => ?_)
    have hP := hP.old hk
    subst hv
    refine lv_aload_n hx hb dX1_queueUp_29 rfl (lv_at hl 1 rfl) ?_
    refine kcallV (n := 2) F (cQ_addAt l G A ad (up (up σ 16 t (nI r)) 17 t 1) qs nT nW r (fWait (up (up σ 16 t (nI r)) 17 t 1) (qs r)) t hr9 (fWait_le _ _) ht hlen) wML_X1_44 wIM_Jx4a65c_add_7a177 wSE_Jx4a65c_Jx4a65c_add_7a177 wIN_Jx4a65c wCO_Jx4a65c_add_7a177 (by decide) rfl ⟨by decide, by decide⟩ (by obtain ⟨_, _, h⟩ := hP.lobj (i := r) (by omega); exact frec F h _ rfl) hS (fun _ h => h) (fun q h => hA q (Nat.le_trans hS.1 h)) hP rfl hl.1 (Nat.le_of_ble_eq_true rfl) dX1_queueUp_30 ⟨by decide, by decide⟩ (fun E ce q9 H1 locs1 hx9 _ _ _ _ _ => hx9.elim) (fun v H1 locs1 hv hk hS => ?_)
    obtain ⟨rfl, hP⟩ := hv
    rw [fWait_up (by decide), fWait_up (by decide)] at hP
    refine lv_goto (tgt := 45) hx hb dX1_queueUp_33 (by decide) ?_
    exact kvret hx hb hr hlocks hS (by decide) (by decide) dX1_queueUp_45 (⟨rfl, by rw [show fQue σ qs r t = _ from if_pos c_18_1]; exact hP⟩)

def fShT (i : Nat) (σ : SG) : SG := if σ 14 i = 0 then fShare (σ 13 i) (σ 15 i) σ else σ
def fShM (f nT i : Nat) (σ : SG) : SG := if fBel (σ 9 i) (σ 25 0) then fShare 200 (fSeen σ (nI i) f (nT - f)) σ else σ
def fEnd2 (nT : Nat) (σ : SG) : SG := up (up σ 26 0 (nI nT)) 25 0 (σ 25 0 + 1)
def fEnd (f nT : Nat) (σ : SG) : SG := fEnd2 nT (itr (fShM f nT) 0 6 (itr fShT f (nT - f) (itr (fun r => fSend f nT r) 0 12 σ)))
theorem fShr1_ne {am se : Int32} {j g k : Nat} {σ : SG} (h : g ≠ 1) : fShr1 am se j σ g k = σ g k := up_f h
theorem itrShr_ne {am se : Int32} {g k : Nat} (h : g ≠ 1) : ∀ (n a : Nat) (σ : SG), itr (fShr1 am se) a n σ g k = σ g k
  | 0, _, _ => rfl
  | n + 1, a, σ => by rw [itr, itrShr_ne h n (a + 1), fShr1_ne h]
theorem fShare_ne {am se : Int32} {g k : Nat} {σ : SG} (h : g ≠ 1) : fShare am se σ g k = σ g k := itrShr_ne h 5 0 σ
theorem fShT_ne {i g k : Nat} {σ : SG} (h : g ≠ 1) : fShT i σ g k = σ g k := by unfold fShT; split; exact fShare_ne h; rfl
theorem fShM_ne {f nT i g k : Nat} {σ : SG} (h : g ≠ 1) : fShM f nT i σ g k = σ g k := by unfold fShM; split; exact fShare_ne h; rfl
theorem itr_ne {F : Nat → SG → SG} {g k : Nat} (h : ∀ i σ, F i σ g k = σ g k) : ∀ (n a : Nat) (σ : SG), itr F a n σ g k = σ g k
  | 0, _, _ => rfl
  | n + 1, a, σ => by rw [itr, itr_ne h n (a + 1), h]
theorem sq_sq {qs : Nat → List Nat} {i : Nat} : (fun j => if j < i + 1 then [] else qs j) = sq (fun j => if j < i then [] else qs j) i [] := by
  funext j
  unfold sq
  by_cases h : j = i
  · rw [if_pos h, if_pos (by omega)]
  · rw [if_neg h]
    by_cases h2 : j < i
    · simp only [if_pos h2, if_pos (show j < i + 1 by omega)]
    · simp only [if_neg h2, if_neg (show ¬ j < i + 1 by omega)]
set_option maxHeartbeats 4000000 in
set_option maxRecDepth 100000 in
theorem kX5_endDay (l : Launch) (G : GE) (A : Nat → Prop) (ad : Nat → Nat → Nat) (σ : SG) (qs : Nat → List Nat) (nT nW : Nat) (f : Nat) (hf : σ 26 0 = nI f) (hfn : f ≤ nT) (hnT : nT ≤ 80) : KM l G A yX5_endDay cX5_endDay 3 none (rmL 6 0 0) [.ref (ad 0 0)] (PX G A ad σ qs nT nW) (fun v H => v = none ∧ PX G A ad (fEnd f nT σ) (fun j => if j < 12 then [] else qs j) nT nW H) (fun _ _ => False) := by
  refine KM.of (by decide) (Nat.le_of_ble_eq_true rfl) ?_
  intro p e s m args below meth c F hP ls hl
  have hx := F.1.1
  have hb := F.1.2.1
  have hown := F.1.2.2.2.1
  have hts := F.1.2.2.2.2
  have hr := F.2.1
  have hlocks := F.2.2.1
  have hE := F.2.2.2.2.2.1
  have hA := F.2.2.2.2.2.2
  have hS : va_S A s.heap s.heap [] := va_S.rf
  have hl : lv_has ls 3 [(0, .ref (ad 0 0))] := hl
  have hP := hP
  obtain ⟨σa, ha⟩ : ∃ z, z = itr (fun r => fSend f nT r) 0 12 σ := ⟨_, rfl⟩
  obtain ⟨σb, hb9⟩ : ∃ z, z = itr fShT f (nT - f) σa := ⟨_, rfl⟩
  obtain ⟨σc, hc9⟩ : ∃ z, z = itr (fShM f nT) 0 6 σb := ⟨_, rfl⟩
  have hfa : σa 26 0 = nI f := by rw [ha, itr_ne (fun i σ => fSend_ne (by decide))]; exact hf
  have hfb : σb 26 0 = nI f := by rw [hb9, itr_ne (fun i σ => fShT_ne (by decide))]; exact hfa
  refine lv_iconst (v := 0) hx hb dX5_endDay_0 (by decide) ?_
  refine lv_istore_n (lv' := [(1, .int 0), (0, .ref (ad 0 0))]) hx hb dX5_endDay_1 rfl hl (by decide) rfl (fun ls hl => ?_)
  have L2 : ∀ (n9 : Nat) (σ1 : SG) (i : Nat) (h1 : i ≤ 12) (h2 : 12 < i + n9) (hT : itr (fun r => fSend f nT r) i (12 - i) σ1 = σa) (hf1 : σ1 26 0 = nI f) (H : Heap) (locs : List Loc) (ls : Array Slot), va_S A s.heap H locs → PX G A ad σ1 (fun j => if j < i then [] else qs j) nT nW H → lv_has ls 3 [(1, .int (nI i)), (0, .ref (ad 0 0))] → W p l e (rmL 6 0 0) s m args below meth c H locs 0 0 (KE below A (fun v H => v = none ∧ PX G A ad (fEnd f nT σ) (fun j => if j < 12 then [] else qs j) nT nW H) (fun _ _ => False) args s (rmL 6 0 0)) (F0 m 2 ls []) := by
    intro n9
    induction n9 with
    | zero =>
      intro σ1 i h1 h2 hT hf1 H locs ls hS hP hl
      exact absurd True.intro (by omega)
    | succ n9 ih2 =>
      intro σ1 i h1 h2 hT hf1 H locs ls hS hP hl
      refine lv_iload_n hx hb dX5_endDay_2 rfl (lv_at hl 0 rfl) ?_
      refine lv_aload_n hx hb dX5_endDay_3 rfl (lv_at hl 1 rfl) ?_
      refine gX5 F (hP.main rfl) 1 (by decide) wFL_X5_17 (fun _ h9 => h9) (v := .ref (ad 2 0)) rfl dX5_endDay_4 ?_
      refine xalen hx hb hE.1.1 hP.rooms 3 rfl dX5_endDay_7 ?_
      refine lv_icmp_ge (tgt := 28) hx hb dX5_endDay_8 (by decide) (fun c_8_1 => ?_) (fun c_8_1 => ?_)
      · have ei := nI_eqle (n := 12) h1 (by omega) c_8_1
        rw [ei, itr_end] at hT
        rw [hT] at hP
        rw [ei] at hP
        refine lv_aload_n hx hb dX5_endDay_28 rfl (lv_at hl 1 rfl) ?_
        refine gX5 F (hP.main rfl) 6 (by decide) wFL_X5_278 (fun _ h9 => h9) (v := .int (σa 26 0)) rfl dX5_endDay_29 ?_
        refine W.eq (g2 := F0 m 32 ls [.int (nI f)]) (congrArg (fun z => F0 m 32 ls [.int z]) (hfa)) ?_
        refine lv_istore_n (lv' := [(1, .int (nI f)), (0, .ref (ad 0 0))]) hx hb dX5_endDay_32 rfl hl (by decide) rfl (fun ls hl => ?_)
        have L33 : ∀ (n9 : Nat) (σ1 : SG) (i : Nat) (h1 : i ≤ nT) (h2 : nT < i + n9) (hT : itr fShT i (nT - i) σ1 = σb) (H : Heap) (locs : List Loc) (ls : Array Slot), va_S A s.heap H locs → PX G A ad σ1 (fun j => if j < 12 then [] else qs j) nT nW H → lv_has ls 3 [(1, .int (nI i)), (0, .ref (ad 0 0))] → W p l e (rmL 6 0 0) s m args below meth c H locs 0 0 (KE below A (fun v H => v = none ∧ PX G A ad (fEnd f nT σ) (fun j => if j < 12 then [] else qs j) nT nW H) (fun _ _ => False) args s (rmL 6 0 0)) (F0 m 33 ls []) := by
          intro n9
          induction n9 with
          | zero =>
            intro σ1 i h1 h2 hT H locs ls hS hP hl
            exact absurd True.intro (by omega)
          | succ n9 ih33 =>
            intro σ1 i h1 h2 hT H locs ls hS hP hl
            refine lv_iload_n hx hb dX5_endDay_33 rfl (lv_at hl 0 rfl) ?_
            refine lv_aload_n hx hb dX5_endDay_34 rfl (lv_at hl 1 rfl) ?_
            refine gX5 F (hP.main rfl) 3 (by decide) wFL_X5_30 (fun _ h9 => h9) (v := .ref (ad 7 12)) rfl dX5_endDay_35 ?_
            refine kcallV (n := 0) F (cQ_size l G (fun q => H.size ≤ q) A ad σ1 (fun j => if j < 12 then [] else qs j) nT nW 12 (by decide)) wML_X5_173 wIM_Jx4a65c_size_8abf5 wSE_Jx4a65c_Jx4a65c_size_8abf5 wIN_Jx4a65c wCO_Jx4a65c_size_8abf5 (by decide) rfl ⟨by decide, by decide⟩ (by obtain ⟨_, _, h⟩ := hP.lobj (i := 12) (by decide); exact frec F h _ rfl) hS (fun q h => hA q (Nat.le_trans hS.1 h)) (fun q h => h) hP rfl hl.1 (Nat.le_of_ble_eq_true rfl) dX5_endDay_38 ⟨by decide, by decide⟩ (fun E ce q9 H1 locs1 hx9 _ _ _ _ _ => hx9.elim) (fun v H1 locs1 hv hk hS => ?_)
            have hP := hP.old hk
            rw [lsX_12, List.length_map, List.length_range] at hv
            subst hv
            refine lv_icmp_ge (tgt := 81) hx hb dX5_endDay_41 (by decide) (fun c_41_2 => ?_) (fun c_41_2 => ?_)
            · have ei := nI_eqle (n := nT) h1 (by omega) c_41_2
              rw [ei, itr_end] at hT
              rw [hT] at hP
              refine lv_iconst (v := 0) hx hb dX5_endDay_81 (by decide) ?_
              refine lv_istore_n (lv' := [(1, .int 0), (0, .ref (ad 0 0))]) hx hb dX5_endDay_82 rfl hl (by decide) rfl (fun ls hl => ?_)
              have L83 : ∀ (n9 : Nat) (σ1 : SG) (i : Nat) (h1 : i ≤ 6) (h2 : 6 < i + n9) (hT : itr (fShM f nT) i (6 - i) σ1 = σc) (hf1 : σ1 26 0 = nI f) (H : Heap) (locs : List Loc) (ls : Array Slot), va_S A s.heap H locs → PX G A ad σ1 (fun j => if j < 12 then [] else qs j) nT nW H → lv_has ls 3 [(1, .int (nI i)), (0, .ref (ad 0 0))] → W p l e (rmL 6 0 0) s m args below meth c H locs 0 0 (KE below A (fun v H => v = none ∧ PX G A ad (fEnd f nT σ) (fun j => if j < 12 then [] else qs j) nT nW H) (fun _ _ => False) args s (rmL 6 0 0)) (F0 m 83 ls []) := by
                intro n9
                induction n9 with
                | zero =>
                  intro σ1 i h1 h2 hT hf1 H locs ls hS hP hl
                  exact absurd True.intro (by omega)
                | succ n9 ih83 =>
                  intro σ1 i h1 h2 hT hf1 H locs ls hS hP hl
                  refine lv_iload_n hx hb dX5_endDay_83 rfl (lv_at hl 0 rfl) ?_
                  refine lv_aload_n hx hb dX5_endDay_84 rfl (lv_at hl 1 rfl) ?_
                  refine gX5 F (hP.main rfl) 2 (by decide) wFL_X5_23 (fun _ h9 => h9) (v := .ref (ad 3 0)) rfl dX5_endDay_85 ?_
                  refine xalen hx hb hE.1.1 hP.members 2 rfl dX5_endDay_88 ?_
                  refine lv_icmp_ge (tgt := 126) hx hb dX5_endDay_89 (by decide) (fun c_89_3 => ?_) (fun c_89_3 => ?_)
                  · have ei := nI_eqle (n := 6) h1 (by omega) c_89_3
                    rw [ei, itr_end] at hT
                    rw [hT] at hP
                    refine lv_aload_n hx hb dX5_endDay_126 rfl (lv_at hl 1 rfl) ?_
                    refine lv_aload_n hx hb dX5_endDay_127 rfl (lv_at hl 1 rfl) ?_
                    refine gX5 F (hP.main rfl) 3 (by decide) wFL_X5_30 (fun _ h9 => h9) (v := .ref (ad 7 12)) rfl dX5_endDay_128 ?_
                    refine kcallV (n := 0) F (cQ_size l G (fun q => H.size ≤ q) A ad σc (fun j => if j < 12 then [] else qs j) nT nW 12 (by decide)) wML_X5_173 wIM_Jx4a65c_size_8abf5 wSE_Jx4a65c_Jx4a65c_size_8abf5 wIN_Jx4a65c wCO_Jx4a65c_size_8abf5 (by decide) rfl ⟨by decide, by decide⟩ (by obtain ⟨_, _, h⟩ := hP.lobj (i := 12) (by decide); exact frec F h _ rfl) hS (fun q h => hA q (Nat.le_trans hS.1 h)) (fun q h => h) hP rfl hl.1 (Nat.le_of_ble_eq_true rfl) dX5_endDay_131 ⟨by decide, by decide⟩ (fun E ce q9 H1 locs1 hx9 _ _ _ _ _ => hx9.elim) (fun v H1 locs1 hv hk hS => ?_)
                    have hP := hP.old hk
                    rw [lsX_12, List.length_map, List.length_range] at hv
                    subst hv
                    refine pX5 F hS (hP.main rfl) (hP.omain rfl) 6 (by decide) wFL_X5_278 (fun _ h9 => h9) rfl rfl rfl (by simp) dX5_endDay_134 (fun H1 locs1 he1 z1 oq1 hS => ?_)
                    have hP := hP.p26 rfl he1 oq1
                    refine lv_aload_n hx hb dX5_endDay_137 rfl (lv_at hl 1 rfl) ?_
                    refine lv_dup hx hb dX5_endDay_138 rfl ?_
                    refine gX5 F (hP.main rfl) 5 (by decide) wFL_X5_65 (fun _ h9 => h9) (v := .int (σc 25 0)) rfl dX5_endDay_139 ?_
                    refine lv_iconst (v := 1) hx hb dX5_endDay_142 (by decide) ?_
                    refine lv_iadd hx hb dX5_endDay_143 ?_
                    refine pX5 F hS (hP.main rfl) (hP.omain rfl) 5 (by decide) wFL_X5_65 (fun _ h9 => h9) rfl rfl rfl (by simp) dX5_endDay_144 (fun H1 locs1 he1 z1 oq1 hS => ?_)
                    have hP := hP.p25 rfl he1 oq1
                    exact kvret hx hb hr hlocks hS (by decide) (by decide) dX5_endDay_147 (⟨rfl, by rw [show fEnd f nT σ = fEnd2 nT σc from by rw [hc9, hb9, ha]; rfl]; exact hP⟩)
                  · have hi := nI_lt' (n := 6) h1 (by omega) c_89_3
                    refine lv_aload_n hx hb dX5_endDay_92 rfl (lv_at hl 1 rfl) ?_
                    refine gX5 F (hP.main rfl) 2 (by decide) wFL_X5_23 (fun _ h9 => h9) (v := .ref (ad 3 0)) rfl dX5_endDay_93 ?_
                    refine lv_iload_n hx hb dX5_endDay_96 rfl (lv_at hl 0 rfl) ?_
                    refine xaald hx hb hE.1.1 hP.members 2 rfl rfl hi (by decide) (rfs_at hi) dX5_endDay_97 ?_
                    refine lv_aload_n hx hb dX5_endDay_98 rfl (lv_at hl 1 rfl) ?_
                    refine gX5 F (hP.main rfl) 5 (by decide) wFL_X5_65 (fun _ h9 => h9) (v := .int (σ1 25 0)) rfl dX5_endDay_99 ?_
                    refine kcallV (n := 1) F (kX0_belongs l G (fun q => H.size ≤ q) A ad σ1 (fun j => if j < 12 then [] else qs j) nT nW i hi (σ1 25 0)) wML_X5_68 wIM_X0_belongs wSE_X0_X0_belongs wIN_X0 wCO_X0_belongs (by decide) rfl ⟨by decide, by decide⟩ (frec F (hP.member hi) _ rfl) hS (fun q h => hA q (Nat.le_trans hS.1 h)) (fun q h => h) hP rfl hl.1 (Nat.le_of_ble_eq_true rfl) dX5_endDay_102 ⟨by decide, by decide⟩ (fun E ce q9 H1 locs1 hx9 _ _ _ _ _ => hx9.elim) (fun v H1 locs1 hv hk hS => ?_)
                    have hP := hP.old hk
                    subst hv
                    refine lv_if_eq (tgt := 120) hx hb dX5_endDay_105 (by decide) (fun c_105_4 => ?_) (fun c_105_4 => ?_)
                    · refine lv_iinc (v := (nI (i + 1))) (lv' := [(1, .int (nI (i + 1))), (0, .ref (ad 0 0))]) hx hb dX5_endDay_120 hl (k := 0) rfl (nI_1 _) (by decide) rfl (fun ls hl => ?_)
                      refine lv_goto (tgt := 83) hx hb dX5_endDay_123 (by decide) ?_
                      exact ih83 σ1 (i + 1) (by omega) (by omega) (by rw [itr_step hi, (show fShM f nT i σ1 = σ1 from if_neg (by rw [b2i_0.mp c_105_4]; decide))] at hT; exact hT) (by exact hf1) _ _ _ hS hP (lv_sub hl [0, 1] rfl)
                    · refine lv_aload_n hx hb dX5_endDay_108 rfl (lv_at hl 1 rfl) ?_
                      refine lv_sipush (v := 200) hx hb dX5_endDay_109 (by decide) ?_
                      refine lv_aload_n hx hb dX5_endDay_112 rfl (lv_at hl 1 rfl) ?_
                      refine lv_iload_n hx hb dX5_endDay_113 rfl (lv_at hl 0 rfl) ?_
                      refine kcallV (n := 1) F (kX5_seenToday l G (fun q => H1.size ≤ q) A ad σ1 (fun j => if j < 12 then [] else qs j) nT nW (nI i) f hf1 hfn hnT) wML_X5_340 wIM_X5_seenToday wSE_X5_X5_seenToday wIN_X5 wCO_X5_seenToday (by decide) rfl ⟨by decide, by decide⟩ (frec F (hP.main rfl) _ rfl) hS (fun q h => hA q (Nat.le_trans hS.1 h)) (fun q h => h) hP rfl hl.1 (Nat.le_of_ble_eq_true rfl) dX5_endDay_114 ⟨by decide, by decide⟩ (fun E ce q9 H1 locs1 hx9 _ _ _ _ _ => hx9.elim) (fun v H1 locs1 hv hk hS => ?_)
                      have hP := hP.old hk
                      subst hv
                      refine kcallV (n := 2) F (kX5_shareOut l G A ad σ1 (fun j => if j < 12 then [] else qs j) nT nW 200 (fSeen σ1 (nI i) f (nT - f))) wML_X5_336 wIM_X5_shareOut wSE_X5_X5_shareOut wIN_X5 wCO_X5_shareOut (by decide) rfl ⟨by decide, by decide⟩ (frec F (hP.main rfl) _ rfl) hS (fun _ h => h) (fun q h => hA q (Nat.le_trans hS.1 h)) hP rfl hl.1 (Nat.le_of_ble_eq_true rfl) dX5_endDay_117 ⟨by decide, by decide⟩ (fun E ce q9 H1 locs1 hx9 _ _ _ _ _ => hx9.elim) (fun v H1 locs1 hv hk hS => ?_)
                      obtain ⟨rfl, hP⟩ := hv
                      refine lv_iinc (v := (nI (i + 1))) (lv' := [(1, .int (nI (i + 1))), (0, .ref (ad 0 0))]) hx hb dX5_endDay_120 hl (k := 0) rfl (nI_1 _) (by decide) rfl (fun ls hl => ?_)
                      refine lv_goto (tgt := 83) hx hb dX5_endDay_123 (by decide) ?_
                      exact ih83 (fShare 200 (fSeen σ1 (nI i) f (nT - f)) σ1) (i + 1) (by omega) (by omega) (by rw [itr_step hi, (show fShM f nT i σ1 = (fShare 200 (fSeen σ1 (nI i) f (nT - f)) σ1) from if_pos (b2i_1.mp c_105_4))] at hT; exact hT) (by rw [fShare_ne (by decide)]; exact hf1) _ _ _ hS hP (lv_sub hl [0, 1] rfl)
              exact L83 7 σb 0 (by omega) (by omega) hc9.symm hfb _ _ _ hS hP (lv_sub hl [0, 1] rfl)
            · have hi := nI_lt' (n := nT) h1 (by omega) c_41_2
              refine lv_aload_n hx hb dX5_endDay_44 rfl (lv_at hl 1 rfl) ?_
              refine gX5 F (hP.main rfl) 3 (by decide) wFL_X5_30 (fun _ h9 => h9) (v := .ref (ad 7 12)) rfl dX5_endDay_45 ?_
              refine lv_iload_n hx hb dX5_endDay_48 rfl (lv_at hl 0 rfl) ?_
              refine kcallV (n := 1) F (cQ_get l G (fun q => H1.size ≤ q) A ad σ1 (fun j => if j < 12 then [] else qs j) nT nW 12 i (ad 10 i) (by decide) (by rw [lsX_12, List.getElem?_map, List.getElem?_range hi]; rfl)) wML_X5_234 wIM_Jx4a65c_get_915e3 wSE_Jx4a65c_Jx4a65c_get_915e3 wIN_Jx4a65c wCO_Jx4a65c_get_915e3 (by decide) rfl ⟨by decide, by decide⟩ (by obtain ⟨_, _, h⟩ := hP.lobj (i := 12) (by decide); exact frec F h _ rfl) hS (fun q h => hA q (Nat.le_trans hS.1 h)) (fun q h => h) hP rfl hl.1 (Nat.le_of_ble_eq_true rfl) dX5_endDay_49 ⟨by decide, by decide⟩ (fun E ce q9 H1 locs1 hx9 _ _ _ _ _ => hx9.elim) (fun v H1 locs1 hv hk hS => ?_)
              have hP := hP.old hk
              subst hv
              refine va_castS hx hb hown (hts _ wCL_X5_96) (hE.1.1.1 4 _ rfl).2 (frec F (hP.tick hi) _ rfl) dX5_endDay_52 ?_
              refine lv_astore_n (lv' := [(2, .ref (ad 10 i)), (1, .int (nI i)), (0, .ref (ad 0 0))]) hx hb dX5_endDay_55 rfl hl (by decide) rfl (fun ls hl => ?_)
              refine lv_aload_n hx hb dX5_endDay_56 rfl (lv_at hl 0 rfl) ?_
              refine gX2 F (hP.tick hi) 5 (by decide) wFL_X5_110 (fun _ h9 => h9) (v := .int (σ1 14 i)) rfl dX5_endDay_57 ?_
              refine lv_if_ne (tgt := 75) hx hb dX5_endDay_60 (by decide) (fun c_60_5 => ?_) (fun c_60_5 => ?_)
              · refine lv_iinc (v := (nI (i + 1))) (lv' := [(1, .int (nI (i + 1))), (2, .ref (ad 10 i)), (0, .ref (ad 0 0))]) hx hb dX5_endDay_75 hl (k := 1) rfl (nI_1 _) (by decide) rfl (fun ls hl => ?_)
                refine lv_goto (tgt := 33) hx hb dX5_endDay_78 (by decide) ?_
                exact ih33 σ1 (i + 1) (by omega) (by omega) (by rw [itr_step hi, (show fShT i σ1 = σ1 from if_neg c_60_5)] at hT; exact hT) _ _ _ hS hP (lv_sub hl [0, 2] rfl)
              · refine lv_aload_n hx hb dX5_endDay_63 rfl (lv_at hl 2 rfl) ?_
                refine lv_aload_n hx hb dX5_endDay_64 rfl (lv_at hl 0 rfl) ?_
                refine gX2 F (hP.tick hi) 4 (by decide) wFL_X5_116 (fun _ h9 => h9) (v := .int (σ1 13 i)) rfl dX5_endDay_65 ?_
                refine lv_aload_n hx hb dX5_endDay_68 rfl (lv_at hl 0 rfl) ?_
                refine gX2 F (hP.tick hi) 6 (by decide) wFL_X5_95 (fun _ h9 => h9) (v := .int (σ1 15 i)) rfl dX5_endDay_69 ?_
                refine kcallV (n := 2) F (kX5_shareOut l G A ad σ1 (fun j => if j < 12 then [] else qs j) nT nW (σ1 13 i) (σ1 15 i)) wML_X5_336 wIM_X5_shareOut wSE_X5_X5_shareOut wIN_X5 wCO_X5_shareOut (by decide) rfl ⟨by decide, by decide⟩ (frec F (hP.main rfl) _ rfl) hS (fun _ h => h) (fun q h => hA q (Nat.le_trans hS.1 h)) hP rfl hl.1 (Nat.le_of_ble_eq_true rfl) dX5_endDay_72 ⟨by decide, by decide⟩ (fun E ce q9 H1 locs1 hx9 _ _ _ _ _ => hx9.elim) (fun v H1 locs1 hv hk hS => ?_)
                obtain ⟨rfl, hP⟩ := hv
                refine lv_iinc (v := (nI (i + 1))) (lv' := [(1, .int (nI (i + 1))), (2, .ref (ad 10 i)), (0, .ref (ad 0 0))]) hx hb dX5_endDay_75 hl (k := 1) rfl (nI_1 _) (by decide) rfl (fun ls hl => ?_)
                refine lv_goto (tgt := 33) hx hb dX5_endDay_78 (by decide) ?_
                exact ih33 (fShare (σ1 13 i) (σ1 15 i) σ1) (i + 1) (by omega) (by omega) (by rw [itr_step hi, (show fShT i σ1 = (fShare (σ1 13 i) (σ1 15 i) σ1) from if_pos c_60_5)] at hT; exact hT) _ _ _ hS hP (lv_sub hl [0, 2] rfl)
        exact L33 (nT + 1) σa f hfn (by omega) hb9.symm _ _ _ hS hP (lv_sub hl [0, 1] rfl)
      · have hi := nI_lt' (n := 12) h1 (by omega) c_8_1
        refine lv_aload_n hx hb dX5_endDay_11 rfl (lv_at hl 1 rfl) ?_
        refine lv_aload_n hx hb dX5_endDay_12 rfl (lv_at hl 1 rfl) ?_
        refine gX5 F (hP.main rfl) 1 (by decide) wFL_X5_17 (fun _ h9 => h9) (v := .ref (ad 2 0)) rfl dX5_endDay_13 ?_
        refine lv_iload_n hx hb dX5_endDay_16 rfl (lv_at hl 0 rfl) ?_
        refine xaald hx hb hE.1.1 hP.rooms 3 rfl rfl hi (by decide) (rfs_at hi) dX5_endDay_17 ?_
        refine kcallV (n := 1) F (kX5_sendAllOut l G A ad σ1 (fun j => if j < i then [] else qs j) nT nW i hi f hf1 hfn hnT) wML_X5_144 wIM_X5_sendAllOut wSE_X5_X5_sendAllOut wIN_X5 wCO_X5_sendAllOut (by decide) rfl ⟨by decide, by decide⟩ (frec F (hP.main rfl) _ rfl) hS (fun _ h => h) (fun q h => hA q (Nat.le_trans hS.1 h)) hP rfl hl.1 (Nat.le_of_ble_eq_true rfl) dX5_endDay_18 ⟨by decide, by decide⟩ (fun E ce q9 H1 locs1 hx9 _ _ _ _ _ => hx9.elim) (fun v H1 locs1 hv hk hS => ?_)
        obtain ⟨rfl, hP⟩ := hv
        rw [← sq_sq] at hP
        refine lv_pop hx hb dX5_endDay_21 rfl ?_
        refine lv_iinc (v := (nI (i + 1))) (lv' := [(1, .int (nI (i + 1))), (0, .ref (ad 0 0))]) hx hb dX5_endDay_22 hl (k := 0) rfl (nI_1 _) (by decide) rfl (fun ls hl => ?_)
        refine lv_goto (tgt := 2) hx hb dX5_endDay_25 (by decide) ?_
        exact ih2 (fSend f nT i σ1) (i + 1) (by omega) (by omega) (by rw [itr_step hi] at hT; exact hT) (by rw [fSend_ne (by decide)]; exact hf1) _ _ _ hS hP (lv_sub hl [0, 1] rfl)
  exact L2 13 σ 0 (by omega) (by omega) ha.symm hf _ _ _ hS (by rw [show (fun j => if j < 0 then [] else qs j) = qs from funext fun j => if_neg (Nat.not_lt_zero j)]; exact hP) (lv_sub hl [0, 1] rfl)

