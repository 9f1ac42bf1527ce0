theorem mLet_ne {nW n r g j : Nat} (hg : g ≠ 10 ∧ g ≠ 13 ∧ g ≠ 21 ∧ g ≠ 23 ∧ g ≠ 24) : ∀ (k : Nat) (τ : SG), mLet nW n r k τ g j = τ g j
  | 0, τ => rfl
  | k + 1, τ => by
    unfold mLet
    split
    · rw [mLet_ne hg k]
      exact mSee_ne hg
    · rfl
def cm_setCap (τ : SG) (n nW : Nat) (vr vv : Int32) (v : Int32) (τ' : SG) : Prop := (¬ (∃ j, j < 12 ∧ vr = nI j) ∧ τ' = thr τ 1) ∨ ((∃ j, j < 12 ∧ vr = nI j) ∧ inB vv 0 20 = false ∧ τ' = thr τ 2) ∨ (∃ r, r < 12 ∧ vr = nI r ∧ inB vv 0 20 = true ∧ v = nI (cntF (mIn (mLet nW n r n (up (thr τ 0) 14 r vv)) (nI r)) 0 n) ∧ τ' = mLet nW n r n (up (thr τ 0) 14 r vv))
set_option maxHeartbeats 4000000 in
set_option maxRecDepth 100000 in
theorem kR_setCap (l : Launch) (G : GE) (A : Nat → Prop) (ad : Nat → Nat) (τ : SG) (vr vv : Int32) (n : Nat) (hn : τ 3 0 = nI n) (hn8 : n ≤ 80) (nW : Nat) (hw : τ 16 0 = nI nW) (hnW : nW ≤ 12) (hW0 : WFm τ nW) : KM l G A yX6_setCap cX6_setCap 3 (some .int) (rmL 4 0 0) [.ref (ad 30), .int vr, .int vv] (PM G A ad τ) (fun v H => ∃ x τ', v = some (.int x) ∧ PM G A ad τ' H ∧ cm_setCap τ n nW vr vv x τ') (fun _ _ => False) := by
  refine KM.of (by decide) (Nat.le_of_ble_eq_true rfl) ?_
  intro p e s m args below meth c F hP ls hl
  have hx := F.1.1
  have hb := F.1.2.1
  have hown := F.1.2.2.2.1
  have hts := F.1.2.2.2.2
  have hr := F.2.1
  have hlocks := F.2.2.1
  have hE := F.2.2.2.2.2.1
  have hA := F.2.2.2.2.2.2
  have hS : va_S A s.heap s.heap [] := va_S.rf
  have hl : lv_has ls 3 [(0, .ref (ad 30)), (1, .int vr), (2, .int vv)] := hl
  have hP := hP
  refine lv_aload_n hx hb dX6_setCap_0 rfl (lv_at hl 0 rfl) ?_
  refine lv_iload_n hx hb dX6_setCap_1 rfl (lv_at hl 1 rfl) ?_
  refine kcallS (n := 1) F (kM_isRoom l G (fun q => s.heap.size ≤ q) vr) wML_X6_142 wST_X6_isRoom wIN_X6 wCO_X6_isRoom (by decide) rfl ⟨by decide, by decide⟩ hS (fun q h => hA q (Nat.le_trans hS.1 h)) (fun q h => h) trivial rfl hl.1 (Nat.le_of_ble_eq_true rfl) dX6_setCap_2 ⟨by decide, by decide⟩ (fun E ce q9 H1 locs1 hx9 _ _ _ _ _ => hx9.elim) (fun v H1 locs1 hv hk hS => ?_)
  have hP := hP.old hk
  subst hv
  refine lv_if_ne (tgt := 12) hx hb dX6_setCap_5 (by decide) (fun c_5_1 => ?_) (fun c_5_1 => ?_)
  · obtain ⟨r, hr9, rfl⟩ := in_ex (n := 12) rfl (by decide) (b2i_1.mp c_5_1)
    refine lv_iload_n hx hb dX6_setCap_12 rfl (lv_at hl 2 rfl) ?_
    refine lv_iconst (v := 0) hx hb dX6_setCap_13 (by decide) ?_
    refine lv_bipush (v := 20) hx hb dX6_setCap_14 (by decide) ?_
    refine kcallS (n := 3) F (kM_in l G (fun q => H1.size ≤ q) vv 0 20) wML_X6_84 wST_X6_in wIN_X6 wCO_X6_in (by decide) rfl ⟨by decide, by decide⟩ hS (fun q h => hA q (Nat.le_trans hS.1 h)) (fun q h => h) trivial rfl hl.1 (Nat.le_of_ble_eq_true rfl) dX6_setCap_16 ⟨by decide, by decide⟩ (fun E ce q9 H1 locs1 hx9 _ _ _ _ _ => hx9.elim) (fun v H1 locs1 hv hk hS => ?_)
    have hP := hP.old hk
    subst hv
    refine lv_if_ne (tgt := 26) hx hb dX6_setCap_19 (by decide) (fun c_19_2 => ?_) (fun c_19_2 => ?_)
    · have hin := b2i_1.mp c_19_2
      refine lv_iconst (v := 0) hx hb dX6_setCap_26 (by decide) ?_
      refine pX6 F hS hP.main hP.omain 27 (by decide) wFL_X6_81 (fun _ h9 => h9) rfl rfl rfl (by simp) dX6_setCap_27 (fun H1 locs1 he1 z1 oq1 hS => ?_)
      have hP : PM G A ad (thr τ 0) H1 := hP.p27 he1 oq1
      refine lv_aload_n hx hb dX6_setCap_30 rfl (lv_at hl 0 rfl) ?_
      refine gX6 F hP.main 27 (by decide) wFL_X6_81 (fun _ h9 => h9) (v := .int 0) (by simp [thr, up]) dX6_setCap_31 ?_
      refine lv_if_le (tgt := 39) hx hb dX6_setCap_34 (by decide) (fun c_34_3 => ?_) (fun c_34_3 => ?_)
      · refine lv_aload_n hx hb dX6_setCap_39 rfl (lv_at hl 0 rfl) ?_
        refine gX6 F hP.main 14 (by decide) wFL_X6_44 (fun _ h9 => h9) (v := .ref (ad 14)) rfl dX6_setCap_40 ?_
        refine lv_iload_n hx hb dX6_setCap_43 rfl (lv_at hl 1 rfl) ?_
        refine lv_iload_n hx hb dX6_setCap_44 rfl (lv_at hl 2 rfl) ?_
        refine xiast hx hb hE.1.1 hS (hP.arr 14 (by decide) (by decide)) (hP.oarr 14 (by decide)) 0 rfl (k := r) rfl (show _ < 12 by omega) (by decide) dX6_setCap_45 (fun H1 locs1 he1 z1 oq1 hS => ?_)
        have hP := hP.parr 14 r (by decide) (by decide) he1 oq1
        refine lv_aload_n hx hb dX6_setCap_46 rfl (lv_at hl 0 rfl) ?_
        refine lv_iload_n hx hb dX6_setCap_47 rfl (lv_at hl 1 rfl) ?_
        refine kcallV (n := 1) F (kM_letIn l G A ad (up (thr τ 0) 14 r vv) r hr9 n (by simp [thr, up, hn]) hn8 nW (by simp [thr, up, hw]) hnW (by intro x hx; simp [thr, up]; exact hW0 x hx)) wML_X6_145 wIM_X6_letIn wSE_X6_X6_letIn wIN_X6 wCO_X6_letIn (by decide) rfl ⟨by decide, by decide⟩ (frec F hP.main _ rfl) hS (fun _ h => h) (fun q h => hA q (Nat.le_trans hS.1 h)) hP rfl hl.1 (Nat.le_of_ble_eq_true rfl) dX6_setCap_48 ⟨by decide, by decide⟩ (fun E ce q9 H1 locs1 hx9 _ _ _ _ _ => hx9.elim) (fun v H1 locs1 hv hk hS => ?_)
        obtain ⟨rfl, hP⟩ := hv
        refine lv_aload_n hx hb dX6_setCap_51 rfl (lv_at hl 0 rfl) ?_
        refine lv_iload_n hx hb dX6_setCap_52 rfl (lv_at hl 1 rfl) ?_
        refine kcallV (n := 1) F (kM_insideOf l G (fun q => H1.size ≤ q) A ad (mLet nW n r n (up (thr τ 0) 14 r vv)) (nI r) n (by rw [mLet_ne (by decide)]; simp [thr, up, hn]) hn8) wML_X6_134 wIM_X6_insideOf wSE_X6_X6_insideOf wIN_X6 wCO_X6_insideOf (by decide) rfl ⟨by decide, by decide⟩ (frec F hP.main _ rfl) hS (fun q h => hA q (Nat.le_trans hS.1 h)) (fun q h => h) hP rfl hl.1 (Nat.le_of_ble_eq_true rfl) dX6_setCap_53 ⟨by decide, by decide⟩ (fun E ce q9 H1 locs1 hx9 _ _ _ _ _ => hx9.elim) (fun v H1 locs1 hv hk hS => ?_)
        have hP := hP.old hk
        subst hv
        exact kiret hx hb hr hlocks hS (by decide) (by decide) dX6_setCap_56 (⟨_, _, rfl, hP, Or.inr (Or.inr (⟨r, hr9, rfl, hin, rfl, rfl⟩))⟩)
      · exact absurd c_34_3 (by decide)
    · have hin := b2i_0.mp c_19_2
      refine lv_iconst (v := 2) hx hb dX6_setCap_22 (by decide) ?_
      refine lv_goto (tgt := 27) hx hb dX6_setCap_23 (by decide) ?_
      refine pX6 F hS hP.main hP.omain 27 (by decide) wFL_X6_81 (fun _ h9 => h9) rfl rfl rfl (by simp) dX6_setCap_27 (fun H1 locs1 he1 z1 oq1 hS => ?_)
      have hP : PM G A ad (thr τ 2) H1 := hP.p27 he1 oq1
      refine lv_aload_n hx hb dX6_setCap_30 rfl (lv_at hl 0 rfl) ?_
      refine gX6 F hP.main 27 (by decide) wFL_X6_81 (fun _ h9 => h9) (v := .int 2) (by simp [thr, up]) dX6_setCap_31 ?_
      refine lv_if_le (tgt := 39) hx hb dX6_setCap_34 (by decide) (fun c_34_4 => ?_) (fun c_34_4 => ?_)
      · exact absurd c_34_4 (by decide)
      · refine lv_iconst (v := 0) hx hb dX6_setCap_37 (by decide) ?_
        exact kiret hx hb hr hlocks hS (by decide) (by decide) dX6_setCap_38 (⟨_, _, rfl, hP, Or.inr (Or.inl (⟨⟨r, hr9, rfl⟩, hin, rfl⟩))⟩)
  · have no_vr := in_no (n := 12) rfl (by decide) (b2i_0.mp c_5_1)
    refine lv_iconst (v := 1) hx hb dX6_setCap_8 (by decide) ?_
    refine lv_goto (tgt := 27) hx hb dX6_setCap_9 (by decide) ?_
    refine pX6 F hS hP.main hP.omain 27 (by decide) wFL_X6_81 (fun _ h9 => h9) rfl rfl rfl (by simp) dX6_setCap_27 (fun H1 locs1 he1 z1 oq1 hS => ?_)
    have hP : PM G A ad (thr τ 1) H1 := hP.p27 he1 oq1
    refine lv_aload_n hx hb dX6_setCap_30 rfl (lv_at hl 0 rfl) ?_
    refine gX6 F hP.main 27 (by decide) wFL_X6_81 (fun _ h9 => h9) (v := .int 1) (by simp [thr, up]) dX6_setCap_31 ?_
    refine lv_if_le (tgt := 39) hx hb dX6_setCap_34 (by decide) (fun c_34_5 => ?_) (fun c_34_5 => ?_)
    · exact absurd c_34_5 (by decide)
    · refine lv_iconst (v := 0) hx hb dX6_setCap_37 (by decide) ?_
      exact kiret hx hb hr hlocks hS (by decide) (by decide) dX6_setCap_38 (⟨_, _, rfl, hP, Or.inl (⟨no_vr, rfl⟩)⟩)

def cm_close (τ : SG) (n : Nat) (vr : Int32) (gb : Bool) (v : Int32) (τ' : SG) : Prop := (¬ (∃ j, j < 12 ∧ vr = nI j) ∧ τ' = thr τ 1) ∨ (∃ r, r < 12 ∧ vr = nI r ∧ gb = true ∧ v = (mClear (up (thr τ 0) 15 r (b2i gb)) n r).2 ∧ τ' = (mClear (up (thr τ 0) 15 r (b2i gb)) n r).1) ∨ (∃ r, r < 12 ∧ vr = nI r ∧ gb = false ∧ v = 0 ∧ τ' = (up (thr τ 0) 15 r (b2i gb)))
set_option maxHeartbeats 4000000 in
set_option maxRecDepth 100000 in
theorem kR_close (l : Launch) (G : GE) (A : Nat → Prop) (ad : Nat → Nat) (τ : SG) (vr : Int32) (gb : Bool) (n : Nat) (hn : τ 3 0 = nI n) (hn8 : n ≤ 80) : KM l G A yX6_close cX6_close 3 (some .int) (rmL 3 0 0) [.ref (ad 30), .int vr, .int (b2i gb)] (PM G A ad τ) (fun v H => ∃ x τ', v = some (.int x) ∧ PM G A ad τ' H ∧ cm_close τ n vr gb x τ') (fun _ _ => False) := by
  refine KM.of (by decide) (Nat.le_of_ble_eq_true rfl) ?_
  intro p e s m args below meth c F hP ls hl
  have hx := F.1.1
  have hb := F.1.2.1
  have hown := F.1.2.2.2.1
  have hts := F.1.2.2.2.2
  have hr := F.2.1
  have hlocks := F.2.2.1
  have hE := F.2.2.2.2.2.1
  have hA := F.2.2.2.2.2.2
  have hS : va_S A s.heap s.heap [] := va_S.rf
  have hl : lv_has ls 3 [(0, .ref (ad 30)), (1, .int vr), (2, .int (b2i gb))] := hl
  have hP := hP
  refine lv_aload_n hx hb dX6_close_0 rfl (lv_at hl 0 rfl) ?_
  refine lv_iload_n hx hb dX6_close_1 rfl (lv_at hl 1 rfl) ?_
  refine kcallS (n := 1) F (kM_isRoom l G (fun q => s.heap.size ≤ q) vr) wML_X6_142 wST_X6_isRoom wIN_X6 wCO_X6_isRoom (by decide) rfl ⟨by decide, by decide⟩ hS (fun q h => hA q (Nat.le_trans hS.1 h)) (fun q h => h) trivial rfl hl.1 (Nat.le_of_ble_eq_true rfl) dX6_close_2 ⟨by decide, by decide⟩ (fun E ce q9 H1 locs1 hx9 _ _ _ _ _ => hx9.elim) (fun v H1 locs1 hv hk hS => ?_)
  have hP := hP.old hk
  subst hv
  refine lv_if_eq (tgt := 12) hx hb dX6_close_5 (by decide) (fun c_5_1 => ?_) (fun c_5_1 => ?_)
  · have no_vr := in_no (n := 12) rfl (by decide) (b2i_0.mp c_5_1)
    refine lv_iconst (v := 1) hx hb dX6_close_12 (by decide) ?_
    refine pX6 F hS hP.main hP.omain 27 (by decide) wFL_X6_81 (fun _ h9 => h9) rfl rfl rfl (by simp) dX6_close_13 (fun H1 locs1 he1 z1 oq1 hS => ?_)
    have hP : PM G A ad (thr τ 1) H1 := hP.p27 he1 oq1
    refine lv_aload_n hx hb dX6_close_16 rfl (lv_at hl 0 rfl) ?_
    refine gX6 F hP.main 27 (by decide) wFL_X6_81 (fun _ h9 => h9) (v := .int 1) (by simp [thr, up]) dX6_close_17 ?_
    refine lv_if_le (tgt := 25) hx hb dX6_close_20 (by decide) (fun c_20_2 => ?_) (fun c_20_2 => ?_)
    · exact absurd c_20_2 (by decide)
    · refine lv_iconst (v := 0) hx hb dX6_close_23 (by decide) ?_
      exact kiret hx hb hr hlocks hS (by decide) (by decide) dX6_close_24 (⟨_, _, rfl, hP, Or.inl (⟨no_vr, rfl⟩)⟩)
  · obtain ⟨r, hr9, rfl⟩ := in_ex (n := 12) rfl (by decide) (b2i_1.mp c_5_1)
    refine lv_iconst (v := 0) hx hb dX6_close_8 (by decide) ?_
    refine lv_goto (tgt := 13) hx hb dX6_close_9 (by decide) ?_
    refine pX6 F hS hP.main hP.omain 27 (by decide) wFL_X6_81 (fun _ h9 => h9) rfl rfl rfl (by simp) dX6_close_13 (fun H1 locs1 he1 z1 oq1 hS => ?_)
    have hP : PM G A ad (thr τ 0) H1 := hP.p27 he1 oq1
    refine lv_aload_n hx hb dX6_close_16 rfl (lv_at hl 0 rfl) ?_
    refine gX6 F hP.main 27 (by decide) wFL_X6_81 (fun _ h9 => h9) (v := .int 0) (by simp [thr, up]) dX6_close_17 ?_
    refine lv_if_le (tgt := 25) hx hb dX6_close_20 (by decide) (fun c_20_3 => ?_) (fun c_20_3 => ?_)
    · refine lv_aload_n hx hb dX6_close_25 rfl (lv_at hl 0 rfl) ?_
      refine gX6 F hP.main 15 (by decide) wFL_X6_47 (fun _ h9 => h9) (v := .ref (ad 15)) rfl dX6_close_26 ?_
      refine lv_iload_n hx hb dX6_close_29 rfl (lv_at hl 1 rfl) ?_
      refine lv_iload_n hx hb dX6_close_30 rfl (lv_at hl 2 rfl) ?_
      refine xzast hx hb hE.1.1 hS (hP.arr 15 (by decide) (by decide)) (hP.oarr 15 (by decide)) 1 rfl (k := r) rfl (show _ < 12 by omega) (by decide) (b2i_or _) dX6_close_31 (fun H1 locs1 he1 z1 oq1 hS => ?_)
      have hP := hP.parr 15 r (by decide) (by decide) he1 oq1
      refine lv_iload_n hx hb dX6_close_32 rfl (lv_at hl 2 rfl) ?_
      refine lv_if_eq (tgt := 44) hx hb dX6_close_33 (by decide) (fun c_33_4 => ?_) (fun c_33_4 => ?_)
      · refine lv_iconst (v := 0) hx hb dX6_close_44 (by decide) ?_
        exact kiret hx hb hr hlocks hS (by decide) (by decide) dX6_close_45 (⟨_, _, rfl, hP, Or.inr (Or.inr (⟨r, hr9, rfl, b2i_0.mp c_33_4, rfl, rfl⟩))⟩)
      · refine lv_aload_n hx hb dX6_close_36 rfl (lv_at hl 0 rfl) ?_
        refine lv_iload_n hx hb dX6_close_37 rfl (lv_at hl 1 rfl) ?_
        refine kcallV (n := 1) F (kM_clear l G A ad (up (thr τ 0) 15 r (b2i gb)) r n (by simp [thr, up, hn]) hn8) wML_X6_149 wIM_X6_clear wSE_X6_X6_clear wIN_X6 wCO_X6_clear (by decide) rfl ⟨by decide, by decide⟩ (frec F hP.main _ rfl) hS (fun _ h => h) (fun q h => hA q (Nat.le_trans hS.1 h)) hP rfl hl.1 (Nat.le_of_ble_eq_true rfl) dX6_close_38 ⟨by decide, by decide⟩ (fun E ce q9 H1 locs1 hx9 _ _ _ _ _ => hx9.elim) (fun v H1 locs1 hv hk hS => ?_)
        obtain ⟨rfl, hP⟩ := hv
        refine lv_goto (tgt := 45) hx hb dX6_close_41 (by decide) ?_
        exact kiret hx hb hr hlocks hS (by decide) (by decide) dX6_close_45 (⟨_, _, rfl, hP, Or.inr (Or.inl (⟨r, hr9, rfl, b2i_1.mp c_33_4, rfl, rfl⟩))⟩)
    · exact absurd c_20_3 (by decide)

def cm_enter (τ : SG) (n nW : Nat) (vt vr : Int32) (v : Int32) (τ' : SG) : Prop := (¬ ((∃ j, j < n ∧ vt = nI j) ∧ (∃ j, j < 12 ∧ vr = nI j)) ∧ τ' = thr τ 1) ∨ (∃ t r, t < n ∧ vt = nI t ∧ r < 12 ∧ vr = nI r ∧ ¬ (mNow τ t = true ∧ mFor τ t (nI (r / 3)) = true ∧ τ 10 t = -1 ∧ τ 15 r = 0) ∧ τ' = thr τ 2) ∨ (∃ t r, t < n ∧ vt = nI t ∧ r < 12 ∧ vr = nI r ∧ (mNow τ t = true ∧ mFor τ t (nI (r / 3)) = true ∧ τ 10 t = -1 ∧ τ 15 r = 0) ∧ (nI (cntF (mIn (thr τ 0) (nI r)) 0 n) < thr τ 0 14 r ∧ mQ (thr τ 0) n r 0 = -1) ∧ v = 1 ∧ τ' = mSee nW t r (thr τ 0)) ∨ (∃ t r, t < n ∧ vt = nI t ∧ r < 12 ∧ vr = nI r ∧ (mNow τ t = true ∧ mFor τ t (nI (r / 3)) = true ∧ τ 10 t = -1 ∧ τ 15 r = 0) ∧ ¬ (nI (cntF (mIn (thr τ 0) (nI r)) 0 n) < thr τ 0 14 r ∧ mQ (thr τ 0) n r 0 = -1) ∧ v = 0 ∧ τ' = up (up (up (thr τ 0) 10 t (100 + nI r)) 11 t (thr τ 0 12 0)) 12 0 (thr τ 0 12 0 + 1))
set_option maxHeartbeats 4000000 in
set_option maxRecDepth 100000 in
theorem kR_enter (l : Launch) (G : GE) (A : Nat → Prop) (ad : Nat → Nat) (τ : SG) (vt vr : Int32) (n : Nat) (hn : τ 3 0 = nI n) (hn8 : n ≤ 80) (nW : Nat) (hw : τ 16 0 = nI nW) (hnW : nW ≤ 12) (hW0 : WFm τ nW) : KM l G A yX6_enter cX6_enter 4 (some .boolean) (rmL 4 0 0) [.ref (ad 30), .int vt, .int vr] (PM G A ad τ) (fun v H => ∃ x τ', v = some (.int x) ∧ PM G A ad τ' H ∧ cm_enter τ n nW vt vr x τ') (fun _ _ => False) := by
  refine KM.of (by decide) (Nat.le_of_ble_eq_true rfl) ?_
  intro p e s m args below meth c F hP ls hl
  have hx := F.1.1
  have hb := F.1.2.1
  have hown := F.1.2.2.2.1
  have hts := F.1.2.2.2.2
  have hr := F.2.1
  have hlocks := F.2.2.1
  have hE := F.2.2.2.2.2.1
  have hA := F.2.2.2.2.2.2
  have hS : va_S A s.heap s.heap [] := va_S.rf
  have hl : lv_has ls 4 [(0, .ref (ad 30)), (1, .int vt), (2, .int vr)] := hl
  have hP := hP
  refine lv_aload_n hx hb dX6_enter_0 rfl (lv_at hl 0 rfl) ?_
  refine lv_aload_n hx hb dX6_enter_1 rfl (lv_at hl 0 rfl) ?_
  refine lv_iload_n hx hb dX6_enter_2 rfl (lv_at hl 1 rfl) ?_
  refine kcallV (n := 1) F (kM_isTicket l G (fun q => s.heap.size ≤ q) A ad τ vt) wML_X6_121 wIM_X6_isTicket wSE_X6_X6_isTicket wIN_X6 wCO_X6_isTicket (by decide) rfl ⟨by decide, by decide⟩ (frec F hP.main _ rfl) hS (fun q h => hA q (Nat.le_trans hS.1 h)) (fun q h => h) hP rfl hl.1 (Nat.le_of_ble_eq_true rfl) dX6_enter_3 ⟨by decide, by decide⟩ (fun E ce q9 H1 locs1 hx9 _ _ _ _ _ => hx9.elim) (fun v H1 locs1 hv hk hS => ?_)
  have hP := hP.old hk
  subst hv
  refine lv_if_eq (tgt := 16) hx hb dX6_enter_6 (by decide) (fun c_6_1 => ?_) (fun c_6_1 => ?_)
  · have no_vt := in_no (n := n) (by rw [hn]; exact m1p) (by omega) (b2i_0.mp c_6_1)
    refine lv_iconst (v := 1) hx hb dX6_enter_16 (by decide) ?_
    refine lv_goto (tgt := 63) hx hb dX6_enter_17 (by decide) ?_
    refine pX6 F hS hP.main hP.omain 27 (by decide) wFL_X6_81 (fun _ h9 => h9) rfl rfl rfl (by simp) dX6_enter_63 (fun H1 locs1 he1 z1 oq1 hS => ?_)
    have hP : PM G A ad (thr τ 1) H1 := hP.p27 he1 oq1
    refine lv_aload_n hx hb dX6_enter_66 rfl (lv_at hl 0 rfl) ?_
    refine gX6 F hP.main 27 (by decide) wFL_X6_81 (fun _ h9 => h9) (v := .int 1) (by simp [thr, up]) dX6_enter_67 ?_
    refine lv_if_le (tgt := 75) hx hb dX6_enter_70 (by decide) (fun c_70_2 => ?_) (fun c_70_2 => ?_)
    · exact absurd c_70_2 (by decide)
    · refine lv_iconst (v := 0) hx hb dX6_enter_73 (by decide) ?_
      exact kzret hx hb hr hlocks hS (by decide) (by decide) (Or.inl rfl) dX6_enter_74 (⟨_, _, rfl, hP, Or.inl (⟨fun z => no_vt z.1, rfl⟩)⟩)
  · obtain ⟨t, ht, rfl⟩ := in_ex (n := n) (by rw [hn]; exact m1p) (by omega) (b2i_1.mp c_6_1)
    refine lv_iload_n hx hb dX6_enter_9 rfl (lv_at hl 2 rfl) ?_
    refine kcallS (n := 1) F (kM_isRoom l G (fun q => H1.size ≤ q) vr) wML_X6_142 wST_X6_isRoom wIN_X6 wCO_X6_isRoom (by decide) rfl ⟨by decide, by decide⟩ hS (fun q h => hA q (Nat.le_trans hS.1 h)) (fun q h => h) trivial rfl hl.1 (Nat.le_of_ble_eq_true rfl) dX6_enter_10 ⟨by decide, by decide⟩ (fun E ce q9 H1 locs1 hx9 _ _ _ _ _ => hx9.elim) (fun v H1 locs1 hv hk hS => ?_)
    have hP := hP.old hk
    subst hv
    refine lv_if_ne (tgt := 20) hx hb dX6_enter_13 (by decide) (fun c_13_3 => ?_) (fun c_13_3 => ?_)
    · obtain ⟨r, hr9, rfl⟩ := in_ex (n := 12) rfl (by decide) (b2i_1.mp c_13_3)
      refine lv_aload_n hx hb dX6_enter_20 rfl (lv_at hl 0 rfl) ?_
      refine lv_iload_n hx hb dX6_enter_21 rfl (lv_at hl 1 rfl) ?_
      refine kcallV (n := 1) F (kM_isNow l G (fun q => H1.size ≤ q) A ad τ t (by omega)) wML_X6_108 wIM_X6_isNow wSE_X6_X6_isNow wIN_X6 wCO_X6_isNow (by decide) rfl ⟨by decide, by decide⟩ (frec F hP.main _ rfl) hS (fun q h => hA q (Nat.le_trans hS.1 h)) (fun q h => h) hP rfl hl.1 (Nat.le_of_ble_eq_true rfl) dX6_enter_22 ⟨by decide, by decide⟩ (fun E ce q9 H1 locs1 hx9 _ _ _ _ _ => hx9.elim) (fun v H1 locs1 hv hk hS => ?_)
      have hP := hP.old hk
      subst hv
      refine lv_if_eq (tgt := 58) hx hb dX6_enter_25 (by decide) (fun c_25_4 => ?_) (fun c_25_4 => ?_)
      · refine lv_iconst (v := 2) hx hb dX6_enter_58 (by decide) ?_
        refine lv_goto (tgt := 63) hx hb dX6_enter_59 (by decide) ?_
        refine pX6 F hS hP.main hP.omain 27 (by decide) wFL_X6_81 (fun _ h9 => h9) rfl rfl rfl (by simp) dX6_enter_63 (fun H1 locs1 he1 z1 oq1 hS => ?_)
        have hP : PM G A ad (thr τ 2) H1 := hP.p27 he1 oq1
        refine lv_aload_n hx hb dX6_enter_66 rfl (lv_at hl 0 rfl) ?_
        refine gX6 F hP.main 27 (by decide) wFL_X6_81 (fun _ h9 => h9) (v := .int 2) (by simp [thr, up]) dX6_enter_67 ?_
        refine lv_if_le (tgt := 75) hx hb dX6_enter_70 (by decide) (fun c_70_5 => ?_) (fun c_70_5 => ?_)
        · exact absurd c_70_5 (by decide)
        · refine lv_iconst (v := 0) hx hb dX6_enter_73 (by decide) ?_
          exact kzret hx hb hr hlocks hS (by decide) (by decide) (Or.inl rfl) dX6_enter_74 (⟨_, _, rfl, hP, Or.inr (Or.inl (⟨t, r, ht, rfl, hr9, rfl, fun z => by rw [b2i_0.mp c_25_4] at z; exact absurd z.1 (by decide), rfl⟩))⟩)
      · refine lv_aload_n hx hb dX6_enter_28 rfl (lv_at hl 0 rfl) ?_
        refine lv_iload_n hx hb dX6_enter_29 rfl (lv_at hl 1 rfl) ?_
        refine lv_iload_n hx hb dX6_enter_30 rfl (lv_at hl 2 rfl) ?_
        refine lv_iconst (v := 3) hx hb dX6_enter_31 (by decide) ?_
        refine lv_idiv hx hb dX6_enter_32 (by decide) ?_
        refine W.eq (g2 := F0 m 33 ls [.int (nI (r / 3)), .int (nI t), .ref (ad 30), .ref (ad 30)]) (congrArg (fun z => F0 m 33 ls [.int z, .int (nI t), .ref (ad 30), .ref (ad 30)]) (r3 r hr9)) ?_
        refine kcallV (n := 2) F (kM_isFor l G (fun q => H1.size ≤ q) A ad τ t (by omega) (nI (r / 3))) wML_X6_124 wIM_X6_isFor wSE_X6_X6_isFor wIN_X6 wCO_X6_isFor (by decide) rfl ⟨by decide, by decide⟩ (frec F hP.main _ rfl) hS (fun q h => hA q (Nat.le_trans hS.1 h)) (fun q h => h) hP rfl hl.1 (Nat.le_of_ble_eq_true rfl) dX6_enter_33 ⟨by decide, by decide⟩ (fun E ce q9 H1 locs1 hx9 _ _ _ _ _ => hx9.elim) (fun v H1 locs1 hv hk hS => ?_)
        have hP := hP.old hk
        subst hv
        refine lv_if_eq (tgt := 58) hx hb dX6_enter_36 (by decide) (fun c_36_6 => ?_) (fun c_36_6 => ?_)
        · refine lv_iconst (v := 2) hx hb dX6_enter_58 (by decide) ?_
          refine lv_goto (tgt := 63) hx hb dX6_enter_59 (by decide) ?_
          refine pX6 F hS hP.main hP.omain 27 (by decide) wFL_X6_81 (fun _ h9 => h9) rfl rfl rfl (by simp) dX6_enter_63 (fun H1 locs1 he1 z1 oq1 hS => ?_)
          have hP : PM G A ad (thr τ 2) H1 := hP.p27 he1 oq1
          refine lv_aload_n hx hb dX6_enter_66 rfl (lv_at hl 0 rfl) ?_
          refine gX6 F hP.main 27 (by decide) wFL_X6_81 (fun _ h9 => h9) (v := .int 2) (by simp [thr, up]) dX6_enter_67 ?_
          refine lv_if_le (tgt := 75) hx hb dX6_enter_70 (by decide) (fun c_70_7 => ?_) (fun c_70_7 => ?_)
          · exact absurd c_70_7 (by decide)
          · refine lv_iconst (v := 0) hx hb dX6_enter_73 (by decide) ?_
            exact kzret hx hb hr hlocks hS (by decide) (by decide) (Or.inl rfl) dX6_enter_74 (⟨_, _, rfl, hP, Or.inr (Or.inl (⟨t, r, ht, rfl, hr9, rfl, fun z => by rw [b2i_0.mp c_36_6] at z; exact absurd z.2.1 (by decide), rfl⟩))⟩)
        · refine lv_aload_n hx hb dX6_enter_39 rfl (lv_at hl 0 rfl) ?_
          refine gX6 F hP.main 10 (by decide) wFL_X6_35 (fun _ h9 => h9) (v := .ref (ad 10)) rfl dX6_enter_40 ?_
          refine lv_iload_n hx hb dX6_enter_43 rfl (lv_at hl 1 rfl) ?_
          refine xiald hx hb hE.1.1 (hP.arr 10 (by decide) (by decide)) 0 rfl (k := t) rfl (show _ < 80 by omega) (by decide) dX6_enter_44 ?_
          refine lv_iconst (v := (-1)) hx hb dX6_enter_45 (by decide) ?_
          refine lv_icmp_ne (tgt := 58) hx hb dX6_enter_46 (by decide) (fun c_46_8 => ?_) (fun c_46_8 => ?_)
          · refine lv_iconst (v := 2) hx hb dX6_enter_58 (by decide) ?_
            refine lv_goto (tgt := 63) hx hb dX6_enter_59 (by decide) ?_
            refine pX6 F hS hP.main hP.omain 27 (by decide) wFL_X6_81 (fun _ h9 => h9) rfl rfl rfl (by simp) dX6_enter_63 (fun H1 locs1 he1 z1 oq1 hS => ?_)
            have hP : PM G A ad (thr τ 2) H1 := hP.p27 he1 oq1
            refine lv_aload_n hx hb dX6_enter_66 rfl (lv_at hl 0 rfl) ?_
            refine gX6 F hP.main 27 (by decide) wFL_X6_81 (fun _ h9 => h9) (v := .int 2) (by simp [thr, up]) dX6_enter_67 ?_
            refine lv_if_le (tgt := 75) hx hb dX6_enter_70 (by decide) (fun c_70_9 => ?_) (fun c_70_9 => ?_)
            · exact absurd c_70_9 (by decide)
            · refine lv_iconst (v := 0) hx hb dX6_enter_73 (by decide) ?_
              exact kzret hx hb hr hlocks hS (by decide) (by decide) (Or.inl rfl) dX6_enter_74 (⟨_, _, rfl, hP, Or.inr (Or.inl (⟨t, r, ht, rfl, hr9, rfl, fun z => c_46_8 z.2.2.1, rfl⟩))⟩)
          · refine lv_aload_n hx hb dX6_enter_49 rfl (lv_at hl 0 rfl) ?_
            refine gX6 F hP.main 15 (by decide) wFL_X6_47 (fun _ h9 => h9) (v := .ref (ad 15)) rfl dX6_enter_50 ?_
            refine lv_iload_n hx hb dX6_enter_53 rfl (lv_at hl 2 rfl) ?_
            refine xzald hx hb hE.1.1 (hP.arr 15 (by decide) (by decide)) 1 rfl (k := r) rfl (show _ < 12 by omega) (by decide) dX6_enter_54 ?_
            refine lv_if_eq (tgt := 62) hx hb dX6_enter_55 (by decide) (fun c_55_10 => ?_) (fun c_55_10 => ?_)
            · refine lv_iconst (v := 0) hx hb dX6_enter_62 (by decide) ?_
              refine pX6 F hS hP.main hP.omain 27 (by decide) wFL_X6_81 (fun _ h9 => h9) rfl rfl rfl (by simp) dX6_enter_63 (fun H1 locs1 he1 z1 oq1 hS => ?_)
              have hP : PM G A ad (thr τ 0) H1 := hP.p27 he1 oq1
              refine lv_aload_n hx hb dX6_enter_66 rfl (lv_at hl 0 rfl) ?_
              refine gX6 F hP.main 27 (by decide) wFL_X6_81 (fun _ h9 => h9) (v := .int 0) (by simp [thr, up]) dX6_enter_67 ?_
              refine lv_if_le (tgt := 75) hx hb dX6_enter_70 (by decide) (fun c_70_11 => ?_) (fun c_70_11 => ?_)
              · refine lv_aload_n hx hb dX6_enter_75 rfl (lv_at hl 0 rfl) ?_
                refine lv_iload_n hx hb dX6_enter_76 rfl (lv_at hl 2 rfl) ?_
                refine kcallV (n := 1) F (kM_insideOf l G (fun q => H1.size ≤ q) A ad (thr τ 0) (nI r) n (by simp [thr, up, hn]) hn8) wML_X6_134 wIM_X6_insideOf wSE_X6_X6_insideOf wIN_X6 wCO_X6_insideOf (by decide) rfl ⟨by decide, by decide⟩ (frec F hP.main _ rfl) hS (fun q h => hA q (Nat.le_trans hS.1 h)) (fun q h => h) hP rfl hl.1 (Nat.le_of_ble_eq_true rfl) dX6_enter_77 ⟨by decide, by decide⟩ (fun E ce q9 H1 locs1 hx9 _ _ _ _ _ => hx9.elim) (fun v H1 locs1 hv hk hS => ?_)
                have hP := hP.old hk
                subst hv
                refine lv_aload_n hx hb dX6_enter_80 rfl (lv_at hl 0 rfl) ?_
                refine gX6 F hP.main 14 (by decide) wFL_X6_44 (fun _ h9 => h9) (v := .ref (ad 14)) rfl dX6_enter_81 ?_
                refine lv_iload_n hx hb dX6_enter_84 rfl (lv_at hl 2 rfl) ?_
                refine xiald hx hb hE.1.1 (hP.arr 14 (by decide) (by decide)) 0 rfl (k := r) rfl (show _ < 12 by omega) (by decide) dX6_enter_85 ?_
                refine lv_icmp_ge (tgt := 103) hx hb dX6_enter_86 (by decide) (fun c_86_12 => ?_) (fun c_86_12 => ?_)
                · refine lv_iconst (v := 0) hx hb dX6_enter_103 (by decide) ?_
                  refine lv_istore_n (lv' := [(3, .int 0), (0, .ref (ad 30)), (1, .int (nI t)), (2, .int (nI r))]) hx hb dX6_enter_104 rfl hl (by decide) rfl (fun ls hl => ?_)
                  refine lv_iload_n hx hb dX6_enter_105 rfl (lv_at hl 0 rfl) ?_
                  refine lv_if_eq (tgt := 118) hx hb dX6_enter_106 (by decide) (fun c_106_13 => ?_) (fun c_106_13 => ?_)
                  · refine lv_aload_n hx hb dX6_enter_118 rfl (lv_at hl 1 rfl) ?_
                    refine gX6 F hP.main 10 (by decide) wFL_X6_35 (fun _ h9 => h9) (v := .ref (ad 10)) rfl dX6_enter_119 ?_
                    refine lv_iload_n hx hb dX6_enter_122 rfl (lv_at hl 2 rfl) ?_
                    refine lv_bipush (v := 100) hx hb dX6_enter_123 (by decide) ?_
                    refine lv_iload_n hx hb dX6_enter_125 rfl (lv_at hl 3 rfl) ?_
                    refine lv_iadd hx hb dX6_enter_126 ?_
                    refine xiast hx hb hE.1.1 hS (hP.arr 10 (by decide) (by decide)) (hP.oarr 10 (by decide)) 0 rfl (k := t) rfl (show _ < 80 by omega) (by decide) dX6_enter_127 (fun H1 locs1 he1 z1 oq1 hS => ?_)
                    have hP := hP.parr 10 t (by decide) (by decide) he1 oq1
                    refine lv_aload_n hx hb dX6_enter_128 rfl (lv_at hl 1 rfl) ?_
                    refine gX6 F hP.main 11 (by decide) wFL_X6_38 (fun _ h9 => h9) (v := .ref (ad 11)) rfl dX6_enter_129 ?_
                    refine lv_iload_n hx hb dX6_enter_132 rfl (lv_at hl 2 rfl) ?_
                    refine lv_aload_n hx hb dX6_enter_133 rfl (lv_at hl 1 rfl) ?_
                    refine gX6 F hP.main 12 (by decide) wFL_X6_152 (fun _ h9 => h9) (v := .int ((thr τ 0) 12 0)) (by simp [up]) dX6_enter_134 ?_
                    refine xiast hx hb hE.1.1 hS (hP.arr 11 (by decide) (by decide)) (hP.oarr 11 (by decide)) 0 rfl (k := t) rfl (show _ < 80 by omega) (by decide) dX6_enter_137 (fun H1 locs1 he1 z1 oq1 hS => ?_)
                    have hP := hP.parr 11 t (by decide) (by decide) he1 oq1
                    refine lv_aload_n hx hb dX6_enter_138 rfl (lv_at hl 1 rfl) ?_
                    refine lv_dup hx hb dX6_enter_139 rfl ?_
                    refine gX6 F hP.main 12 (by decide) wFL_X6_152 (fun _ h9 => h9) (v := .int ((thr τ 0) 12 0)) (by simp [up]) dX6_enter_140 ?_
                    refine lv_iconst (v := 1) hx hb dX6_enter_143 (by decide) ?_
                    refine lv_iadd hx hb dX6_enter_144 ?_
                    refine pX6 F hS hP.main hP.omain 12 (by decide) wFL_X6_152 (fun _ h9 => h9) rfl rfl rfl (by simp) dX6_enter_145 (fun H1 locs1 he1 z1 oq1 hS => ?_)
                    have hP := hP.p12 he1 oq1
                    refine lv_iload_n hx hb dX6_enter_148 rfl (lv_at hl 0 rfl) ?_
                    exact kzret hx hb hr hlocks hS (by decide) (by decide) (Or.inl rfl) dX6_enter_149 (⟨_, _, rfl, hP, Or.inr (Or.inr (Or.inr (⟨t, r, ht, rfl, hr9, rfl, ⟨b2i_1.mp c_25_4, b2i_1.mp c_36_6, c_46_8, c_55_10⟩, fun z => Int32.not_le.mpr z.1 c_86_12, rfl, rfl⟩)))⟩)
                  · exact absurd c_106_13 (by decide)
                · refine lv_aload_n hx hb dX6_enter_89 rfl (lv_at hl 0 rfl) ?_
                  refine lv_iload_n hx hb dX6_enter_90 rfl (lv_at hl 2 rfl) ?_
                  refine lv_iconst (v := 0) hx hb dX6_enter_91 (by decide) ?_
                  refine kcallV (n := 2) F (kM_inQueue l G (fun q => H1.size ≤ q) A ad (thr τ 0) r 0 n (by simp [thr, up, hn]) hn8) wML_X6_131 wIM_X6_inQueue wSE_X6_X6_inQueue wIN_X6 wCO_X6_inQueue (by decide) rfl ⟨by decide, by decide⟩ (frec F hP.main _ rfl) hS (fun q h => hA q (Nat.le_trans hS.1 h)) (fun q h => h) hP rfl hl.1 (Nat.le_of_ble_eq_true rfl) dX6_enter_92 ⟨by decide, by decide⟩ (fun E ce q9 H1 locs1 hx9 _ _ _ _ _ => hx9.elim) (fun v H1 locs1 hv hk hS => ?_)
                  have hP := hP.old hk
                  subst hv
                  refine lv_iconst (v := (-1)) hx hb dX6_enter_95 (by decide) ?_
                  refine lv_icmp_ne (tgt := 103) hx hb dX6_enter_96 (by decide) (fun c_96_14 => ?_) (fun c_96_14 => ?_)
                  · refine lv_iconst (v := 0) hx hb dX6_enter_103 (by decide) ?_
                    refine lv_istore_n (lv' := [(3, .int 0), (0, .ref (ad 30)), (1, .int (nI t)), (2, .int (nI r))]) hx hb dX6_enter_104 rfl hl (by decide) rfl (fun ls hl => ?_)
                    refine lv_iload_n hx hb dX6_enter_105 rfl (lv_at hl 0 rfl) ?_
                    refine lv_if_eq (tgt := 118) hx hb dX6_enter_106 (by decide) (fun c_106_15 => ?_) (fun c_106_15 => ?_)
                    · refine lv_aload_n hx hb dX6_enter_118 rfl (lv_at hl 1 rfl) ?_
                      refine gX6 F hP.main 10 (by decide) wFL_X6_35 (fun _ h9 => h9) (v := .ref (ad 10)) rfl dX6_enter_119 ?_
                      refine lv_iload_n hx hb dX6_enter_122 rfl (lv_at hl 2 rfl) ?_
                      refine lv_bipush (v := 100) hx hb dX6_enter_123 (by decide) ?_
                      refine lv_iload_n hx hb dX6_enter_125 rfl (lv_at hl 3 rfl) ?_
                      refine lv_iadd hx hb dX6_enter_126 ?_
                      refine xiast hx hb hE.1.1 hS (hP.arr 10 (by decide) (by decide)) (hP.oarr 10 (by decide)) 0 rfl (k := t) rfl (show _ < 80 by omega) (by decide) dX6_enter_127 (fun H1 locs1 he1 z1 oq1 hS => ?_)
                      have hP := hP.parr 10 t (by decide) (by decide) he1 oq1
                      refine lv_aload_n hx hb dX6_enter_128 rfl (lv_at hl 1 rfl) ?_
                      refine gX6 F hP.main 11 (by decide) wFL_X6_38 (fun _ h9 => h9) (v := .ref (ad 11)) rfl dX6_enter_129 ?_
                      refine lv_iload_n hx hb dX6_enter_132 rfl (lv_at hl 2 rfl) ?_
                      refine lv_aload_n hx hb dX6_enter_133 rfl (lv_at hl 1 rfl) ?_
                      refine gX6 F hP.main 12 (by decide) wFL_X6_152 (fun _ h9 => h9) (v := .int ((thr τ 0) 12 0)) (by simp [up]) dX6_enter_134 ?_
                      refine xiast hx hb hE.1.1 hS (hP.arr 11 (by decide) (by decide)) (hP.oarr 11 (by decide)) 0 rfl (k := t) rfl (show _ < 80 by omega) (by decide) dX6_enter_137 (fun H1 locs1 he1 z1 oq1 hS => ?_)
                      have hP := hP.parr 11 t (by decide) (by decide) he1 oq1
                      refine lv_aload_n hx hb dX6_enter_138 rfl (lv_at hl 1 rfl) ?_
                      refine lv_dup hx hb dX6_enter_139 rfl ?_
                      refine gX6 F hP.main 12 (by decide) wFL_X6_152 (fun _ h9 => h9) (v := .int ((thr τ 0) 12 0)) (by simp [up]) dX6_enter_140 ?_
                      refine lv_iconst (v := 1) hx hb dX6_enter_143 (by decide) ?_
                      refine lv_iadd hx hb dX6_enter_144 ?_
                      refine pX6 F hS hP.main hP.omain 12 (by decide) wFL_X6_152 (fun _ h9 => h9) rfl rfl rfl (by simp) dX6_enter_145 (fun H1 locs1 he1 z1 oq1 hS => ?_)
                      have hP := hP.p12 he1 oq1
                      refine lv_iload_n hx hb dX6_enter_148 rfl (lv_at hl 0 rfl) ?_
                      exact kzret hx hb hr hlocks hS (by decide) (by decide) (Or.inl rfl) dX6_enter_149 (⟨_, _, rfl, hP, Or.inr (Or.inr (Or.inr (⟨t, r, ht, rfl, hr9, rfl, ⟨b2i_1.mp c_25_4, b2i_1.mp c_36_6, c_46_8, c_55_10⟩, fun z => c_96_14 z.2, rfl, rfl⟩)))⟩)
                    · exact absurd c_106_15 (by decide)
                  · refine lv_iconst (v := 1) hx hb dX6_enter_99 (by decide) ?_
                    refine lv_goto (tgt := 104) hx hb dX6_enter_100 (by decide) ?_
                    refine lv_istore_n (lv' := [(3, .int 1), (0, .ref (ad 30)), (1, .int (nI t)), (2, .int (nI r))]) hx hb dX6_enter_104 rfl hl (by decide) rfl (fun ls hl => ?_)
                    refine lv_iload_n hx hb dX6_enter_105 rfl (lv_at hl 0 rfl) ?_
                    refine lv_if_eq (tgt := 118) hx hb dX6_enter_106 (by decide) (fun c_106_16 => ?_) (fun c_106_16 => ?_)
                    · exact absurd c_106_16 (by decide)
                    · refine lv_aload_n hx hb dX6_enter_109 rfl (lv_at hl 1 rfl) ?_
                      refine lv_iload_n hx hb dX6_enter_110 rfl (lv_at hl 2 rfl) ?_
                      refine lv_iload_n hx hb dX6_enter_111 rfl (lv_at hl 3 rfl) ?_
                      refine kcallV (n := 2) F (kM_see l G A ad (thr τ 0) t r (by omega) hr9 nW (by simp [thr, up, hw]) hnW (by intro x hx; simp [thr, up]; exact hW0 x hx)) wML_X6_138 wIM_X6_see wSE_X6_X6_see wIN_X6 wCO_X6_see (by decide) rfl ⟨by decide, by decide⟩ (frec F hP.main _ rfl) hS (fun _ h => h) (fun q h => hA q (Nat.le_trans hS.1 h)) hP rfl hl.1 (Nat.le_of_ble_eq_true rfl) dX6_enter_112 ⟨by decide, by decide⟩ (fun E ce q9 H1 locs1 hx9 _ _ _ _ _ => hx9.elim) (fun v H1 locs1 hv hk hS => ?_)
                      obtain ⟨rfl, hP⟩ := hv
                      refine lv_goto (tgt := 148) hx hb dX6_enter_115 (by decide) ?_
                      refine lv_iload_n hx hb dX6_enter_148 rfl (lv_at hl 0 rfl) ?_
                      exact kzret hx hb hr hlocks hS (by decide) (by decide) (Or.inr rfl) dX6_enter_149 (⟨_, _, rfl, hP, Or.inr (Or.inr (Or.inl (⟨t, r, ht, rfl, hr9, rfl, ⟨b2i_1.mp c_25_4, b2i_1.mp c_36_6, c_46_8, c_55_10⟩, ⟨Int32.not_le.mp c_86_12, c_96_14⟩, rfl, rfl⟩)))⟩)
              · exact absurd c_70_11 (by decide)
            · refine lv_iconst (v := 2) hx hb dX6_enter_58 (by decide) ?_
              refine lv_goto (tgt := 63) hx hb dX6_enter_59 (by decide) ?_
              refine pX6 F hS hP.main hP.omain 27 (by decide) wFL_X6_81 (fun _ h9 => h9) rfl rfl rfl (by simp) dX6_enter_63 (fun H1 locs1 he1 z1 oq1 hS => ?_)
              have hP : PM G A ad (thr τ 2) H1 := hP.p27 he1 oq1
              refine lv_aload_n hx hb dX6_enter_66 rfl (lv_at hl 0 rfl) ?_
              refine gX6 F hP.main 27 (by decide) wFL_X6_81 (fun _ h9 => h9) (v := .int 2) (by simp [thr, up]) dX6_enter_67 ?_
              refine lv_if_le (tgt := 75) hx hb dX6_enter_70 (by decide) (fun c_70_17 => ?_) (fun c_70_17 => ?_)
              · exact absurd c_70_17 (by decide)
              · refine lv_iconst (v := 0) hx hb dX6_enter_73 (by decide) ?_
                exact kzret hx hb hr hlocks hS (by decide) (by decide) (Or.inl rfl) dX6_enter_74 (⟨_, _, rfl, hP, Or.inr (Or.inl (⟨t, r, ht, rfl, hr9, rfl, fun z => c_55_10 z.2.2.2, rfl⟩))⟩)
    · have no_vr := in_no (n := 12) rfl (by decide) (b2i_0.mp c_13_3)
      refine lv_iconst (v := 1) hx hb dX6_enter_16 (by decide) ?_
      refine lv_goto (tgt := 63) hx hb dX6_enter_17 (by decide) ?_
      refine pX6 F hS hP.main hP.omain 27 (by decide) wFL_X6_81 (fun _ h9 => h9) rfl rfl rfl (by simp) dX6_enter_63 (fun H1 locs1 he1 z1 oq1 hS => ?_)
      have hP : PM G A ad (thr τ 1) H1 := hP.p27 he1 oq1
      refine lv_aload_n hx hb dX6_enter_66 rfl (lv_at hl 0 rfl) ?_
      refine gX6 F hP.main 27 (by decide) wFL_X6_81 (fun _ h9 => h9) (v := .int 1) (by simp [thr, up]) dX6_enter_67 ?_
      refine lv_if_le (tgt := 75) hx hb dX6_enter_70 (by decide) (fun c_70_18 => ?_) (fun c_70_18 => ?_)
      · exact absurd c_70_18 (by decide)
      · refine lv_iconst (v := 0) hx hb dX6_enter_73 (by decide) ?_
        exact kzret hx hb hr hlocks hS (by decide) (by decide) (Or.inl rfl) dX6_enter_74 (⟨_, _, rfl, hP, Or.inl (⟨fun z => no_vr z.2, rfl⟩)⟩)

def cm_goOut (τ : SG) (n nW : Nat) (vt : Int32) (v : Int32) (τ' : SG) : Prop := (¬ (∃ j, j < n ∧ vt = nI j) ∧ τ' = thr τ 1) ∨ (∃ t, t < n ∧ vt = nI t ∧ τ 10 t = -1 ∧ τ' = thr τ 2) ∨ (∃ t r, t < n ∧ vt = nI t ∧ r < 12 ∧ (τ 10 t = nI r ∨ τ 10 t = 100 + nI r) ∧ v = nI r ∧ τ' = mLet nW n r n (up (thr τ 0) 10 t (-1)))
set_option maxHeartbeats 4000000 in
set_option maxRecDepth 100000 in
theorem kR_goOut (l : Launch) (G : GE) (A : Nat → Prop) (ad : Nat → Nat) (τ : SG) (vt : Int32) (n : Nat) (hn : τ 3 0 = nI n) (hn8 : n ≤ 80) (nW : Nat) (hw : τ 16 0 = nI nW) (hnW : nW ≤ 12) (hW0 : WFm τ nW) (hPl : ∀ t, t < n → τ 10 t = -1 ∨ ∃ r, r < 12 ∧ (τ 10 t = nI r ∨ τ 10 t = 100 + nI r)) : KM l G A yX6_goOut cX6_goOut 3 (some .int) (rmL 4 0 0) [.ref (ad 30), .int vt] (PM G A ad τ) (fun v H => ∃ x τ', v = some (.int x) ∧ PM G A ad τ' H ∧ cm_goOut τ n nW vt x τ') (fun _ _ => False) := by
  refine KM.of (by decide) (Nat.le_of_ble_eq_true rfl) ?_
  intro p e s m args below meth c F hP ls hl
  have hx := F.1.1
  have hb := F.1.2.1
  have hown := F.1.2.2.2.1
  have hts := F.1.2.2.2.2
  have hr := F.2.1
  have hlocks := F.2.2.1
  have hE := F.2.2.2.2.2.1
  have hA := F.2.2.2.2.2.2
  have hS : va_S A s.heap s.heap [] := va_S.rf
  have hl : lv_has ls 3 [(0, .ref (ad 30)), (1, .int vt)] := hl
  have hP := hP
  refine lv_aload_n hx hb dX6_goOut_0 rfl (lv_at hl 0 rfl) ?_
  refine lv_aload_n hx hb dX6_goOut_1 rfl (lv_at hl 0 rfl) ?_
  refine lv_iload_n hx hb dX6_goOut_2 rfl (lv_at hl 1 rfl) ?_
  refine kcallV (n := 1) F (kM_isTicket l G (fun q => s.heap.size ≤ q) A ad τ vt) wML_X6_121 wIM_X6_isTicket wSE_X6_X6_isTicket wIN_X6 wCO_X6_isTicket (by decide) rfl ⟨by decide, by decide⟩ (frec F hP.main _ rfl) hS (fun q h => hA q (Nat.le_trans hS.1 h)) (fun q h => h) hP rfl hl.1 (Nat.le_of_ble_eq_true rfl) dX6_goOut_3 ⟨by decide, by decide⟩ (fun E ce q9 H1 locs1 hx9 _ _ _ _ _ => hx9.elim) (fun v H1 locs1 hv hk hS => ?_)
  have hP := hP.old hk
  subst hv
  refine lv_if_ne (tgt := 13) hx hb dX6_goOut_6 (by decide) (fun c_6_1 => ?_) (fun c_6_1 => ?_)
  · obtain ⟨t, ht, rfl⟩ := in_ex (n := n) (by rw [hn]; exact m1p) (by omega) (b2i_1.mp c_6_1)
    refine lv_aload_n hx hb dX6_goOut_13 rfl (lv_at hl 0 rfl) ?_
    refine gX6 F hP.main 10 (by decide) wFL_X6_35 (fun _ h9 => h9) (v := .ref (ad 10)) rfl dX6_goOut_14 ?_
    refine lv_iload_n hx hb dX6_goOut_17 rfl (lv_at hl 1 rfl) ?_
    refine xiald hx hb hE.1.1 (hP.arr 10 (by decide) (by decide)) 0 rfl (k := t) rfl (show _ < 80 by omega) (by decide) dX6_goOut_18 ?_
    refine lv_iconst (v := (-1)) hx hb dX6_goOut_19 (by decide) ?_
    refine lv_icmp_ne (tgt := 27) hx hb dX6_goOut_20 (by decide) (fun c_20_2 => ?_) (fun c_20_2 => ?_)
    · obtain ⟨r, hr9, hro⟩ := (hPl t ht).resolve_left c_20_2
      refine lv_iconst (v := 0) hx hb dX6_goOut_27 (by decide) ?_
      refine pX6 F hS hP.main hP.omain 27 (by decide) wFL_X6_81 (fun _ h9 => h9) rfl rfl rfl (by simp) dX6_goOut_28 (fun H1 locs1 he1 z1 oq1 hS => ?_)
      have hP : PM G A ad (thr τ 0) H1 := hP.p27 he1 oq1
      refine lv_aload_n hx hb dX6_goOut_31 rfl (lv_at hl 0 rfl) ?_
      refine gX6 F hP.main 27 (by decide) wFL_X6_81 (fun _ h9 => h9) (v := .int 0) (by simp [thr, up]) dX6_goOut_32 ?_
      refine lv_if_le (tgt := 40) hx hb dX6_goOut_35 (by decide) (fun c_35_3 => ?_) (fun c_35_3 => ?_)
      · refine lv_aload_n hx hb dX6_goOut_40 rfl (lv_at hl 0 rfl) ?_
        refine gX6 F hP.main 10 (by decide) wFL_X6_35 (fun _ h9 => h9) (v := .ref (ad 10)) rfl dX6_goOut_41 ?_
        refine lv_iload_n hx hb dX6_goOut_44 rfl (lv_at hl 1 rfl) ?_
        refine xiald hx hb hE.1.1 (hP.arr 10 (by decide) (by decide)) 0 rfl (k := t) rfl (show _ < 80 by omega) (by decide) dX6_goOut_45 ?_
        refine lv_bipush (v := 100) hx hb dX6_goOut_46 (by decide) ?_
        refine lv_irem hx hb dX6_goOut_48 (by decide) ?_
        refine W.eq (g2 := F0 m 49 ls [.int (nI r)]) (congrArg (fun z => F0 m 49 ls [.int z]) ((show (thr τ 0 10 t) - (thr τ 0 10 t) / 100 * 100 = nI r from by rw [thr_o (by decide)]; exact rem100 hr9 hro))) ?_
        refine lv_istore_n (lv' := [(2, .int (nI r)), (0, .ref (ad 30)), (1, .int (nI t))]) hx hb dX6_goOut_49 rfl hl (by decide) rfl (fun ls hl => ?_)
        refine lv_aload_n hx hb dX6_goOut_50 rfl (lv_at hl 1 rfl) ?_
        refine gX6 F hP.main 10 (by decide) wFL_X6_35 (fun _ h9 => h9) (v := .ref (ad 10)) rfl dX6_goOut_51 ?_
        refine lv_iload_n hx hb dX6_goOut_54 rfl (lv_at hl 2 rfl) ?_
        refine lv_iconst (v := (-1)) hx hb dX6_goOut_55 (by decide) ?_
        refine xiast hx hb hE.1.1 hS (hP.arr 10 (by decide) (by decide)) (hP.oarr 10 (by decide)) 0 rfl (k := t) rfl (show _ < 80 by omega) (by decide) dX6_goOut_56 (fun H1 locs1 he1 z1 oq1 hS => ?_)
        have hP := hP.parr 10 t (by decide) (by decide) he1 oq1
        refine lv_aload_n hx hb dX6_goOut_57 rfl (lv_at hl 1 rfl) ?_
        refine lv_iload_n hx hb dX6_goOut_58 rfl (lv_at hl 0 rfl) ?_
        refine kcallV (n := 1) F (kM_letIn l G A ad (up (thr τ 0) 10 t (-1)) r hr9 n (by simp [thr, up, hn]) hn8 nW (by simp [thr, up, hw]) hnW (by intro x hx; simp [thr, up]; exact hW0 x hx)) wML_X6_145 wIM_X6_letIn wSE_X6_X6_letIn wIN_X6 wCO_X6_letIn (by decide) rfl ⟨by decide, by decide⟩ (frec F hP.main _ rfl) hS (fun _ h => h) (fun q h => hA q (Nat.le_trans hS.1 h)) hP rfl hl.1 (Nat.le_of_ble_eq_true rfl) dX6_goOut_59 ⟨by decide, by decide⟩ (fun E ce q9 H1 locs1 hx9 _ _ _ _ _ => hx9.elim) (fun v H1 locs1 hv hk hS => ?_)
        obtain ⟨rfl, hP⟩ := hv
        refine lv_iload_n hx hb dX6_goOut_62 rfl (lv_at hl 0 rfl) ?_
        exact kiret hx hb hr hlocks hS (by decide) (by decide) dX6_goOut_63 (⟨_, _, rfl, hP, Or.inr (Or.inr (⟨t, r, ht, rfl, hr9, hro, rfl, rfl⟩))⟩)
      · exact absurd c_35_3 (by decide)
    · refine lv_iconst (v := 2) hx hb dX6_goOut_23 (by decide) ?_
      refine lv_goto (tgt := 28) hx hb dX6_goOut_24 (by decide) ?_
      refine pX6 F hS hP.main hP.omain 27 (by decide) wFL_X6_81 (fun _ h9 => h9) rfl rfl rfl (by simp) dX6_goOut_28 (fun H1 locs1 he1 z1 oq1 hS => ?_)
      have hP : PM G A ad (thr τ 2) H1 := hP.p27 he1 oq1
      refine lv_aload_n hx hb dX6_goOut_31 rfl (lv_at hl 0 rfl) ?_
      refine gX6 F hP.main 27 (by decide) wFL_X6_81 (fun _ h9 => h9) (v := .int 2) (by simp [thr, up]) dX6_goOut_32 ?_
      refine lv_if_le (tgt := 40) hx hb dX6_goOut_35 (by decide) (fun c_35_4 => ?_) (fun c_35_4 => ?_)
      · exact absurd c_35_4 (by decide)
      · refine lv_iconst (v := 0) hx hb dX6_goOut_38 (by decide) ?_
        exact kiret hx hb hr hlocks hS (by decide) (by decide) dX6_goOut_39 (⟨_, _, rfl, hP, Or.inr (Or.inl (⟨t, ht, rfl, c_20_2, rfl⟩))⟩)
  · have no_vt := in_no (n := n) (by rw [hn]; exact m1p) (by omega) (b2i_0.mp c_6_1)
    refine lv_iconst (v := 1) hx hb dX6_goOut_9 (by decide) ?_
    refine lv_goto (tgt := 28) hx hb dX6_goOut_10 (by decide) ?_
    refine pX6 F hS hP.main hP.omain 27 (by decide) wFL_X6_81 (fun _ h9 => h9) rfl rfl rfl (by simp) dX6_goOut_28 (fun H1 locs1 he1 z1 oq1 hS => ?_)
    have hP : PM G A ad (thr τ 1) H1 := hP.p27 he1 oq1
    refine lv_aload_n hx hb dX6_goOut_31 rfl (lv_at hl 0 rfl) ?_
    refine gX6 F hP.main 27 (by decide) wFL_X6_81 (fun _ h9 => h9) (v := .int 1) (by simp [thr, up]) dX6_goOut_32 ?_
    refine lv_if_le (tgt := 40) hx hb dX6_goOut_35 (by decide) (fun c_35_5 => ?_) (fun c_35_5 => ?_)
    · exact absurd c_35_5 (by decide)
    · refine lv_iconst (v := 0) hx hb dX6_goOut_38 (by decide) ?_
      exact kiret hx hb hr hlocks hS (by decide) (by decide) dX6_goOut_39 (⟨_, _, rfl, hP, Or.inl (⟨no_vt, rfl⟩)⟩)

def cm_addWork (τ : SG) (nW : Nat) (vr : Int32) (v : Int32) (τ' : SG) : Prop := (¬ (∃ j, j < 12 ∧ vr = nI j) ∧ τ' = thr τ 1) ∨ ((∃ j, j < 12 ∧ vr = nI j) ∧ nW = 12 ∧ τ' = thr τ 2) ∨ (∃ r, r < 12 ∧ vr = nI r ∧ nW < 12 ∧ v = nI nW ∧ τ' = up (up (up (up (thr τ 0) 17 nW (nI (r / 3))) 18 nW (nI r)) 22 nW 20) 16 0 (nI (nW + 1)))
set_option maxHeartbeats 4000000 in
set_option maxRecDepth 100000 in
theorem kR_addWork (l : Launch) (G : GE) (A : Nat → Prop) (ad : Nat → Nat) (τ : SG) (vr : Int32) (nW : Nat) (hw : τ 16 0 = nI nW) (hnW : nW ≤ 12) : KM l G A yX6_addWork cX6_addWork 2 (some .int) (rmL 3 0 0) [.ref (ad 30), .int vr] (PM G A ad τ) (fun v H => ∃ x τ', v = some (.int x) ∧ PM G A ad τ' H ∧ cm_addWork τ nW vr x τ') (fun _ _ => False) := by
  refine KM.of (by decide) (Nat.le_of_ble_eq_true rfl) ?_
  intro p e s m args below meth c F hP ls hl
  have hx := F.1.1
  have hb := F.1.2.1
  have hown := F.1.2.2.2.1
  have hts := F.1.2.2.2.2
  have hr := F.2.1
  have hlocks := F.2.2.1
  have hE := F.2.2.2.2.2.1
  have hA := F.2.2.2.2.2.2
  have hS : va_S A s.heap s.heap [] := va_S.rf
  have hl : lv_has ls 2 [(0, .ref (ad 30)), (1, .int vr)] := hl
  have hP := hP
  refine lv_aload_n hx hb dX6_addWork_0 rfl (lv_at hl 0 rfl) ?_
  refine lv_iload_n hx hb dX6_addWork_1 rfl (lv_at hl 1 rfl) ?_
  refine kcallS (n := 1) F (kM_isRoom l G (fun q => s.heap.size ≤ q) vr) wML_X6_142 wST_X6_isRoom wIN_X6 wCO_X6_isRoom (by decide) rfl ⟨by decide, by decide⟩ hS (fun q h => hA q (Nat.le_trans hS.1 h)) (fun q h => h) trivial rfl hl.1 (Nat.le_of_ble_eq_true rfl) dX6_addWork_2 ⟨by decide, by decide⟩ (fun E ce q9 H1 locs1 hx9 _ _ _ _ _ => hx9.elim) (fun v H1 locs1 hv hk hS => ?_)
  have hP := hP.old hk
  subst hv
  refine lv_if_ne (tgt := 12) hx hb dX6_addWork_5 (by decide) (fun c_5_1 => ?_) (fun c_5_1 => ?_)
  · obtain ⟨r, hr9, rfl⟩ := in_ex (n := 12) rfl (by decide) (b2i_1.mp c_5_1)
    refine lv_aload_n hx hb dX6_addWork_12 rfl (lv_at hl 0 rfl) ?_
    refine gX6 F hP.main 16 (by decide) wFL_X6_91 (fun _ h9 => h9) (v := .int (nI nW)) (by simp [up, thr, hw]) dX6_addWork_13 ?_
    refine lv_bipush (v := 12) hx hb dX6_addWork_16 (by decide) ?_
    refine lv_icmp_ne (tgt := 25) hx hb dX6_addWork_18 (by decide) (fun c_18_2 => ?_) (fun c_18_2 => ?_)
    · have h12 : nW < 12 := Nat.lt_of_le_of_ne hnW (fun z => c_18_2 (by rw [z]; rfl))
      refine lv_iconst (v := 0) hx hb dX6_addWork_25 (by decide) ?_
      refine pX6 F hS hP.main hP.omain 27 (by decide) wFL_X6_81 (fun _ h9 => h9) rfl rfl rfl (by simp) dX6_addWork_26 (fun H1 locs1 he1 z1 oq1 hS => ?_)
      have hP : PM G A ad (thr τ 0) H1 := hP.p27 he1 oq1
      refine lv_aload_n hx hb dX6_addWork_29 rfl (lv_at hl 0 rfl) ?_
      refine gX6 F hP.main 27 (by decide) wFL_X6_81 (fun _ h9 => h9) (v := .int 0) (by simp [thr, up]) dX6_addWork_30 ?_
      refine lv_if_le (tgt := 38) hx hb dX6_addWork_33 (by decide) (fun c_33_3 => ?_) (fun c_33_3 => ?_)
      · refine lv_aload_n hx hb dX6_addWork_38 rfl (lv_at hl 0 rfl) ?_
        refine gX6 F hP.main 17 (by decide) wFL_X6_50 (fun _ h9 => h9) (v := .ref (ad 17)) rfl dX6_addWork_39 ?_
        refine lv_aload_n hx hb dX6_addWork_42 rfl (lv_at hl 0 rfl) ?_
        refine gX6 F hP.main 16 (by decide) wFL_X6_91 (fun _ h9 => h9) (v := .int (nI nW)) (by simp [up, thr, hw]) dX6_addWork_43 ?_
        refine lv_iload_n hx hb dX6_addWork_46 rfl (lv_at hl 1 rfl) ?_
        refine lv_iconst (v := 3) hx hb dX6_addWork_47 (by decide) ?_
        refine lv_idiv hx hb dX6_addWork_48 (by decide) ?_
        refine W.eq (g2 := F0 m 49 ls [.int (nI (r / 3)), .int (nI nW), .ref (ad 17)]) (congrArg (fun z => F0 m 49 ls [.int z, .int (nI nW), .ref (ad 17)]) (r3 r hr9)) ?_
        refine xiast hx hb hE.1.1 hS (hP.arr 17 (by decide) (by decide)) (hP.oarr 17 (by decide)) 0 rfl (k := nW) rfl (show _ < 12 by omega) (by decide) dX6_addWork_49 (fun H1 locs1 he1 z1 oq1 hS => ?_)
        have hP := hP.parr 17 nW (by decide) (by decide) he1 oq1
        refine lv_aload_n hx hb dX6_addWork_50 rfl (lv_at hl 0 rfl) ?_
        refine gX6 F hP.main 18 (by decide) wFL_X6_53 (fun _ h9 => h9) (v := .ref (ad 18)) rfl dX6_addWork_51 ?_
        refine lv_aload_n hx hb dX6_addWork_54 rfl (lv_at hl 0 rfl) ?_
        refine gX6 F hP.main 16 (by decide) wFL_X6_91 (fun _ h9 => h9) (v := .int (nI nW)) (by simp [up, thr, hw]) dX6_addWork_55 ?_
        refine lv_iload_n hx hb dX6_addWork_58 rfl (lv_at hl 1 rfl) ?_
        refine xiast hx hb hE.1.1 hS (hP.arr 18 (by decide) (by decide)) (hP.oarr 18 (by decide)) 0 rfl (k := nW) rfl (show _ < 12 by omega) (by decide) dX6_addWork_59 (fun H1 locs1 he1 z1 oq1 hS => ?_)
        have hP := hP.parr 18 nW (by decide) (by decide) he1 oq1
        refine lv_aload_n hx hb dX6_addWork_60 rfl (lv_at hl 0 rfl) ?_
        refine gX6 F hP.main 22 (by decide) wFL_X6_65 (fun _ h9 => h9) (v := .ref (ad 22)) rfl dX6_addWork_61 ?_
        refine lv_aload_n hx hb dX6_addWork_64 rfl (lv_at hl 0 rfl) ?_
        refine gX6 F hP.main 16 (by decide) wFL_X6_91 (fun _ h9 => h9) (v := .int (nI nW)) (by simp [up, thr, hw]) dX6_addWork_65 ?_
        refine lv_bipush (v := 20) hx hb dX6_addWork_68 (by decide) ?_
        refine xiast hx hb hE.1.1 hS (hP.arr 22 (by decide) (by decide)) (hP.oarr 22 (by decide)) 0 rfl (k := nW) rfl (show _ < 12 by omega) (by decide) dX6_addWork_70 (fun H1 locs1 he1 z1 oq1 hS => ?_)
        have hP := hP.parr 22 nW (by decide) (by decide) he1 oq1
        refine lv_aload_n hx hb dX6_addWork_71 rfl (lv_at hl 0 rfl) ?_
        refine lv_dup hx hb dX6_addWork_72 rfl ?_
        refine gX6 F hP.main 16 (by decide) wFL_X6_91 (fun _ h9 => h9) (v := .int (nI nW)) (by simp [up, thr, hw]) dX6_addWork_73 ?_
        refine lv_iconst (v := 1) hx hb dX6_addWork_76 (by decide) ?_
        refine lv_iadd hx hb dX6_addWork_77 ?_
        refine W.eq (g2 := F0 m 78 ls [.int (nI (nW + 1)), .ref (ad 30)]) (congrArg (fun z => F0 m 78 ls [.int z, .ref (ad 30)]) (nI_1 _)) ?_
        refine pX6 F hS hP.main hP.omain 16 (by decide) wFL_X6_91 (fun _ h9 => h9) rfl rfl rfl (by simp) dX6_addWork_78 (fun H1 locs1 he1 z1 oq1 hS => ?_)
        have hP := hP.p16 he1 oq1
        refine lv_aload_n hx hb dX6_addWork_81 rfl (lv_at hl 0 rfl) ?_
        refine gX6 F hP.main 16 (by decide) wFL_X6_91 (fun _ h9 => h9) (v := .int (nI (nW + 1))) (by simp [up]) dX6_addWork_82 ?_
        refine lv_iconst (v := 1) hx hb dX6_addWork_85 (by decide) ?_
        refine lv_isub hx hb dX6_addWork_86 ?_
        exact kiret hx hb hr hlocks hS (by decide) (by decide) dX6_addWork_87 (⟨_, _, rfl, hP, Or.inr (Or.inr (⟨r, hr9, rfl, h12, by rw [nI_m1], rfl⟩))⟩)
      · exact absurd c_33_3 (by decide)
    · have h12 : nW = 12 := nIe (by omega) (by decide) c_18_2
      refine lv_iconst (v := 2) hx hb dX6_addWork_21 (by decide) ?_
      refine lv_goto (tgt := 26) hx hb dX6_addWork_22 (by decide) ?_
      refine pX6 F hS hP.main hP.omain 27 (by decide) wFL_X6_81 (fun _ h9 => h9) rfl rfl rfl (by simp) dX6_addWork_26 (fun H1 locs1 he1 z1 oq1 hS => ?_)
      have hP : PM G A ad (thr τ 2) H1 := hP.p27 he1 oq1
      refine lv_aload_n hx hb dX6_addWork_29 rfl (lv_at hl 0 rfl) ?_
      refine gX6 F hP.main 27 (by decide) wFL_X6_81 (fun _ h9 => h9) (v := .int 2) (by simp [thr, up]) dX6_addWork_30 ?_
      refine lv_if_le (tgt := 38) hx hb dX6_addWork_33 (by decide) (fun c_33_4 => ?_) (fun c_33_4 => ?_)
      · exact absurd c_33_4 (by decide)
      · refine lv_iconst (v := 0) hx hb dX6_addWork_36 (by decide) ?_
        exact kiret hx hb hr hlocks hS (by decide) (by decide) dX6_addWork_37 (⟨_, _, rfl, hP, Or.inr (Or.inl (⟨⟨r, hr9, rfl⟩, h12, rfl⟩))⟩)
  · have no_vr := in_no (n := 12) rfl (by decide) (b2i_0.mp c_5_1)
    refine lv_iconst (v := 1) hx hb dX6_addWork_8 (by decide) ?_
    refine lv_goto (tgt := 26) hx hb dX6_addWork_9 (by decide) ?_
    refine pX6 F hS hP.main hP.omain 27 (by decide) wFL_X6_81 (fun _ h9 => h9) rfl rfl rfl (by simp) dX6_addWork_26 (fun H1 locs1 he1 z1 oq1 hS => ?_)
    have hP : PM G A ad (thr τ 1) H1 := hP.p27 he1 oq1
    refine lv_aload_n hx hb dX6_addWork_29 rfl (lv_at hl 0 rfl) ?_
    refine gX6 F hP.main 27 (by decide) wFL_X6_81 (fun _ h9 => h9) (v := .int 1) (by simp [thr, up]) dX6_addWork_30 ?_
    refine lv_if_le (tgt := 38) hx hb dX6_addWork_33 (by decide) (fun c_33_5 => ?_) (fun c_33_5 => ?_)
    · exact absurd c_33_5 (by decide)
    · refine lv_iconst (v := 0) hx hb dX6_addWork_36 (by decide) ?_
      exact kiret hx hb hr hlocks hS (by decide) (by decide) dX6_addWork_37 (⟨_, _, rfl, hP, Or.inl (⟨no_vr, rfl⟩)⟩)

set_option maxHeartbeats 4000000 in
set_option maxRecDepth 100000 in
theorem kM_areOne (l : Launch) (G : GE) (A1 A : Nat → Prop) (ad : Nat → Nat) (τ : SG) (vw vr : Int32) : KM l G A1 yX6_areOne cX6_areOne 3 (some .boolean) (rmL 3 0 0) [.ref (ad 30), .int vw, .int vr] (PM G A ad τ) (fun v _ => v = some (.int (b2i (inB vw 0 (τ 16 0 - 1) && inB vr 0 11)))) (fun _ _ => False) := by
  refine KM.of (by decide) (Nat.le_of_ble_eq_true rfl) ?_
  intro p e s m args below meth c F hP ls hl
  have hx := F.1.1
  have hb := F.1.2.1
  have hown := F.1.2.2.2.1
  have hts := F.1.2.2.2.2
  have hr := F.2.1
  have hlocks := F.2.2.1
  have hE := F.2.2.2.2.2.1
  have hA := F.2.2.2.2.2.2
  have hS : va_S A1 s.heap s.heap [] := va_S.rf
  have hl : lv_has ls 3 [(0, .ref (ad 30)), (1, .int vw), (2, .int vr)] := hl
  have hP := hP
  refine lv_aload_n hx hb dX6_areOne_0 rfl (lv_at hl 0 rfl) ?_
  refine lv_iload_n hx hb dX6_areOne_1 rfl (lv_at hl 1 rfl) ?_
  refine kcallV (n := 1) F (kM_isWork l G (fun q => s.heap.size ≤ q) A ad τ vw) wML_X6_155 wIM_X6_isWork wSE_X6_X6_isWork wIN_X6 wCO_X6_isWork (by decide) rfl ⟨by decide, by decide⟩ (frec F hP.main _ rfl) hS (fun q h => hA q (Nat.le_trans hS.1 h)) (fun q h => h) hP rfl hl.1 (Nat.le_of_ble_eq_true rfl) dX6_areOne_2 ⟨by decide, by decide⟩ (fun E ce q9 H1 locs1 hx9 _ _ _ _ _ => hx9.elim) (fun v H1 locs1 hv hk hS => ?_)
  have hP := hP.old hk
  subst hv
  refine lv_if_eq (tgt := 19) hx hb dX6_areOne_5 (by decide) (fun c_5_1 => ?_) (fun c_5_1 => ?_)
  · refine lv_iconst (v := 0) hx hb dX6_areOne_19 (by decide) ?_
    exact kzret hx hb hr hlocks hS (by decide) (by decide) (Or.inl rfl) dX6_areOne_20 (by simp [b2i, (b2i_0.mp c_5_1)])
  · refine lv_iload_n hx hb dX6_areOne_8 rfl (lv_at hl 2 rfl) ?_
    refine kcallS (n := 1) F (kM_isRoom l G (fun q => H1.size ≤ q) vr) wML_X6_142 wST_X6_isRoom wIN_X6 wCO_X6_isRoom (by decide) rfl ⟨by decide, by decide⟩ hS (fun q h => hA q (Nat.le_trans hS.1 h)) (fun q h => h) trivial rfl hl.1 (Nat.le_of_ble_eq_true rfl) dX6_areOne_9 ⟨by decide, by decide⟩ (fun E ce q9 H1 locs1 hx9 _ _ _ _ _ => hx9.elim) (fun v H1 locs1 hv hk hS => ?_)
    have hP := hP.old hk
    subst hv
    refine lv_if_eq (tgt := 19) hx hb dX6_areOne_12 (by decide) (fun c_12_2 => ?_) (fun c_12_2 => ?_)
    · refine lv_iconst (v := 0) hx hb dX6_areOne_19 (by decide) ?_
      exact kzret hx hb hr hlocks hS (by decide) (by decide) (Or.inl rfl) dX6_areOne_20 (by simp [b2i, (b2i_1.mp c_5_1), (b2i_0.mp c_12_2)])
    · refine lv_iconst (v := 1) hx hb dX6_areOne_15 (by decide) ?_
      refine lv_goto (tgt := 20) hx hb dX6_areOne_16 (by decide) ?_
      exact kzret hx hb hr hlocks hS (by decide) (by decide) (Or.inr rfl) dX6_areOne_20 (by simp [b2i, (b2i_1.mp c_5_1), (b2i_1.mp c_12_2)])

theorem in_yes {x b : Int32} {n : Nat} (hb : b + 1 = nI n) (hn : n ≤ 1000) (h : ∃ j, j < n ∧ x = nI j) : inB x 0 b = true := by
  cases c : inB x 0 b with
  | true => rfl
  | false => exact absurd h (in_no hb hn c)
def cm_hang (τ : SG) (nW : Nat) (vw vr : Int32) (v : Int32) (τ' : SG) : Prop := (¬ ((∃ j, j < nW ∧ vw = nI j) ∧ (∃ j, j < 12 ∧ vr = nI j)) ∧ τ' = thr τ 1) ∨ (∃ u r, u < nW ∧ vw = nI u ∧ r < 12 ∧ vr = nI r ∧ ¬ τ 18 u / 3 = nI r / 3 ∧ τ' = thr τ 2) ∨ (∃ u r, u < nW ∧ vw = nI u ∧ r < 12 ∧ vr = nI r ∧ τ 18 u / 3 = nI r / 3 ∧ v = thr τ 0 18 u ∧ τ' = up (thr τ 0) 18 u (nI r))
set_option maxHeartbeats 4000000 in
set_option maxRecDepth 100000 in
theorem kR_hang (l : Launch) (G : GE) (A : Nat → Prop) (ad : Nat → Nat) (τ : SG) (vw vr : Int32) (nW : Nat) (hw : τ 16 0 = nI nW) (hnW : nW ≤ 12) : KM l G A yX6_hang cX6_hang 4 (some .int) (rmL 4 0 0) [.ref (ad 30), .int vw, .int vr] (PM G A ad τ) (fun v H => ∃ x τ', v = some (.int x) ∧ PM G A ad τ' H ∧ cm_hang τ nW vw vr x τ') (fun _ _ => False) := by
  refine KM.of (by decide) (Nat.le_of_ble_eq_true rfl) ?_
  intro p e s m args below meth c F hP ls hl
  have hx := F.1.1
  have hb := F.1.2.1
  have hown := F.1.2.2.2.1
  have hts := F.1.2.2.2.2
  have hr := F.2.1
  have hlocks := F.2.2.1
  have hE := F.2.2.2.2.2.1
  have hA := F.2.2.2.2.2.2
  have hS : va_S A s.heap s.heap [] := va_S.rf
  have hl : lv_has ls 4 [(0, .ref (ad 30)), (1, .int vw), (2, .int vr)] := hl
  have hP := hP
  refine lv_aload_n hx hb dX6_hang_0 rfl (lv_at hl 0 rfl) ?_
  refine lv_aload_n hx hb dX6_hang_1 rfl (lv_at hl 0 rfl) ?_
  refine lv_iload_n hx hb dX6_hang_2 rfl (lv_at hl 1 rfl) ?_
  refine lv_iload_n hx hb dX6_hang_3 rfl (lv_at hl 2 rfl) ?_
  refine kcallV (n := 2) F (kM_areOne l G (fun q => s.heap.size ≤ q) A ad τ vw vr) wML_X6_158 wIM_X6_areOne wSE_X6_X6_areOne wIN_X6 wCO_X6_areOne (by decide) rfl ⟨by decide, by decide⟩ (frec F hP.main _ rfl) hS (fun q h => hA q (Nat.le_trans hS.1 h)) (fun q h => h) hP rfl hl.1 (Nat.le_of_ble_eq_true rfl) dX6_hang_4 ⟨by decide, by decide⟩ (fun E ce q9 H1 locs1 hx9 _ _ _ _ _ => hx9.elim) (fun v H1 locs1 hv hk hS => ?_)
  have hP := hP.old hk
  subst hv
  refine lv_if_ne (tgt := 14) hx hb dX6_hang_7 (by decide) (fun c_7_1 => ?_) (fun c_7_1 => ?_)
  · have h1w := Bool.and_eq_true_iff.mp (b2i_1.mp c_7_1)
    obtain ⟨u, hu, rfl⟩ := in_ex (n := nW) (by rw [hw]; exact m1p) (by omega) h1w.1
    obtain ⟨r, hr9, rfl⟩ := in_ex (n := 12) rfl (by decide) h1w.2
    refine lv_aload_n hx hb dX6_hang_14 rfl (lv_at hl 0 rfl) ?_
    refine gX6 F hP.main 18 (by decide) wFL_X6_53 (fun _ h9 => h9) (v := .ref (ad 18)) rfl dX6_hang_15 ?_
    refine lv_iload_n hx hb dX6_hang_18 rfl (lv_at hl 1 rfl) ?_
    refine xiald hx hb hE.1.1 (hP.arr 18 (by decide) (by decide)) 0 rfl (k := u) rfl (show _ < 12 by omega) (by decide) dX6_hang_19 ?_
    refine lv_iconst (v := 3) hx hb dX6_hang_20 (by decide) ?_
    refine lv_idiv hx hb dX6_hang_21 (by decide) ?_
    refine lv_iload_n hx hb dX6_hang_22 rfl (lv_at hl 2 rfl) ?_
    refine lv_iconst (v := 3) hx hb dX6_hang_23 (by decide) ?_
    refine lv_idiv hx hb dX6_hang_24 (by decide) ?_
    refine lv_icmp_eq (tgt := 32) hx hb dX6_hang_25 (by decide) (fun c_25_2 => ?_) (fun c_25_2 => ?_)
    · refine lv_iconst (v := 0) hx hb dX6_hang_32 (by decide) ?_
      refine pX6 F hS hP.main hP.omain 27 (by decide) wFL_X6_81 (fun _ h9 => h9) rfl rfl rfl (by simp) dX6_hang_33 (fun H1 locs1 he1 z1 oq1 hS => ?_)
      have hP : PM G A ad (thr τ 0) H1 := hP.p27 he1 oq1
      refine lv_aload_n hx hb dX6_hang_36 rfl (lv_at hl 0 rfl) ?_
      refine gX6 F hP.main 27 (by decide) wFL_X6_81 (fun _ h9 => h9) (v := .int 0) (by simp [thr, up]) dX6_hang_37 ?_
      refine lv_if_le (tgt := 45) hx hb dX6_hang_40 (by decide) (fun c_40_3 => ?_) (fun c_40_3 => ?_)
      · refine lv_aload_n hx hb dX6_hang_45 rfl (lv_at hl 0 rfl) ?_
        refine gX6 F hP.main 18 (by decide) wFL_X6_53 (fun _ h9 => h9) (v := .ref (ad 18)) rfl dX6_hang_46 ?_
        refine lv_iload_n hx hb dX6_hang_49 rfl (lv_at hl 1 rfl) ?_
        refine xiald hx hb hE.1.1 (hP.arr 18 (by decide) (by decide)) 0 rfl (k := u) rfl (show _ < 12 by omega) (by decide) dX6_hang_50 ?_
        refine lv_istore_n (lv' := [(3, .int ((thr τ 0) 18 u)), (0, .ref (ad 30)), (1, .int (nI u)), (2, .int (nI r))]) hx hb dX6_hang_51 rfl hl (by decide) rfl (fun ls hl => ?_)
        refine lv_aload_n hx hb dX6_hang_52 rfl (lv_at hl 1 rfl) ?_
        refine gX6 F hP.main 18 (by decide) wFL_X6_53 (fun _ h9 => h9) (v := .ref (ad 18)) rfl dX6_hang_53 ?_
        refine lv_iload_n hx hb dX6_hang_56 rfl (lv_at hl 2 rfl) ?_
        refine lv_iload_n hx hb dX6_hang_57 rfl (lv_at hl 3 rfl) ?_
        refine xiast hx hb hE.1.1 hS (hP.arr 18 (by decide) (by decide)) (hP.oarr 18 (by decide)) 0 rfl (k := u) rfl (show _ < 12 by omega) (by decide) dX6_hang_58 (fun H1 locs1 he1 z1 oq1 hS => ?_)
        have hP := hP.parr 18 u (by decide) (by decide) he1 oq1
        refine lv_iload_n hx hb dX6_hang_59 rfl (lv_at hl 0 rfl) ?_
        exact kiret hx hb hr hlocks hS (by decide) (by decide) dX6_hang_60 (⟨_, _, rfl, hP, Or.inr (Or.inr (⟨u, r, hu, rfl, hr9, rfl, c_25_2, rfl, rfl⟩))⟩)
      · exact absurd c_40_3 (by decide)
    · refine lv_iconst (v := 2) hx hb dX6_hang_28 (by decide) ?_
      refine lv_goto (tgt := 33) hx hb dX6_hang_29 (by decide) ?_
      refine pX6 F hS hP.main hP.omain 27 (by decide) wFL_X6_81 (fun _ h9 => h9) rfl rfl rfl (by simp) dX6_hang_33 (fun H1 locs1 he1 z1 oq1 hS => ?_)
      have hP : PM G A ad (thr τ 2) H1 := hP.p27 he1 oq1
      refine lv_aload_n hx hb dX6_hang_36 rfl (lv_at hl 0 rfl) ?_
      refine gX6 F hP.main 27 (by decide) wFL_X6_81 (fun _ h9 => h9) (v := .int 2) (by simp [thr, up]) dX6_hang_37 ?_
      refine lv_if_le (tgt := 45) hx hb dX6_hang_40 (by decide) (fun c_40_4 => ?_) (fun c_40_4 => ?_)
      · exact absurd c_40_4 (by decide)
      · refine lv_iconst (v := 0) hx hb dX6_hang_43 (by decide) ?_
        exact kiret hx hb hr hlocks hS (by decide) (by decide) dX6_hang_44 (⟨_, _, rfl, hP, Or.inr (Or.inl (⟨u, r, hu, rfl, hr9, rfl, c_25_2, rfl⟩))⟩)
  · have no_1 : ¬ ((∃ j, j < nW ∧ vw = nI j) ∧ (∃ j, j < 12 ∧ vr = nI j)) := fun z => by
      have h2w := b2i_0.mp c_7_1
      rw [in_yes (n := nW) (by rw [hw]; exact m1p) (by omega) z.1, in_yes (n := 12) rfl (by decide) z.2] at h2w
      cases h2w
    refine lv_iconst (v := 1) hx hb dX6_hang_10 (by decide) ?_
    refine lv_goto (tgt := 33) hx hb dX6_hang_11 (by decide) ?_
    refine pX6 F hS hP.main hP.omain 27 (by decide) wFL_X6_81 (fun _ h9 => h9) rfl rfl rfl (by simp) dX6_hang_33 (fun H1 locs1 he1 z1 oq1 hS => ?_)
    have hP : PM G A ad (thr τ 1) H1 := hP.p27 he1 oq1
    refine lv_aload_n hx hb dX6_hang_36 rfl (lv_at hl 0 rfl) ?_
    refine gX6 F hP.main 27 (by decide) wFL_X6_81 (fun _ h9 => h9) (v := .int 1) (by simp [thr, up]) dX6_hang_37 ?_
    refine lv_if_le (tgt := 45) hx hb dX6_hang_40 (by decide) (fun c_40_5 => ?_) (fun c_40_5 => ?_)
    · exact absurd c_40_5 (by decide)
    · refine lv_iconst (v := 0) hx hb dX6_hang_43 (by decide) ?_
      exact kiret hx hb hr hlocks hS (by decide) (by decide) dX6_hang_44 (⟨_, _, rfl, hP, Or.inl (⟨no_1, rfl⟩)⟩)

def cm_lend (τ : SG) (nW : Nat) (vw vr vv : Int32) (v : Int32) (τ' : SG) : Prop := (¬ ((∃ j, j < nW ∧ vw = nI j) ∧ (∃ j, j < 12 ∧ vr = nI j)) ∧ τ' = thr τ 1) ∨ (∃ u r, u < nW ∧ vw = nI u ∧ r < 12 ∧ vr = nI r ∧ inB vv 0 1000 = false ∧ τ' = thr τ 2) ∨ (∃ u r, u < nW ∧ vw = nI u ∧ r < 12 ∧ vr = nI r ∧ inB vv 0 1000 = true ∧ ¬ (τ 19 u = 0 ∧ ¬ nI r / 3 = τ 17 u) ∧ τ' = thr τ 3) ∨ (∃ u r, u < nW ∧ vw = nI u ∧ r < 12 ∧ vr = nI r ∧ inB vv 0 1000 = true ∧ (τ 19 u = 0 ∧ ¬ nI r / 3 = τ 17 u) ∧ v = nI r / 3 ∧ τ' = up (up (up (up (thr τ 0) 19 u 1) 18 u (nI r)) 20 u vv) 21 u 0)
set_option maxHeartbeats 4000000 in
set_option maxRecDepth 100000 in
theorem kR_lend (l : Launch) (G : GE) (A : Nat → Prop) (ad : Nat → Nat) (τ : SG) (vw vr vv : Int32) (nW : Nat) (hw : τ 16 0 = nI nW) (hnW : nW ≤ 12) : KM l G A yX6_lend cX6_lend 4 (some .int) (rmL 4 0 0) [.ref (ad 30), .int vw, .int vr, .int vv] (PM G A ad τ) (fun v H => ∃ x τ', v = some (.int x) ∧ PM G A ad τ' H ∧ cm_lend τ nW vw vr vv x τ') (fun _ _ => False) := by
  refine KM.of (by decide) (Nat.le_of_ble_eq_true rfl) ?_
  intro p e s m args below meth c F hP ls hl
  have hx := F.1.1
  have hb := F.1.2.1
  have hown := F.1.2.2.2.1
  have hts := F.1.2.2.2.2
  have hr := F.2.1
  have hlocks := F.2.2.1
  have hE := F.2.2.2.2.2.1
  have hA := F.2.2.2.2.2.2
  have hS : va_S A s.heap s.heap [] := va_S.rf
  have hl : lv_has ls 4 [(0, .ref (ad 30)), (1, .int vw), (2, .int vr), (3, .int vv)] := hl
  have hP := hP
  refine lv_aload_n hx hb dX6_lend_0 rfl (lv_at hl 0 rfl) ?_
  refine lv_aload_n hx hb dX6_lend_1 rfl (lv_at hl 0 rfl) ?_
  refine lv_iload_n hx hb dX6_lend_2 rfl (lv_at hl 1 rfl) ?_
  refine lv_iload_n hx hb dX6_lend_3 rfl (lv_at hl 2 rfl) ?_
  refine kcallV (n := 2) F (kM_areOne l G (fun q => s.heap.size ≤ q) A ad τ vw vr) wML_X6_158 wIM_X6_areOne wSE_X6_X6_areOne wIN_X6 wCO_X6_areOne (by decide) rfl ⟨by decide, by decide⟩ (frec F hP.main _ rfl) hS (fun q h => hA q (Nat.le_trans hS.1 h)) (fun q h => h) hP rfl hl.1 (Nat.le_of_ble_eq_true rfl) dX6_lend_4 ⟨by decide, by decide⟩ (fun E ce q9 H1 locs1 hx9 _ _ _ _ _ => hx9.elim) (fun v H1 locs1 hv hk hS => ?_)
  have hP := hP.old hk
  subst hv
  refine lv_if_ne (tgt := 14) hx hb dX6_lend_7 (by decide) (fun c_7_1 => ?_) (fun c_7_1 => ?_)
  · have h1w := Bool.and_eq_true_iff.mp (b2i_1.mp c_7_1)
    obtain ⟨u, hu, rfl⟩ := in_ex (n := nW) (by rw [hw]; exact m1p) (by omega) h1w.1
    obtain ⟨r, hr9, rfl⟩ := in_ex (n := 12) rfl (by decide) h1w.2
    refine lv_iload_n hx hb dX6_lend_14 rfl (lv_at hl 3 rfl) ?_
    refine lv_iconst (v := 0) hx hb dX6_lend_15 (by decide) ?_
    refine lv_sipush (v := 1000) hx hb dX6_lend_16 (by decide) ?_
    refine kcallS (n := 3) F (kM_in l G (fun q => H1.size ≤ q) vv 0 1000) wML_X6_84 wST_X6_in wIN_X6 wCO_X6_in (by decide) rfl ⟨by decide, by decide⟩ hS (fun q h => hA q (Nat.le_trans hS.1 h)) (fun q h => h) trivial rfl hl.1 (Nat.le_of_ble_eq_true rfl) dX6_lend_19 ⟨by decide, by decide⟩ (fun E ce q9 H1 locs1 hx9 _ _ _ _ _ => hx9.elim) (fun v H1 locs1 hv hk hS => ?_)
    have hP := hP.old hk
    subst hv
    refine lv_if_ne (tgt := 29) hx hb dX6_lend_22 (by decide) (fun c_22_2 => ?_) (fun c_22_2 => ?_)
    · have hin := b2i_1.mp c_22_2
      refine lv_aload_n hx hb dX6_lend_29 rfl (lv_at hl 0 rfl) ?_
      refine gX6 F hP.main 19 (by decide) wFL_X6_56 (fun _ h9 => h9) (v := .ref (ad 19)) rfl dX6_lend_30 ?_
      refine lv_iload_n hx hb dX6_lend_33 rfl (lv_at hl 1 rfl) ?_
      refine xzald hx hb hE.1.1 (hP.arr 19 (by decide) (by decide)) 1 rfl (k := u) rfl (show _ < 12 by omega) (by decide) dX6_lend_34 ?_
      refine lv_if_ne (tgt := 50) hx hb dX6_lend_35 (by decide) (fun c_35_3 => ?_) (fun c_35_3 => ?_)
      · refine lv_iconst (v := 3) hx hb dX6_lend_50 (by decide) ?_
        refine lv_goto (tgt := 55) hx hb dX6_lend_51 (by decide) ?_
        refine pX6 F hS hP.main hP.omain 27 (by decide) wFL_X6_81 (fun _ h9 => h9) rfl rfl rfl (by simp) dX6_lend_55 (fun H1 locs1 he1 z1 oq1 hS => ?_)
        have hP : PM G A ad (thr τ 3) H1 := hP.p27 he1 oq1
        refine lv_aload_n hx hb dX6_lend_58 rfl (lv_at hl 0 rfl) ?_
        refine gX6 F hP.main 27 (by decide) wFL_X6_81 (fun _ h9 => h9) (v := .int 3) (by simp [thr, up]) dX6_lend_59 ?_
        refine lv_if_le (tgt := 67) hx hb dX6_lend_62 (by decide) (fun c_62_4 => ?_) (fun c_62_4 => ?_)
        · exact absurd c_62_4 (by decide)
        · refine lv_iconst (v := 0) hx hb dX6_lend_65 (by decide) ?_
          exact kiret hx hb hr hlocks hS (by decide) (by decide) dX6_lend_66 (⟨_, _, rfl, hP, Or.inr (Or.inr (Or.inl (⟨u, r, hu, rfl, hr9, rfl, hin, fun z => c_35_3 z.1, rfl⟩)))⟩)
      · refine lv_iload_n hx hb dX6_lend_38 rfl (lv_at hl 2 rfl) ?_
        refine lv_iconst (v := 3) hx hb dX6_lend_39 (by decide) ?_
        refine lv_idiv hx hb dX6_lend_40 (by decide) ?_
        refine lv_aload_n hx hb dX6_lend_41 rfl (lv_at hl 0 rfl) ?_
        refine gX6 F hP.main 17 (by decide) wFL_X6_50 (fun _ h9 => h9) (v := .ref (ad 17)) rfl dX6_lend_42 ?_
        refine lv_iload_n hx hb dX6_lend_45 rfl (lv_at hl 1 rfl) ?_
        refine xiald hx hb hE.1.1 (hP.arr 17 (by decide) (by decide)) 0 rfl (k := u) rfl (show _ < 12 by omega) (by decide) dX6_lend_46 ?_
        refine lv_icmp_ne (tgt := 54) hx hb dX6_lend_47 (by decide) (fun c_47_5 => ?_) (fun c_47_5 => ?_)
        · refine lv_iconst (v := 0) hx hb dX6_lend_54 (by decide) ?_
          refine pX6 F hS hP.main hP.omain 27 (by decide) wFL_X6_81 (fun _ h9 => h9) rfl rfl rfl (by simp) dX6_lend_55 (fun H1 locs1 he1 z1 oq1 hS => ?_)
          have hP : PM G A ad (thr τ 0) H1 := hP.p27 he1 oq1
          refine lv_aload_n hx hb dX6_lend_58 rfl (lv_at hl 0 rfl) ?_
          refine gX6 F hP.main 27 (by decide) wFL_X6_81 (fun _ h9 => h9) (v := .int 0) (by simp [thr, up]) dX6_lend_59 ?_
          refine lv_if_le (tgt := 67) hx hb dX6_lend_62 (by decide) (fun c_62_6 => ?_) (fun c_62_6 => ?_)
          · refine lv_aload_n hx hb dX6_lend_67 rfl (lv_at hl 0 rfl) ?_
            refine gX6 F hP.main 19 (by decide) wFL_X6_56 (fun _ h9 => h9) (v := .ref (ad 19)) rfl dX6_lend_68 ?_
            refine lv_iload_n hx hb dX6_lend_71 rfl (lv_at hl 1 rfl) ?_
            refine lv_iconst (v := 1) hx hb dX6_lend_72 (by decide) ?_
            refine xzast hx hb hE.1.1 hS (hP.arr 19 (by decide) (by decide)) (hP.oarr 19 (by decide)) 1 rfl (k := u) rfl (show _ < 12 by omega) (by decide) (Or.inr rfl) dX6_lend_73 (fun H1 locs1 he1 z1 oq1 hS => ?_)
            have hP := hP.parr 19 u (by decide) (by decide) he1 oq1
            refine lv_aload_n hx hb dX6_lend_74 rfl (lv_at hl 0 rfl) ?_
            refine gX6 F hP.main 18 (by decide) wFL_X6_53 (fun _ h9 => h9) (v := .ref (ad 18)) rfl dX6_lend_75 ?_
            refine lv_iload_n hx hb dX6_lend_78 rfl (lv_at hl 1 rfl) ?_
            refine lv_iload_n hx hb dX6_lend_79 rfl (lv_at hl 2 rfl) ?_
            refine xiast hx hb hE.1.1 hS (hP.arr 18 (by decide) (by decide)) (hP.oarr 18 (by decide)) 0 rfl (k := u) rfl (show _ < 12 by omega) (by decide) dX6_lend_80 (fun H1 locs1 he1 z1 oq1 hS => ?_)
            have hP := hP.parr 18 u (by decide) (by decide) he1 oq1
            refine lv_aload_n hx hb dX6_lend_81 rfl (lv_at hl 0 rfl) ?_
            refine gX6 F hP.main 20 (by decide) wFL_X6_59 (fun _ h9 => h9) (v := .ref (ad 20)) rfl dX6_lend_82 ?_
            refine lv_iload_n hx hb dX6_lend_85 rfl (lv_at hl 1 rfl) ?_
            refine lv_iload_n hx hb dX6_lend_86 rfl (lv_at hl 3 rfl) ?_
            refine xiast hx hb hE.1.1 hS (hP.arr 20 (by decide) (by decide)) (hP.oarr 20 (by decide)) 0 rfl (k := u) rfl (show _ < 12 by omega) (by decide) dX6_lend_87 (fun H1 locs1 he1 z1 oq1 hS => ?_)
            have hP := hP.parr 20 u (by decide) (by decide) he1 oq1
            refine lv_aload_n hx hb dX6_lend_88 rfl (lv_at hl 0 rfl) ?_
            refine gX6 F hP.main 21 (by decide) wFL_X6_62 (fun _ h9 => h9) (v := .ref (ad 21)) rfl dX6_lend_89 ?_
            refine lv_iload_n hx hb dX6_lend_92 rfl (lv_at hl 1 rfl) ?_
            refine lv_iconst (v := 0) hx hb dX6_lend_93 (by decide) ?_
            refine xiast hx hb hE.1.1 hS (hP.arr 21 (by decide) (by decide)) (hP.oarr 21 (by decide)) 0 rfl (k := u) rfl (show _ < 12 by omega) (by decide) dX6_lend_94 (fun H1 locs1 he1 z1 oq1 hS => ?_)
            have hP := hP.parr 21 u (by decide) (by decide) he1 oq1
            refine lv_iload_n hx hb dX6_lend_95 rfl (lv_at hl 2 rfl) ?_
            refine lv_iconst (v := 3) hx hb dX6_lend_96 (by decide) ?_
            refine lv_idiv hx hb dX6_lend_97 (by decide) ?_
            exact kiret hx hb hr hlocks hS (by decide) (by decide) dX6_lend_98 (⟨_, _, rfl, hP, Or.inr (Or.inr (Or.inr (⟨u, r, hu, rfl, hr9, rfl, hin, ⟨c_35_3, c_47_5⟩, rfl, rfl⟩)))⟩)
          · exact absurd c_62_6 (by decide)
        · refine lv_iconst (v := 3) hx hb dX6_lend_50 (by decide) ?_
          refine lv_goto (tgt := 55) hx hb dX6_lend_51 (by decide) ?_
          refine pX6 F hS hP.main hP.omain 27 (by decide) wFL_X6_81 (fun _ h9 => h9) rfl rfl rfl (by simp) dX6_lend_55 (fun H1 locs1 he1 z1 oq1 hS => ?_)
          have hP : PM G A ad (thr τ 3) H1 := hP.p27 he1 oq1
          refine lv_aload_n hx hb dX6_lend_58 rfl (lv_at hl 0 rfl) ?_
          refine gX6 F hP.main 27 (by decide) wFL_X6_81 (fun _ h9 => h9) (v := .int 3) (by simp [thr, up]) dX6_lend_59 ?_
          refine lv_if_le (tgt := 67) hx hb dX6_lend_62 (by decide) (fun c_62_7 => ?_) (fun c_62_7 => ?_)
          · exact absurd c_62_7 (by decide)
          · refine lv_iconst (v := 0) hx hb dX6_lend_65 (by decide) ?_
            exact kiret hx hb hr hlocks hS (by decide) (by decide) dX6_lend_66 (⟨_, _, rfl, hP, Or.inr (Or.inr (Or.inl (⟨u, r, hu, rfl, hr9, rfl, hin, fun z => z.2 c_47_5, rfl⟩)))⟩)
    · have hin := b2i_0.mp c_22_2
      refine lv_iconst (v := 2) hx hb dX6_lend_25 (by decide) ?_
      refine lv_goto (tgt := 55) hx hb dX6_lend_26 (by decide) ?_
      refine pX6 F hS hP.main hP.omain 27 (by decide) wFL_X6_81 (fun _ h9 => h9) rfl rfl rfl (by simp) dX6_lend_55 (fun H1 locs1 he1 z1 oq1 hS => ?_)
      have hP : PM G A ad (thr τ 2) H1 := hP.p27 he1 oq1
      refine lv_aload_n hx hb dX6_lend_58 rfl (lv_at hl 0 rfl) ?_
      refine gX6 F hP.main 27 (by decide) wFL_X6_81 (fun _ h9 => h9) (v := .int 2) (by simp [thr, up]) dX6_lend_59 ?_
      refine lv_if_le (tgt := 67) hx hb dX6_lend_62 (by decide) (fun c_62_8 => ?_) (fun c_62_8 => ?_)
      · exact absurd c_62_8 (by decide)
      · refine lv_iconst (v := 0) hx hb dX6_lend_65 (by decide) ?_
        exact kiret hx hb hr hlocks hS (by decide) (by decide) dX6_lend_66 (⟨_, _, rfl, hP, Or.inr (Or.inl (⟨u, r, hu, rfl, hr9, rfl, hin, rfl⟩))⟩)
  · have no_1 : ¬ ((∃ j, j < nW ∧ vw = nI j) ∧ (∃ j, j < 12 ∧ vr = nI j)) := fun z => by
      have h2w := b2i_0.mp c_7_1
      rw [in_yes (n := nW) (by rw [hw]; exact m1p) (by omega) z.1, in_yes (n := 12) rfl (by decide) z.2] at h2w
      cases h2w
    refine lv_iconst (v := 1) hx hb dX6_lend_10 (by decide) ?_
    refine lv_goto (tgt := 55) hx hb dX6_lend_11 (by decide) ?_
    refine pX6 F hS hP.main hP.omain 27 (by decide) wFL_X6_81 (fun _ h9 => h9) rfl rfl rfl (by simp) dX6_lend_55 (fun H1 locs1 he1 z1 oq1 hS => ?_)
    have hP : PM G A ad (thr τ 1) H1 := hP.p27 he1 oq1
    refine lv_aload_n hx hb dX6_lend_58 rfl (lv_at hl 0 rfl) ?_
    refine gX6 F hP.main 27 (by decide) wFL_X6_81 (fun _ h9 => h9) (v := .int 1) (by simp [thr, up]) dX6_lend_59 ?_
    refine lv_if_le (tgt := 67) hx hb dX6_lend_62 (by decide) (fun c_62_9 => ?_) (fun c_62_9 => ?_)
    · exact absurd c_62_9 (by decide)
    · refine lv_iconst (v := 0) hx hb dX6_lend_65 (by decide) ?_
      exact kiret hx hb hr hlocks hS (by decide) (by decide) dX6_lend_66 (⟨_, _, rfl, hP, Or.inl (⟨no_1, rfl⟩)⟩)

def cm_bringHome (τ : SG) (nW : Nat) (vw vr : Int32) (v : Int32) (τ' : SG) : Prop := (¬ ((∃ j, j < nW ∧ vw = nI j) ∧ (∃ j, j < 12 ∧ vr = nI j)) ∧ τ' = thr τ 1) ∨ (∃ u r, u < nW ∧ vw = nI u ∧ r < 12 ∧ vr = nI r ∧ ¬ (¬ τ 19 u = 0 ∧ nI r / 3 = τ 17 u) ∧ τ' = thr τ 2) ∨ (∃ u r, u < nW ∧ vw = nI u ∧ r < 12 ∧ vr = nI r ∧ (¬ τ 19 u = 0 ∧ nI r / 3 = τ 17 u) ∧ v = thr τ 0 21 u ∧ τ' = up (up (thr τ 0) 19 u 0) 18 u (nI r))
set_option maxHeartbeats 4000000 in
set_option maxRecDepth 100000 in
theorem kR_bringHome (l : Launch) (G : GE) (A : Nat → Prop) (ad : Nat → Nat) (τ : SG) (vw vr : Int32) (nW : Nat) (hw : τ 16 0 = nI nW) (hnW : nW ≤ 12) : KM l G A yX6_bringHome cX6_bringHome 3 (some .int) (rmL 4 0 0) [.ref (ad 30), .int vw, .int vr] (PM G A ad τ) (fun v H => ∃ x τ', v = some (.int x) ∧ PM G A ad τ' H ∧ cm_bringHome τ nW vw vr x τ') (fun _ _ => False) := by
  refine KM.of (by decide) (Nat.le_of_ble_eq_true rfl) ?_
  intro p e s m args below meth c F hP ls hl
  have hx := F.1.1
  have hb := F.1.2.1
  have hown := F.1.2.2.2.1
  have hts := F.1.2.2.2.2
  have hr := F.2.1
  have hlocks := F.2.2.1
  have hE := F.2.2.2.2.2.1
  have hA := F.2.2.2.2.2.2
  have hS : va_S A s.heap s.heap [] := va_S.rf
  have hl : lv_has ls 3 [(0, .ref (ad 30)), (1, .int vw), (2, .int vr)] := hl
  have hP := hP
  refine lv_aload_n hx hb dX6_bringHome_0 rfl (lv_at hl 0 rfl) ?_
  refine lv_aload_n hx hb dX6_bringHome_1 rfl (lv_at hl 0 rfl) ?_
  refine lv_iload_n hx hb dX6_bringHome_2 rfl (lv_at hl 1 rfl) ?_
  refine lv_iload_n hx hb dX6_bringHome_3 rfl (lv_at hl 2 rfl) ?_
  refine kcallV (n := 2) F (kM_areOne l G (fun q => s.heap.size ≤ q) A ad τ vw vr) wML_X6_158 wIM_X6_areOne wSE_X6_X6_areOne wIN_X6 wCO_X6_areOne (by decide) rfl ⟨by decide, by decide⟩ (frec F hP.main _ rfl) hS (fun q h => hA q (Nat.le_trans hS.1 h)) (fun q h => h) hP rfl hl.1 (Nat.le_of_ble_eq_true rfl) dX6_bringHome_4 ⟨by decide, by decide⟩ (fun E ce q9 H1 locs1 hx9 _ _ _ _ _ => hx9.elim) (fun v H1 locs1 hv hk hS => ?_)
  have hP := hP.old hk
  subst hv
  refine lv_if_ne (tgt := 14) hx hb dX6_bringHome_7 (by decide) (fun c_7_1 => ?_) (fun c_7_1 => ?_)
  · have h1w := Bool.and_eq_true_iff.mp (b2i_1.mp c_7_1)
    obtain ⟨u, hu, rfl⟩ := in_ex (n := nW) (by rw [hw]; exact m1p) (by omega) h1w.1
    obtain ⟨r, hr9, rfl⟩ := in_ex (n := 12) rfl (by decide) h1w.2
    refine lv_aload_n hx hb dX6_bringHome_14 rfl (lv_at hl 0 rfl) ?_
    refine gX6 F hP.main 19 (by decide) wFL_X6_56 (fun _ h9 => h9) (v := .ref (ad 19)) rfl dX6_bringHome_15 ?_
    refine lv_iload_n hx hb dX6_bringHome_18 rfl (lv_at hl 1 rfl) ?_
    refine xzald hx hb hE.1.1 (hP.arr 19 (by decide) (by decide)) 1 rfl (k := u) rfl (show _ < 12 by omega) (by decide) dX6_bringHome_19 ?_
    refine lv_if_eq (tgt := 35) hx hb dX6_bringHome_20 (by decide) (fun c_20_2 => ?_) (fun c_20_2 => ?_)
    · refine lv_iconst (v := 2) hx hb dX6_bringHome_35 (by decide) ?_
      refine lv_goto (tgt := 40) hx hb dX6_bringHome_36 (by decide) ?_
      refine pX6 F hS hP.main hP.omain 27 (by decide) wFL_X6_81 (fun _ h9 => h9) rfl rfl rfl (by simp) dX6_bringHome_40 (fun H1 locs1 he1 z1 oq1 hS => ?_)
      have hP : PM G A ad (thr τ 2) H1 := hP.p27 he1 oq1
      refine lv_aload_n hx hb dX6_bringHome_43 rfl (lv_at hl 0 rfl) ?_
      refine gX6 F hP.main 27 (by decide) wFL_X6_81 (fun _ h9 => h9) (v := .int 2) (by simp [thr, up]) dX6_bringHome_44 ?_
      refine lv_if_le (tgt := 52) hx hb dX6_bringHome_47 (by decide) (fun c_47_3 => ?_) (fun c_47_3 => ?_)
      · exact absurd c_47_3 (by decide)
      · refine lv_iconst (v := 0) hx hb dX6_bringHome_50 (by decide) ?_
        exact kiret hx hb hr hlocks hS (by decide) (by decide) dX6_bringHome_51 (⟨_, _, rfl, hP, Or.inr (Or.inl (⟨u, r, hu, rfl, hr9, rfl, fun z => z.1 c_20_2, rfl⟩))⟩)
    · refine lv_iload_n hx hb dX6_bringHome_23 rfl (lv_at hl 2 rfl) ?_
      refine lv_iconst (v := 3) hx hb dX6_bringHome_24 (by decide) ?_
      refine lv_idiv hx hb dX6_bringHome_25 (by decide) ?_
      refine lv_aload_n hx hb dX6_bringHome_26 rfl (lv_at hl 0 rfl) ?_
      refine gX6 F hP.main 17 (by decide) wFL_X6_50 (fun _ h9 => h9) (v := .ref (ad 17)) rfl dX6_bringHome_27 ?_
      refine lv_iload_n hx hb dX6_bringHome_30 rfl (lv_at hl 1 rfl) ?_
      refine xiald hx hb hE.1.1 (hP.arr 17 (by decide) (by decide)) 0 rfl (k := u) rfl (show _ < 12 by omega) (by decide) dX6_bringHome_31 ?_
      refine lv_icmp_eq (tgt := 39) hx hb dX6_bringHome_32 (by decide) (fun c_32_4 => ?_) (fun c_32_4 => ?_)
      · refine lv_iconst (v := 0) hx hb dX6_bringHome_39 (by decide) ?_
        refine pX6 F hS hP.main hP.omain 27 (by decide) wFL_X6_81 (fun _ h9 => h9) rfl rfl rfl (by simp) dX6_bringHome_40 (fun H1 locs1 he1 z1 oq1 hS => ?_)
        have hP : PM G A ad (thr τ 0) H1 := hP.p27 he1 oq1
        refine lv_aload_n hx hb dX6_bringHome_43 rfl (lv_at hl 0 rfl) ?_
        refine gX6 F hP.main 27 (by decide) wFL_X6_81 (fun _ h9 => h9) (v := .int 0) (by simp [thr, up]) dX6_bringHome_44 ?_
        refine lv_if_le (tgt := 52) hx hb dX6_bringHome_47 (by decide) (fun c_47_5 => ?_) (fun c_47_5 => ?_)
        · refine lv_aload_n hx hb dX6_bringHome_52 rfl (lv_at hl 0 rfl) ?_
          refine gX6 F hP.main 19 (by decide) wFL_X6_56 (fun _ h9 => h9) (v := .ref (ad 19)) rfl dX6_bringHome_53 ?_
          refine lv_iload_n hx hb dX6_bringHome_56 rfl (lv_at hl 1 rfl) ?_
          refine lv_iconst (v := 0) hx hb dX6_bringHome_57 (by decide) ?_
          refine xzast hx hb hE.1.1 hS (hP.arr 19 (by decide) (by decide)) (hP.oarr 19 (by decide)) 1 rfl (k := u) rfl (show _ < 12 by omega) (by decide) (Or.inl rfl) dX6_bringHome_58 (fun H1 locs1 he1 z1 oq1 hS => ?_)
          have hP := hP.parr 19 u (by decide) (by decide) he1 oq1
          refine lv_aload_n hx hb dX6_bringHome_59 rfl (lv_at hl 0 rfl) ?_
          refine gX6 F hP.main 18 (by decide) wFL_X6_53 (fun _ h9 => h9) (v := .ref (ad 18)) rfl dX6_bringHome_60 ?_
          refine lv_iload_n hx hb dX6_bringHome_63 rfl (lv_at hl 1 rfl) ?_
          refine lv_iload_n hx hb dX6_bringHome_64 rfl (lv_at hl 2 rfl) ?_
          refine xiast hx hb hE.1.1 hS (hP.arr 18 (by decide) (by decide)) (hP.oarr 18 (by decide)) 0 rfl (k := u) rfl (show _ < 12 by omega) (by decide) dX6_bringHome_65 (fun H1 locs1 he1 z1 oq1 hS => ?_)
          have hP := hP.parr 18 u (by decide) (by decide) he1 oq1
          refine lv_aload_n hx hb dX6_bringHome_66 rfl (lv_at hl 0 rfl) ?_
          refine gX6 F hP.main 21 (by decide) wFL_X6_62 (fun _ h9 => h9) (v := .ref (ad 21)) rfl dX6_bringHome_67 ?_
          refine lv_iload_n hx hb dX6_bringHome_70 rfl (lv_at hl 1 rfl) ?_
          refine xiald hx hb hE.1.1 (hP.arr 21 (by decide) (by decide)) 0 rfl (k := u) rfl (show _ < 12 by omega) (by decide) dX6_bringHome_71 ?_
          rw [show (up (up (thr τ 0) 19 u 0) 18 u (nI r)) 21 u = (thr τ 0) 21 u from by simp [up]]
          exact kiret hx hb hr hlocks hS (by decide) (by decide) dX6_bringHome_72 (⟨_, _, rfl, hP, Or.inr (Or.inr (⟨u, r, hu, rfl, hr9, rfl, ⟨c_20_2, c_32_4⟩, rfl, rfl⟩))⟩)
        · exact absurd c_47_5 (by decide)
      · refine lv_iconst (v := 2) hx hb dX6_bringHome_35 (by decide) ?_
        refine lv_goto (tgt := 40) hx hb dX6_bringHome_36 (by decide) ?_
        refine pX6 F hS hP.main hP.omain 27 (by decide) wFL_X6_81 (fun _ h9 => h9) rfl rfl rfl (by simp) dX6_bringHome_40 (fun H1 locs1 he1 z1 oq1 hS => ?_)
        have hP : PM G A ad (thr τ 2) H1 := hP.p27 he1 oq1
        refine lv_aload_n hx hb dX6_bringHome_43 rfl (lv_at hl 0 rfl) ?_
        refine gX6 F hP.main 27 (by decide) wFL_X6_81 (fun _ h9 => h9) (v := .int 2) (by simp [thr, up]) dX6_bringHome_44 ?_
        refine lv_if_le (tgt := 52) hx hb dX6_bringHome_47 (by decide) (fun c_47_6 => ?_) (fun c_47_6 => ?_)
        · exact absurd c_47_6 (by decide)
        · refine lv_iconst (v := 0) hx hb dX6_bringHome_50 (by decide) ?_
          exact kiret hx hb hr hlocks hS (by decide) (by decide) dX6_bringHome_51 (⟨_, _, rfl, hP, Or.inr (Or.inl (⟨u, r, hu, rfl, hr9, rfl, fun z => c_32_4 z.2, rfl⟩))⟩)
  · have no_1 : ¬ ((∃ j, j < nW ∧ vw = nI j) ∧ (∃ j, j < 12 ∧ vr = nI j)) := fun z => by
      have h2w := b2i_0.mp c_7_1
      rw [in_yes (n := nW) (by rw [hw]; exact m1p) (by omega) z.1, in_yes (n := 12) rfl (by decide) z.2] at h2w
      cases h2w
    refine lv_iconst (v := 1) hx hb dX6_bringHome_10 (by decide) ?_
    refine lv_goto (tgt := 40) hx hb dX6_bringHome_11 (by decide) ?_
    refine pX6 F hS hP.main hP.omain 27 (by decide) wFL_X6_81 (fun _ h9 => h9) rfl rfl rfl (by simp) dX6_bringHome_40 (fun H1 locs1 he1 z1 oq1 hS => ?_)
    have hP : PM G A ad (thr τ 1) H1 := hP.p27 he1 oq1
    refine lv_aload_n hx hb dX6_bringHome_43 rfl (lv_at hl 0 rfl) ?_
    refine gX6 F hP.main 27 (by decide) wFL_X6_81 (fun _ h9 => h9) (v := .int 1) (by simp [thr, up]) dX6_bringHome_44 ?_
    refine lv_if_le (tgt := 52) hx hb dX6_bringHome_47 (by decide) (fun c_47_7 => ?_) (fun c_47_7 => ?_)
    · exact absurd c_47_7 (by decide)
    · refine lv_iconst (v := 0) hx hb dX6_bringHome_50 (by decide) ?_
      exact kiret hx hb hr hlocks hS (by decide) (by decide) dX6_bringHome_51 (⟨_, _, rfl, hP, Or.inl (⟨no_1, rfl⟩)⟩)

def cm_setShare (τ : SG) (nW : Nat) (vw vv : Int32) (v : Int32) (τ' : SG) : Prop := (¬ (∃ j, j < nW ∧ vw = nI j) ∧ τ' = thr τ 1) ∨ ((∃ j, j < nW ∧ vw = nI j) ∧ inB vv 0 100 = false ∧ τ' = thr τ 2) ∨ (∃ u, u < nW ∧ vw = nI u ∧ inB vv 0 100 = true ∧ v = thr τ 0 22 u ∧ τ' = up (thr τ 0) 22 u vv)
set_option maxHeartbeats 4000000 in
set_option maxRecDepth 100000 in
theorem kR_setShare (l : Launch) (G : GE) (A : Nat → Prop) (ad : Nat → Nat) (τ : SG) (vw vv : Int32) (nW : Nat) (hw : τ 16 0 = nI nW) (hnW : nW ≤ 12) : KM l G A yX6_setShare cX6_setShare 4 (some .int) (rmL 3 0 0) [.ref (ad 30), .int vw, .int vv] (PM G A ad τ) (fun v H => ∃ x τ', v = some (.int x) ∧ PM G A ad τ' H ∧ cm_setShare τ nW vw vv x τ') (fun _ _ => False) := by
  refine KM.of (by decide) (Nat.le_of_ble_eq_true rfl) ?_
  intro p e s m args below meth c F hP ls hl
  have hx := F.1.1
  have hb := F.1.2.1
  have hown := F.1.2.2.2.1
  have hts := F.1.2.2.2.2
  have hr := F.2.1
  have hlocks := F.2.2.1
  have hE := F.2.2.2.2.2.1
  have hA := F.2.2.2.2.2.2
  have hS : va_S A s.heap s.heap [] := va_S.rf
  have hl : lv_has ls 4 [(0, .ref (ad 30)), (1, .int vw), (2, .int vv)] := hl
  have hP := hP
  refine lv_aload_n hx hb dX6_setShare_0 rfl (lv_at hl 0 rfl) ?_
  refine lv_aload_n hx hb dX6_setShare_1 rfl (lv_at hl 0 rfl) ?_
  refine lv_iload_n hx hb dX6_setShare_2 rfl (lv_at hl 1 rfl) ?_
  refine kcallV (n := 1) F (kM_isWork l G (fun q => s.heap.size ≤ q) A ad τ vw) wML_X6_155 wIM_X6_isWork wSE_X6_X6_isWork wIN_X6 wCO_X6_isWork (by decide) rfl ⟨by decide, by decide⟩ (frec F hP.main _ rfl) hS (fun q h => hA q (Nat.le_trans hS.1 h)) (fun q h => h) hP rfl hl.1 (Nat.le_of_ble_eq_true rfl) dX6_setShare_3 ⟨by decide, by decide⟩ (fun E ce q9 H1 locs1 hx9 _ _ _ _ _ => hx9.elim) (fun v H1 locs1 hv hk hS => ?_)
  have hP := hP.old hk
  subst hv
  refine lv_if_ne (tgt := 13) hx hb dX6_setShare_6 (by decide) (fun c_6_1 => ?_) (fun c_6_1 => ?_)
  · obtain ⟨u, hu, rfl⟩ := in_ex (n := nW) (by rw [hw]; exact m1p) (by omega) (b2i_1.mp c_6_1)
    refine lv_iload_n hx hb dX6_setShare_13 rfl (lv_at hl 2 rfl) ?_
    refine lv_iconst (v := 0) hx hb dX6_setShare_14 (by decide) ?_
    refine lv_bipush (v := 100) hx hb dX6_setShare_15 (by decide) ?_
    refine kcallS (n := 3) F (kM_in l G (fun q => H1.size ≤ q) vv 0 100) wML_X6_84 wST_X6_in wIN_X6 wCO_X6_in (by decide) rfl ⟨by decide, by decide⟩ hS (fun q h => hA q (Nat.le_trans hS.1 h)) (fun q h => h) trivial rfl hl.1 (Nat.le_of_ble_eq_true rfl) dX6_setShare_17 ⟨by decide, by decide⟩ (fun E ce q9 H1 locs1 hx9 _ _ _ _ _ => hx9.elim) (fun v H1 locs1 hv hk hS => ?_)
    have hP := hP.old hk
    subst hv
    refine lv_if_ne (tgt := 27) hx hb dX6_setShare_20 (by decide) (fun c_20_2 => ?_) (fun c_20_2 => ?_)
    · have hin := b2i_1.mp c_20_2
      refine lv_iconst (v := 0) hx hb dX6_setShare_27 (by decide) ?_
      refine pX6 F hS hP.main hP.omain 27 (by decide) wFL_X6_81 (fun _ h9 => h9) rfl rfl rfl (by simp) dX6_setShare_28 (fun H1 locs1 he1 z1 oq1 hS => ?_)
      have hP : PM G A ad (thr τ 0) H1 := hP.p27 he1 oq1
      refine lv_aload_n hx hb dX6_setShare_31 rfl (lv_at hl 0 rfl) ?_
      refine gX6 F hP.main 27 (by decide) wFL_X6_81 (fun _ h9 => h9) (v := .int 0) (by simp [thr, up]) dX6_setShare_32 ?_
      refine lv_if_le (tgt := 40) hx hb dX6_setShare_35 (by decide) (fun c_35_3 => ?_) (fun c_35_3 => ?_)
      · refine lv_aload_n hx hb dX6_setShare_40 rfl (lv_at hl 0 rfl) ?_
        refine gX6 F hP.main 22 (by decide) wFL_X6_65 (fun _ h9 => h9) (v := .ref (ad 22)) rfl dX6_setShare_41 ?_
        refine lv_iload_n hx hb dX6_setShare_44 rfl (lv_at hl 1 rfl) ?_
        refine xiald hx hb hE.1.1 (hP.arr 22 (by decide) (by decide)) 0 rfl (k := u) rfl (show _ < 12 by omega) (by decide) dX6_setShare_45 ?_
        refine lv_istore_n (lv' := [(3, .int ((thr τ 0) 22 u)), (0, .ref (ad 30)), (1, .int (nI u)), (2, .int vv)]) hx hb dX6_setShare_46 rfl hl (by decide) rfl (fun ls hl => ?_)
        refine lv_aload_n hx hb dX6_setShare_47 rfl (lv_at hl 1 rfl) ?_
        refine gX6 F hP.main 22 (by decide) wFL_X6_65 (fun _ h9 => h9) (v := .ref (ad 22)) rfl dX6_setShare_48 ?_
        refine lv_iload_n hx hb dX6_setShare_51 rfl (lv_at hl 2 rfl) ?_
        refine lv_iload_n hx hb dX6_setShare_52 rfl (lv_at hl 3 rfl) ?_
        refine xiast hx hb hE.1.1 hS (hP.arr 22 (by decide) (by decide)) (hP.oarr 22 (by decide)) 0 rfl (k := u) rfl (show _ < 12 by omega) (by decide) dX6_setShare_53 (fun H1 locs1 he1 z1 oq1 hS => ?_)
        have hP := hP.parr 22 u (by decide) (by decide) he1 oq1
        refine lv_iload_n hx hb dX6_setShare_54 rfl (lv_at hl 0 rfl) ?_
        exact kiret hx hb hr hlocks hS (by decide) (by decide) dX6_setShare_55 (⟨_, _, rfl, hP, Or.inr (Or.inr (⟨u, hu, rfl, hin, rfl, rfl⟩))⟩)
      · exact absurd c_35_3 (by decide)
    · have hin := b2i_0.mp c_20_2
      refine lv_iconst (v := 2) hx hb dX6_setShare_23 (by decide) ?_
      refine lv_goto (tgt := 28) hx hb dX6_setShare_24 (by decide) ?_
      refine pX6 F hS hP.main hP.omain 27 (by decide) wFL_X6_81 (fun _ h9 => h9) rfl rfl rfl (by simp) dX6_setShare_28 (fun H1 locs1 he1 z1 oq1 hS => ?_)
      have hP : PM G A ad (thr τ 2) H1 := hP.p27 he1 oq1
      refine lv_aload_n hx hb dX6_setShare_31 rfl (lv_at hl 0 rfl) ?_
      refine gX6 F hP.main 27 (by decide) wFL_X6_81 (fun _ h9 => h9) (v := .int 2) (by simp [thr, up]) dX6_setShare_32 ?_
      refine lv_if_le (tgt := 40) hx hb dX6_setShare_35 (by decide) (fun c_35_4 => ?_) (fun c_35_4 => ?_)
      · exact absurd c_35_4 (by decide)
      · refine lv_iconst (v := 0) hx hb dX6_setShare_38 (by decide) ?_
        exact kiret hx hb hr hlocks hS (by decide) (by decide) dX6_setShare_39 (⟨_, _, rfl, hP, Or.inr (Or.inl (⟨⟨u, hu, rfl⟩, hin, rfl⟩))⟩)
  · have no_vw := in_no (n := nW) (by rw [hw]; exact m1p) (by omega) (b2i_0.mp c_6_1)
    refine lv_iconst (v := 1) hx hb dX6_setShare_9 (by decide) ?_
    refine lv_goto (tgt := 28) hx hb dX6_setShare_10 (by decide) ?_
    refine pX6 F hS hP.main hP.omain 27 (by decide) wFL_X6_81 (fun _ h9 => h9) rfl rfl rfl (by simp) dX6_setShare_28 (fun H1 locs1 he1 z1 oq1 hS => ?_)
    have hP : PM G A ad (thr τ 1) H1 := hP.p27 he1 oq1
    refine lv_aload_n hx hb dX6_setShare_31 rfl (lv_at hl 0 rfl) ?_
    refine gX6 F hP.main 27 (by decide) wFL_X6_81 (fun _ h9 => h9) (v := .int 1) (by simp [thr, up]) dX6_setShare_32 ?_
    refine lv_if_le (tgt := 40) hx hb dX6_setShare_35 (by decide) (fun c_35_5 => ?_) (fun c_35_5 => ?_)
    · exact absurd c_35_5 (by decide)
    · refine lv_iconst (v := 0) hx hb dX6_setShare_38 (by decide) ?_
      exact kiret hx hb hr hlocks hS (by decide) (by decide) dX6_setShare_39 (⟨_, _, rfl, hP, Or.inl (⟨no_vw, rfl⟩)⟩)

