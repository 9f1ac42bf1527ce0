def mOwn (τ : SG) (u : Nat) (hh vv : Int32) : Int32 := if τ 17 u = hh then 0 else vv * τ 22 u / 100
def mSell (τ : SG) (h b : Nat) (vv x : Int32) : SG := up (up (up τ 24 b (τ 24 b + x)) 24 h ((up τ 24 b (τ 24 b + x)) 24 h + (vv - x))) 25 0 (τ 25 0 + vv)
def mGive (τ : SG) (h : Nat) (vv x : Int32) : SG := up (up (up τ 24 h (τ 24 h + (vv + x))) 24 4 ((up τ 24 h (τ 24 h + (vv + x))) 24 4 - x)) 25 0 (τ 25 0 + vv)
def cm_sell (τ : SG) (nW : Nat) (vh vw vv : Int32) (v : Int32) (τ' : SG) : Prop := (¬ ((∃ j, j < 4 ∧ vh = nI j) ∧ (∃ j, j < nW ∧ vw = nI j)) ∧ τ' = thr τ 1) ∨ ((∃ j, j < 4 ∧ vh = nI j) ∧ (∃ j, j < nW ∧ vw = nI j) ∧ inB vv 1 100000 = false ∧ τ' = thr τ 2) ∨ (∃ h u b, h < 4 ∧ vh = nI h ∧ u < nW ∧ vw = nI u ∧ inB vv 1 100000 = true ∧ b < 4 ∧ τ 17 u = nI b ∧ v = vv - mOwn (thr τ 0) u (nI h) vv ∧ τ' = mSell (thr τ 0) h b vv (mOwn (thr τ 0) u (nI h) vv))
set_option maxHeartbeats 4000000 in
set_option maxRecDepth 100000 in
theorem kR_sell (l : Launch) (G : GE) (A : Nat → Prop) (ad : Nat → Nat) (τ : SG) (vh vw vv : Int32) (nW : Nat) (hw : τ 16 0 = nI nW) (hnW : nW ≤ 12) (hW0 : WFm τ nW) : KM l G A yX6_sell cX6_sell 5 (some .int) (rmL 3 0 0) [.ref (ad 30), .int vh, .int vw, .int vv] (PM G A ad τ) (fun v H => ∃ x τ', v = some (.int x) ∧ PM G A ad τ' H ∧ cm_sell τ nW vh vw vv x τ') (fun _ _ => False) := by
  refine KM.of (by decide) (Nat.le_of_ble_eq_true rfl) ?_
  intro p e s m args below meth c F hP ls hl
  have hx := F.1.1
  have hb := F.1.2.1
  have hown := F.1.2.2.2.1
  have hts := F.1.2.2.2.2
  have hr := F.2.1
  have hlocks := F.2.2.1
  have hE := F.2.2.2.2.2.1
  have hA := F.2.2.2.2.2.2
  have hS : va_S A s.heap s.heap [] := va_S.rf
  have hl : lv_has ls 5 [(0, .ref (ad 30)), (1, .int vh), (2, .int vw), (3, .int vv)] := hl
  have hP := hP
  refine lv_aload_n hx hb dX6_sell_0 rfl (lv_at hl 0 rfl) ?_
  refine lv_iload_n hx hb dX6_sell_1 rfl (lv_at hl 1 rfl) ?_
  refine kcallS (n := 1) F (kM_isHouse l G (fun q => s.heap.size ≤ q) vh) wML_X6_97 wST_X6_isHouse wIN_X6 wCO_X6_isHouse (by decide) rfl ⟨by decide, by decide⟩ hS (fun q h => hA q (Nat.le_trans hS.1 h)) (fun q h => h) trivial rfl hl.1 (Nat.le_of_ble_eq_true rfl) dX6_sell_2 ⟨by decide, by decide⟩ (fun E ce q9 H1 locs1 hx9 _ _ _ _ _ => hx9.elim) (fun v H1 locs1 hv hk hS => ?_)
  have hP := hP.old hk
  subst hv
  refine lv_if_eq (tgt := 16) hx hb dX6_sell_5 (by decide) (fun c_5_1 => ?_) (fun c_5_1 => ?_)
  · have no_vh := in_no (n := 4) rfl (by decide) (b2i_0.mp c_5_1)
    refine lv_iconst (v := 1) hx hb dX6_sell_16 (by decide) ?_
    refine lv_goto (tgt := 35) hx hb dX6_sell_17 (by decide) ?_
    refine pX6 F hS hP.main hP.omain 27 (by decide) wFL_X6_81 (fun _ h9 => h9) rfl rfl rfl (by simp) dX6_sell_35 (fun H1 locs1 he1 z1 oq1 hS => ?_)
    have hP : PM G A ad (thr τ 1) H1 := hP.p27 he1 oq1
    refine lv_aload_n hx hb dX6_sell_38 rfl (lv_at hl 0 rfl) ?_
    refine gX6 F hP.main 27 (by decide) wFL_X6_81 (fun _ h9 => h9) (v := .int 1) (by simp [thr, up]) dX6_sell_39 ?_
    refine lv_if_le (tgt := 47) hx hb dX6_sell_42 (by decide) (fun c_42_2 => ?_) (fun c_42_2 => ?_)
    · exact absurd c_42_2 (by decide)
    · refine lv_iconst (v := 0) hx hb dX6_sell_45 (by decide) ?_
      exact kiret hx hb hr hlocks hS (by decide) (by decide) dX6_sell_46 (⟨_, _, rfl, hP, Or.inl (⟨fun z => no_vh z.1, rfl⟩)⟩)
  · obtain ⟨h, hh9, rfl⟩ := in_ex (n := 4) rfl (by decide) (b2i_1.mp c_5_1)
    refine lv_aload_n hx hb dX6_sell_8 rfl (lv_at hl 0 rfl) ?_
    refine lv_iload_n hx hb dX6_sell_9 rfl (lv_at hl 2 rfl) ?_
    refine kcallV (n := 1) F (kM_isWork l G (fun q => H1.size ≤ q) A ad τ vw) wML_X6_155 wIM_X6_isWork wSE_X6_X6_isWork wIN_X6 wCO_X6_isWork (by decide) rfl ⟨by decide, by decide⟩ (frec F hP.main _ rfl) hS (fun q h => hA q (Nat.le_trans hS.1 h)) (fun q h => h) hP rfl hl.1 (Nat.le_of_ble_eq_true rfl) dX6_sell_10 ⟨by decide, by decide⟩ (fun E ce q9 H1 locs1 hx9 _ _ _ _ _ => hx9.elim) (fun v H1 locs1 hv hk hS => ?_)
    have hP := hP.old hk
    subst hv
    refine lv_if_ne (tgt := 20) hx hb dX6_sell_13 (by decide) (fun c_13_3 => ?_) (fun c_13_3 => ?_)
    · obtain ⟨u, hu, rfl⟩ := in_ex (n := nW) (by rw [hw]; exact m1p) (by omega) (b2i_1.mp c_13_3)
      refine lv_iload_n hx hb dX6_sell_20 rfl (lv_at hl 3 rfl) ?_
      refine lv_iconst (v := 1) hx hb dX6_sell_21 (by decide) ?_
      refine lv_ldc (v := 100000) hx hb hown (hts _ wCN_X6_161) dX6_sell_22 ?_
      refine kcallS (n := 3) F (kM_in l G (fun q => H1.size ≤ q) vv 1 100000) wML_X6_84 wST_X6_in wIN_X6 wCO_X6_in (by decide) rfl ⟨by decide, by decide⟩ hS (fun q h => hA q (Nat.le_trans hS.1 h)) (fun q h => h) trivial rfl hl.1 (Nat.le_of_ble_eq_true rfl) dX6_sell_24 ⟨by decide, by decide⟩ (fun E ce q9 H1 locs1 hx9 _ _ _ _ _ => hx9.elim) (fun v H1 locs1 hv hk hS => ?_)
      have hP := hP.old hk
      subst hv
      refine lv_if_ne (tgt := 34) hx hb dX6_sell_27 (by decide) (fun c_27_4 => ?_) (fun c_27_4 => ?_)
      · have hin := b2i_1.mp c_27_4
        refine lv_iconst (v := 0) hx hb dX6_sell_34 (by decide) ?_
        refine pX6 F hS hP.main hP.omain 27 (by decide) wFL_X6_81 (fun _ h9 => h9) rfl rfl rfl (by simp) dX6_sell_35 (fun H1 locs1 he1 z1 oq1 hS => ?_)
        have hP : PM G A ad (thr τ 0) H1 := hP.p27 he1 oq1
        refine lv_aload_n hx hb dX6_sell_38 rfl (lv_at hl 0 rfl) ?_
        refine gX6 F hP.main 27 (by decide) wFL_X6_81 (fun _ h9 => h9) (v := .int 0) (by simp [thr, up]) dX6_sell_39 ?_
        refine lv_if_le (tgt := 47) hx hb dX6_sell_42 (by decide) (fun c_42_5 => ?_) (fun c_42_5 => ?_)
        · obtain ⟨b, hb4, eb⟩ := hW0 u hu
          refine lv_aload_n hx hb dX6_sell_47 rfl (lv_at hl 0 rfl) ?_
          refine gX6 F hP.main 17 (by decide) wFL_X6_50 (fun _ h9 => h9) (v := .ref (ad 17)) rfl dX6_sell_48 ?_
          refine lv_iload_n hx hb dX6_sell_51 rfl (lv_at hl 2 rfl) ?_
          refine xiald hx hb hE.1.1 (hP.arr 17 (by decide) (by decide)) 0 rfl (k := u) rfl (show _ < 12 by omega) (by decide) dX6_sell_52 ?_
          refine lv_iload_n hx hb dX6_sell_53 rfl (lv_at hl 1 rfl) ?_
          refine lv_icmp_ne (tgt := 61) hx hb dX6_sell_54 (by decide) (fun c_54_6 => ?_) (fun c_54_6 => ?_)
          · refine lv_iload_n hx hb dX6_sell_61 rfl (lv_at hl 3 rfl) ?_
            refine lv_aload_n hx hb dX6_sell_62 rfl (lv_at hl 0 rfl) ?_
            refine gX6 F hP.main 22 (by decide) wFL_X6_65 (fun _ h9 => h9) (v := .ref (ad 22)) rfl dX6_sell_63 ?_
            refine lv_iload_n hx hb dX6_sell_66 rfl (lv_at hl 2 rfl) ?_
            refine xiald hx hb hE.1.1 (hP.arr 22 (by decide) (by decide)) 0 rfl (k := u) rfl (show _ < 12 by omega) (by decide) dX6_sell_67 ?_
            refine lv_imul hx hb dX6_sell_68 ?_
            refine lv_bipush (v := 100) hx hb dX6_sell_69 (by decide) ?_
            refine lv_idiv hx hb dX6_sell_71 (by decide) ?_
            rw [show ((vv * ((thr τ 0) 22 u)) / 100 : Int32) = mOwn (thr τ 0) u (nI h) vv from (if_neg c_54_6).symm]
            refine lv_istore (lv' := [(4, .int (mOwn (thr τ 0) u (nI h) vv)), (0, .ref (ad 30)), (1, .int (nI h)), (2, .int (nI u)), (3, .int vv)]) hx hb dX6_sell_72 hl (by decide) rfl (fun ls hl => ?_)
            refine lv_aload_n hx hb dX6_sell_74 rfl (lv_at hl 1 rfl) ?_
            refine gX6 F hP.main 24 (by decide) wFL_X6_71 (fun _ h9 => h9) (v := .ref (ad 24)) rfl dX6_sell_75 ?_
            refine lv_aload_n hx hb dX6_sell_78 rfl (lv_at hl 1 rfl) ?_
            refine gX6 F hP.main 17 (by decide) wFL_X6_50 (fun _ h9 => h9) (v := .ref (ad 17)) rfl dX6_sell_79 ?_
            refine lv_iload_n hx hb dX6_sell_82 rfl (lv_at hl 3 rfl) ?_
            refine xiald hx hb hE.1.1 (hP.arr 17 (by decide) (by decide)) 0 rfl (k := u) rfl (show _ < 12 by omega) (by decide) dX6_sell_83 ?_
            refine W.eq (g2 := F0 m 84 ls [.int (nI b), .ref (ad 24)]) (congrArg (fun z => F0 m 84 ls [.int z, .ref (ad 24)]) ((show thr τ 0 17 u = nI b from by rw [thr_o (by decide)]; exact eb))) ?_
            refine lv_dup2_11 hx hb dX6_sell_84 rfl rfl ?_
            refine xiald hx hb hE.1.1 (hP.arr 24 (by decide) (by decide)) 0 rfl (k := b) rfl (show _ < 5 by omega) (by decide) dX6_sell_85 ?_
            refine lv_iload hx hb dX6_sell_86 (lv_at hl 0 rfl) ?_
            refine lv_iadd hx hb dX6_sell_88 ?_
            refine xiast hx hb hE.1.1 hS (hP.arr 24 (by decide) (by decide)) (hP.oarr 24 (by decide)) 0 rfl (k := b) rfl (show _ < 5 by omega) (by decide) dX6_sell_89 (fun H1 locs1 he1 z1 oq1 hS => ?_)
            have hP := hP.parr 24 b (by decide) (by decide) he1 oq1
            refine lv_aload_n hx hb dX6_sell_90 rfl (lv_at hl 1 rfl) ?_
            refine gX6 F hP.main 24 (by decide) wFL_X6_71 (fun _ h9 => h9) (v := .ref (ad 24)) rfl dX6_sell_91 ?_
            refine lv_iload_n hx hb dX6_sell_94 rfl (lv_at hl 2 rfl) ?_
            refine lv_dup2_11 hx hb dX6_sell_95 rfl rfl ?_
            refine xiald hx hb hE.1.1 (hP.arr 24 (by decide) (by decide)) 0 rfl (k := h) rfl (show _ < 5 by omega) (by decide) dX6_sell_96 ?_
            refine lv_iload_n hx hb dX6_sell_97 rfl (lv_at hl 4 rfl) ?_
            refine lv_iload hx hb dX6_sell_98 (lv_at hl 0 rfl) ?_
            refine lv_isub hx hb dX6_sell_100 ?_
            refine lv_iadd hx hb dX6_sell_101 ?_
            refine xiast hx hb hE.1.1 hS (hP.arr 24 (by decide) (by decide)) (hP.oarr 24 (by decide)) 0 rfl (k := h) rfl (show _ < 5 by omega) (by decide) dX6_sell_102 (fun H1 locs1 he1 z1 oq1 hS => ?_)
            have hP := hP.parr 24 h (by decide) (by decide) he1 oq1
            refine lv_aload_n hx hb dX6_sell_103 rfl (lv_at hl 1 rfl) ?_
            refine lv_dup hx hb dX6_sell_104 rfl ?_
            refine gX6 F hP.main 25 (by decide) wFL_X6_101 (fun _ h9 => h9) (v := .int ((thr τ 0) 25 0)) (by simp [up]) dX6_sell_105 ?_
            refine lv_iload_n hx hb dX6_sell_108 rfl (lv_at hl 4 rfl) ?_
            refine lv_iadd hx hb dX6_sell_109 ?_
            refine pX6 F hS hP.main hP.omain 25 (by decide) wFL_X6_101 (fun _ h9 => h9) rfl rfl rfl (by simp) dX6_sell_110 (fun H1 locs1 he1 z1 oq1 hS => ?_)
            have hP := hP.p25 he1 oq1
            refine lv_iload_n hx hb dX6_sell_113 rfl (lv_at hl 4 rfl) ?_
            refine lv_iload hx hb dX6_sell_114 (lv_at hl 0 rfl) ?_
            refine lv_isub hx hb dX6_sell_116 ?_
            exact kiret hx hb hr hlocks hS (by decide) (by decide) dX6_sell_117 (⟨_, _, rfl, hP, Or.inr (Or.inr (⟨h, u, b, hh9, rfl, hu, rfl, hin, hb4, eb, rfl, rfl⟩))⟩)
          · refine lv_iconst (v := 0) hx hb dX6_sell_57 (by decide) ?_
            refine lv_goto (tgt := 72) hx hb dX6_sell_58 (by decide) ?_
            rw [show (0 : Int32) = mOwn (thr τ 0) u (nI h) vv from (if_pos c_54_6).symm]
            refine lv_istore (lv' := [(4, .int (mOwn (thr τ 0) u (nI h) vv)), (0, .ref (ad 30)), (1, .int (nI h)), (2, .int (nI u)), (3, .int vv)]) hx hb dX6_sell_72 hl (by decide) rfl (fun ls hl => ?_)
            refine lv_aload_n hx hb dX6_sell_74 rfl (lv_at hl 1 rfl) ?_
            refine gX6 F hP.main 24 (by decide) wFL_X6_71 (fun _ h9 => h9) (v := .ref (ad 24)) rfl dX6_sell_75 ?_
            refine lv_aload_n hx hb dX6_sell_78 rfl (lv_at hl 1 rfl) ?_
            refine gX6 F hP.main 17 (by decide) wFL_X6_50 (fun _ h9 => h9) (v := .ref (ad 17)) rfl dX6_sell_79 ?_
            refine lv_iload_n hx hb dX6_sell_82 rfl (lv_at hl 3 rfl) ?_
            refine xiald hx hb hE.1.1 (hP.arr 17 (by decide) (by decide)) 0 rfl (k := u) rfl (show _ < 12 by omega) (by decide) dX6_sell_83 ?_
            refine W.eq (g2 := F0 m 84 ls [.int (nI b), .ref (ad 24)]) (congrArg (fun z => F0 m 84 ls [.int z, .ref (ad 24)]) ((show thr τ 0 17 u = nI b from by rw [thr_o (by decide)]; exact eb))) ?_
            refine lv_dup2_11 hx hb dX6_sell_84 rfl rfl ?_
            refine xiald hx hb hE.1.1 (hP.arr 24 (by decide) (by decide)) 0 rfl (k := b) rfl (show _ < 5 by omega) (by decide) dX6_sell_85 ?_
            refine lv_iload hx hb dX6_sell_86 (lv_at hl 0 rfl) ?_
            refine lv_iadd hx hb dX6_sell_88 ?_
            refine xiast hx hb hE.1.1 hS (hP.arr 24 (by decide) (by decide)) (hP.oarr 24 (by decide)) 0 rfl (k := b) rfl (show _ < 5 by omega) (by decide) dX6_sell_89 (fun H1 locs1 he1 z1 oq1 hS => ?_)
            have hP := hP.parr 24 b (by decide) (by decide) he1 oq1
            refine lv_aload_n hx hb dX6_sell_90 rfl (lv_at hl 1 rfl) ?_
            refine gX6 F hP.main 24 (by decide) wFL_X6_71 (fun _ h9 => h9) (v := .ref (ad 24)) rfl dX6_sell_91 ?_
            refine lv_iload_n hx hb dX6_sell_94 rfl (lv_at hl 2 rfl) ?_
            refine lv_dup2_11 hx hb dX6_sell_95 rfl rfl ?_
            refine xiald hx hb hE.1.1 (hP.arr 24 (by decide) (by decide)) 0 rfl (k := h) rfl (show _ < 5 by omega) (by decide) dX6_sell_96 ?_
            refine lv_iload_n hx hb dX6_sell_97 rfl (lv_at hl 4 rfl) ?_
            refine lv_iload hx hb dX6_sell_98 (lv_at hl 0 rfl) ?_
            refine lv_isub hx hb dX6_sell_100 ?_
            refine lv_iadd hx hb dX6_sell_101 ?_
            refine xiast hx hb hE.1.1 hS (hP.arr 24 (by decide) (by decide)) (hP.oarr 24 (by decide)) 0 rfl (k := h) rfl (show _ < 5 by omega) (by decide) dX6_sell_102 (fun H1 locs1 he1 z1 oq1 hS => ?_)
            have hP := hP.parr 24 h (by decide) (by decide) he1 oq1
            refine lv_aload_n hx hb dX6_sell_103 rfl (lv_at hl 1 rfl) ?_
            refine lv_dup hx hb dX6_sell_104 rfl ?_
            refine gX6 F hP.main 25 (by decide) wFL_X6_101 (fun _ h9 => h9) (v := .int ((thr τ 0) 25 0)) (by simp [up]) dX6_sell_105 ?_
            refine lv_iload_n hx hb dX6_sell_108 rfl (lv_at hl 4 rfl) ?_
            refine lv_iadd hx hb dX6_sell_109 ?_
            refine pX6 F hS hP.main hP.omain 25 (by decide) wFL_X6_101 (fun _ h9 => h9) rfl rfl rfl (by simp) dX6_sell_110 (fun H1 locs1 he1 z1 oq1 hS => ?_)
            have hP := hP.p25 he1 oq1
            refine lv_iload_n hx hb dX6_sell_113 rfl (lv_at hl 4 rfl) ?_
            refine lv_iload hx hb dX6_sell_114 (lv_at hl 0 rfl) ?_
            refine lv_isub hx hb dX6_sell_116 ?_
            exact kiret hx hb hr hlocks hS (by decide) (by decide) dX6_sell_117 (⟨_, _, rfl, hP, Or.inr (Or.inr (⟨h, u, b, hh9, rfl, hu, rfl, hin, hb4, eb, rfl, rfl⟩))⟩)
        · exact absurd c_42_5 (by decide)
      · have hin := b2i_0.mp c_27_4
        refine lv_iconst (v := 2) hx hb dX6_sell_30 (by decide) ?_
        refine lv_goto (tgt := 35) hx hb dX6_sell_31 (by decide) ?_
        refine pX6 F hS hP.main hP.omain 27 (by decide) wFL_X6_81 (fun _ h9 => h9) rfl rfl rfl (by simp) dX6_sell_35 (fun H1 locs1 he1 z1 oq1 hS => ?_)
        have hP : PM G A ad (thr τ 2) H1 := hP.p27 he1 oq1
        refine lv_aload_n hx hb dX6_sell_38 rfl (lv_at hl 0 rfl) ?_
        refine gX6 F hP.main 27 (by decide) wFL_X6_81 (fun _ h9 => h9) (v := .int 2) (by simp [thr, up]) dX6_sell_39 ?_
        refine lv_if_le (tgt := 47) hx hb dX6_sell_42 (by decide) (fun c_42_7 => ?_) (fun c_42_7 => ?_)
        · exact absurd c_42_7 (by decide)
        · refine lv_iconst (v := 0) hx hb dX6_sell_45 (by decide) ?_
          exact kiret hx hb hr hlocks hS (by decide) (by decide) dX6_sell_46 (⟨_, _, rfl, hP, Or.inr (Or.inl (⟨⟨h, hh9, rfl⟩, ⟨u, hu, rfl⟩, hin, rfl⟩))⟩)
    · have no_vw := in_no (n := nW) (by rw [hw]; exact m1p) (by omega) (b2i_0.mp c_13_3)
      refine lv_iconst (v := 1) hx hb dX6_sell_16 (by decide) ?_
      refine lv_goto (tgt := 35) hx hb dX6_sell_17 (by decide) ?_
      refine pX6 F hS hP.main hP.omain 27 (by decide) wFL_X6_81 (fun _ h9 => h9) rfl rfl rfl (by simp) dX6_sell_35 (fun H1 locs1 he1 z1 oq1 hS => ?_)
      have hP : PM G A ad (thr τ 1) H1 := hP.p27 he1 oq1
      refine lv_aload_n hx hb dX6_sell_38 rfl (lv_at hl 0 rfl) ?_
      refine gX6 F hP.main 27 (by decide) wFL_X6_81 (fun _ h9 => h9) (v := .int 1) (by simp [thr, up]) dX6_sell_39 ?_
      refine lv_if_le (tgt := 47) hx hb dX6_sell_42 (by decide) (fun c_42_8 => ?_) (fun c_42_8 => ?_)
      · exact absurd c_42_8 (by decide)
      · refine lv_iconst (v := 0) hx hb dX6_sell_45 (by decide) ?_
        exact kiret hx hb hr hlocks hS (by decide) (by decide) dX6_sell_46 (⟨_, _, rfl, hP, Or.inl (⟨fun z => no_vw z.2, rfl⟩)⟩)

def cm_give (τ : SG) (vh vv vm : Int32) (v : Int32) (τ' : SG) : Prop := (¬ ((∃ j, j < 4 ∧ vh = nI j) ∧ (vm = -1 ∨ (∃ j, j < 6 ∧ vm = nI j))) ∧ τ' = thr τ 1) ∨ ((∃ j, j < 4 ∧ vh = nI j) ∧ (vm = -1 ∨ (∃ j, j < 6 ∧ vm = nI j)) ∧ inB vv 1 100000 = false ∧ τ' = thr τ 2) ∨ (∃ h gb, h < 4 ∧ vh = nI h ∧ ((vm = -1 ∧ gb = false) ∨ (vm ≠ -1 ∧ ∃ k, k < 6 ∧ vm = nI k ∧ gb = fBel (thr τ 0 2 k) (thr τ 0 26 0))) ∧ inB vv 1 100000 = true ∧ v = vv + fTax gb vv ∧ τ' = mGive (thr τ 0) h vv (fTax gb vv))
set_option maxHeartbeats 4000000 in
set_option maxRecDepth 100000 in
theorem kR_give (l : Launch) (G : GE) (A : Nat → Prop) (ad : Nat → Nat) (τ : SG) (vh vv vm : Int32)  : KM l G A yX6_give cX6_give 5 (some .int) (rmL 3 0 0) [.ref (ad 30), .int vh, .int vv, .int vm] (PM G A ad τ) (fun v H => ∃ x τ', v = some (.int x) ∧ PM G A ad τ' H ∧ cm_give τ vh vv vm x τ') (fun _ _ => False) := by
  refine KM.of (by decide) (Nat.le_of_ble_eq_true rfl) ?_
  intro p e s m args below meth c F hP ls hl
  have hx := F.1.1
  have hb := F.1.2.1
  have hown := F.1.2.2.2.1
  have hts := F.1.2.2.2.2
  have hr := F.2.1
  have hlocks := F.2.2.1
  have hE := F.2.2.2.2.2.1
  have hA := F.2.2.2.2.2.2
  have hS : va_S A s.heap s.heap [] := va_S.rf
  have hl : lv_has ls 5 [(0, .ref (ad 30)), (1, .int vh), (2, .int vv), (3, .int vm)] := hl
  have hP := hP
  refine lv_aload_n hx hb dX6_give_0 rfl (lv_at hl 0 rfl) ?_
  refine lv_iload_n hx hb dX6_give_1 rfl (lv_at hl 1 rfl) ?_
  refine kcallS (n := 1) F (kM_isHouse l G (fun q => s.heap.size ≤ q) vh) wML_X6_97 wST_X6_isHouse wIN_X6 wCO_X6_isHouse (by decide) rfl ⟨by decide, by decide⟩ hS (fun q h => hA q (Nat.le_trans hS.1 h)) (fun q h => h) trivial rfl hl.1 (Nat.le_of_ble_eq_true rfl) dX6_give_2 ⟨by decide, by decide⟩ (fun E ce q9 H1 locs1 hx9 _ _ _ _ _ => hx9.elim) (fun v H1 locs1 hv hk hS => ?_)
  have hP := hP.old hk
  subst hv
  refine lv_if_eq (tgt := 20) hx hb dX6_give_5 (by decide) (fun c_5_1 => ?_) (fun c_5_1 => ?_)
  · have no_vh := in_no (n := 4) rfl (by decide) (b2i_0.mp c_5_1)
    refine lv_iconst (v := 1) hx hb dX6_give_20 (by decide) ?_
    refine lv_goto (tgt := 39) hx hb dX6_give_21 (by decide) ?_
    refine pX6 F hS hP.main hP.omain 27 (by decide) wFL_X6_81 (fun _ h9 => h9) rfl rfl rfl (by simp) dX6_give_39 (fun H1 locs1 he1 z1 oq1 hS => ?_)
    have hP : PM G A ad (thr τ 1) H1 := hP.p27 he1 oq1
    refine lv_aload_n hx hb dX6_give_42 rfl (lv_at hl 0 rfl) ?_
    refine gX6 F hP.main 27 (by decide) wFL_X6_81 (fun _ h9 => h9) (v := .int 1) (by simp [thr, up]) dX6_give_43 ?_
    refine lv_if_le (tgt := 51) hx hb dX6_give_46 (by decide) (fun c_46_2 => ?_) (fun c_46_2 => ?_)
    · exact absurd c_46_2 (by decide)
    · refine lv_iconst (v := 0) hx hb dX6_give_49 (by decide) ?_
      exact kiret hx hb hr hlocks hS (by decide) (by decide) dX6_give_50 (⟨_, _, rfl, hP, Or.inl (⟨fun z => no_vh z.1, rfl⟩)⟩)
  · obtain ⟨h, hh9, rfl⟩ := in_ex (n := 4) rfl (by decide) (b2i_1.mp c_5_1)
    refine lv_iload_n hx hb dX6_give_8 rfl (lv_at hl 3 rfl) ?_
    refine lv_iconst (v := (-1)) hx hb dX6_give_9 (by decide) ?_
    refine lv_icmp_eq (tgt := 24) hx hb dX6_give_10 (by decide) (fun c_10_3 => ?_) (fun c_10_3 => ?_)
    · refine lv_iload_n hx hb dX6_give_24 rfl (lv_at hl 2 rfl) ?_
      refine lv_iconst (v := 1) hx hb dX6_give_25 (by decide) ?_
      refine lv_ldc (v := 100000) hx hb hown (hts _ wCN_X6_161) dX6_give_26 ?_
      refine kcallS (n := 3) F (kM_in l G (fun q => H1.size ≤ q) vv 1 100000) wML_X6_84 wST_X6_in wIN_X6 wCO_X6_in (by decide) rfl ⟨by decide, by decide⟩ hS (fun q h => hA q (Nat.le_trans hS.1 h)) (fun q h => h) trivial rfl hl.1 (Nat.le_of_ble_eq_true rfl) dX6_give_28 ⟨by decide, by decide⟩ (fun E ce q9 H1 locs1 hx9 _ _ _ _ _ => hx9.elim) (fun v H1 locs1 hv hk hS => ?_)
      have hP := hP.old hk
      subst hv
      refine lv_if_ne (tgt := 38) hx hb dX6_give_31 (by decide) (fun c_31_4 => ?_) (fun c_31_4 => ?_)
      · have hin := b2i_1.mp c_31_4
        refine lv_iconst (v := 0) hx hb dX6_give_38 (by decide) ?_
        refine pX6 F hS hP.main hP.omain 27 (by decide) wFL_X6_81 (fun _ h9 => h9) rfl rfl rfl (by simp) dX6_give_39 (fun H1 locs1 he1 z1 oq1 hS => ?_)
        have hP : PM G A ad (thr τ 0) H1 := hP.p27 he1 oq1
        refine lv_aload_n hx hb dX6_give_42 rfl (lv_at hl 0 rfl) ?_
        refine gX6 F hP.main 27 (by decide) wFL_X6_81 (fun _ h9 => h9) (v := .int 0) (by simp [thr, up]) dX6_give_43 ?_
        refine lv_if_le (tgt := 51) hx hb dX6_give_46 (by decide) (fun c_46_5 => ?_) (fun c_46_5 => ?_)
        · refine lv_iload_n hx hb dX6_give_51 rfl (lv_at hl 3 rfl) ?_
          refine lv_iconst (v := (-1)) hx hb dX6_give_52 (by decide) ?_
          refine lv_icmp_eq (tgt := 70) hx hb dX6_give_53 (by decide) (fun c_53_6 => ?_) (fun c_53_6 => ?_)
          · refine lv_iconst (v := 0) hx hb dX6_give_70 (by decide) ?_
            rw [show (0 : Int32) = fTax false vv from rfl]
            refine lv_istore (lv' := [(4, .int (fTax false vv)), (0, .ref (ad 30)), (1, .int (nI h)), (2, .int vv), (3, .int vm)]) hx hb dX6_give_71 hl (by decide) rfl (fun ls hl => ?_)
            refine lv_aload_n hx hb dX6_give_73 rfl (lv_at hl 1 rfl) ?_
            refine gX6 F hP.main 24 (by decide) wFL_X6_71 (fun _ h9 => h9) (v := .ref (ad 24)) rfl dX6_give_74 ?_
            refine lv_iload_n hx hb dX6_give_77 rfl (lv_at hl 2 rfl) ?_
            refine lv_dup2_11 hx hb dX6_give_78 rfl rfl ?_
            refine xiald hx hb hE.1.1 (hP.arr 24 (by decide) (by decide)) 0 rfl (k := h) rfl (show _ < 5 by omega) (by decide) dX6_give_79 ?_
            refine lv_iload_n hx hb dX6_give_80 rfl (lv_at hl 3 rfl) ?_
            refine lv_iload hx hb dX6_give_81 (lv_at hl 0 rfl) ?_
            refine lv_iadd hx hb dX6_give_83 ?_
            refine lv_iadd hx hb dX6_give_84 ?_
            refine xiast hx hb hE.1.1 hS (hP.arr 24 (by decide) (by decide)) (hP.oarr 24 (by decide)) 0 rfl (k := h) rfl (show _ < 5 by omega) (by decide) dX6_give_85 (fun H1 locs1 he1 z1 oq1 hS => ?_)
            have hP := hP.parr 24 h (by decide) (by decide) he1 oq1
            refine lv_aload_n hx hb dX6_give_86 rfl (lv_at hl 1 rfl) ?_
            refine gX6 F hP.main 24 (by decide) wFL_X6_71 (fun _ h9 => h9) (v := .ref (ad 24)) rfl dX6_give_87 ?_
            refine lv_iconst (v := 4) hx hb dX6_give_90 (by decide) ?_
            refine W.eq (g2 := F0 m 91 ls [.int (nI 4), .ref (ad 24)]) (congrArg (fun z => F0 m 91 ls [.int z, .ref (ad 24)]) ((rfl : (4 : Int32) = nI 4))) ?_
            refine lv_dup2_11 hx hb dX6_give_91 rfl rfl ?_
            refine xiald hx hb hE.1.1 (hP.arr 24 (by decide) (by decide)) 0 rfl (k := 4) rfl (show _ < 5 by omega) (by decide) dX6_give_92 ?_
            refine lv_iload hx hb dX6_give_93 (lv_at hl 0 rfl) ?_
            refine lv_isub hx hb dX6_give_95 ?_
            refine xiast hx hb hE.1.1 hS (hP.arr 24 (by decide) (by decide)) (hP.oarr 24 (by decide)) 0 rfl (k := 4) rfl (show _ < 5 by omega) (by decide) dX6_give_96 (fun H1 locs1 he1 z1 oq1 hS => ?_)
            have hP := hP.parr 24 4 (by decide) (by decide) he1 oq1
            refine lv_aload_n hx hb dX6_give_97 rfl (lv_at hl 1 rfl) ?_
            refine lv_dup hx hb dX6_give_98 rfl ?_
            refine gX6 F hP.main 25 (by decide) wFL_X6_101 (fun _ h9 => h9) (v := .int ((thr τ 0) 25 0)) (by simp [up]) dX6_give_99 ?_
            refine lv_iload_n hx hb dX6_give_102 rfl (lv_at hl 3 rfl) ?_
            refine lv_iadd hx hb dX6_give_103 ?_
            refine pX6 F hS hP.main hP.omain 25 (by decide) wFL_X6_101 (fun _ h9 => h9) rfl rfl rfl (by simp) dX6_give_104 (fun H1 locs1 he1 z1 oq1 hS => ?_)
            have hP := hP.p25 he1 oq1
            refine lv_iload_n hx hb dX6_give_107 rfl (lv_at hl 3 rfl) ?_
            refine lv_iload hx hb dX6_give_108 (lv_at hl 0 rfl) ?_
            refine lv_iadd hx hb dX6_give_110 ?_
            exact kiret hx hb hr hlocks hS (by decide) (by decide) dX6_give_111 (⟨_, _, rfl, hP, Or.inr (Or.inr (⟨h, false, hh9, rfl, Or.inl ⟨c_10_3, rfl⟩, hin, rfl, rfl⟩))⟩)
          · exact absurd c_10_3 c_53_6
        · exact absurd c_46_5 (by decide)
      · have hin := b2i_0.mp c_31_4
        refine lv_iconst (v := 2) hx hb dX6_give_34 (by decide) ?_
        refine lv_goto (tgt := 39) hx hb dX6_give_35 (by decide) ?_
        refine pX6 F hS hP.main hP.omain 27 (by decide) wFL_X6_81 (fun _ h9 => h9) rfl rfl rfl (by simp) dX6_give_39 (fun H1 locs1 he1 z1 oq1 hS => ?_)
        have hP : PM G A ad (thr τ 2) H1 := hP.p27 he1 oq1
        refine lv_aload_n hx hb dX6_give_42 rfl (lv_at hl 0 rfl) ?_
        refine gX6 F hP.main 27 (by decide) wFL_X6_81 (fun _ h9 => h9) (v := .int 2) (by simp [thr, up]) dX6_give_43 ?_
        refine lv_if_le (tgt := 51) hx hb dX6_give_46 (by decide) (fun c_46_7 => ?_) (fun c_46_7 => ?_)
        · exact absurd c_46_7 (by decide)
        · refine lv_iconst (v := 0) hx hb dX6_give_49 (by decide) ?_
          exact kiret hx hb hr hlocks hS (by decide) (by decide) dX6_give_50 (⟨_, _, rfl, hP, Or.inr (Or.inl (⟨⟨h, hh9, rfl⟩, Or.inl c_10_3, hin, rfl⟩))⟩)
    · refine lv_iload_n hx hb dX6_give_13 rfl (lv_at hl 3 rfl) ?_
      refine kcallS (n := 1) F (kM_isMember l G (fun q => H1.size ≤ q) vm) wML_X6_111 wST_X6_isMember wIN_X6 wCO_X6_isMember (by decide) rfl ⟨by decide, by decide⟩ hS (fun q h => hA q (Nat.le_trans hS.1 h)) (fun q h => h) trivial rfl hl.1 (Nat.le_of_ble_eq_true rfl) dX6_give_14 ⟨by decide, by decide⟩ (fun E ce q9 H1 locs1 hx9 _ _ _ _ _ => hx9.elim) (fun v H1 locs1 hv hk hS => ?_)
      have hP := hP.old hk
      subst hv
      refine lv_if_ne (tgt := 24) hx hb dX6_give_17 (by decide) (fun c_17_8 => ?_) (fun c_17_8 => ?_)
      · obtain ⟨k, hm9, rfl⟩ := in_ex (n := 6) rfl (by decide) (b2i_1.mp c_17_8)
        refine lv_iload_n hx hb dX6_give_24 rfl (lv_at hl 2 rfl) ?_
        refine lv_iconst (v := 1) hx hb dX6_give_25 (by decide) ?_
        refine lv_ldc (v := 100000) hx hb hown (hts _ wCN_X6_161) dX6_give_26 ?_
        refine kcallS (n := 3) F (kM_in l G (fun q => H1.size ≤ q) vv 1 100000) wML_X6_84 wST_X6_in wIN_X6 wCO_X6_in (by decide) rfl ⟨by decide, by decide⟩ hS (fun q h => hA q (Nat.le_trans hS.1 h)) (fun q h => h) trivial rfl hl.1 (Nat.le_of_ble_eq_true rfl) dX6_give_28 ⟨by decide, by decide⟩ (fun E ce q9 H1 locs1 hx9 _ _ _ _ _ => hx9.elim) (fun v H1 locs1 hv hk hS => ?_)
        have hP := hP.old hk
        subst hv
        refine lv_if_ne (tgt := 38) hx hb dX6_give_31 (by decide) (fun c_31_9 => ?_) (fun c_31_9 => ?_)
        · have hin := b2i_1.mp c_31_9
          refine lv_iconst (v := 0) hx hb dX6_give_38 (by decide) ?_
          refine pX6 F hS hP.main hP.omain 27 (by decide) wFL_X6_81 (fun _ h9 => h9) rfl rfl rfl (by simp) dX6_give_39 (fun H1 locs1 he1 z1 oq1 hS => ?_)
          have hP : PM G A ad (thr τ 0) H1 := hP.p27 he1 oq1
          refine lv_aload_n hx hb dX6_give_42 rfl (lv_at hl 0 rfl) ?_
          refine gX6 F hP.main 27 (by decide) wFL_X6_81 (fun _ h9 => h9) (v := .int 0) (by simp [thr, up]) dX6_give_43 ?_
          refine lv_if_le (tgt := 51) hx hb dX6_give_46 (by decide) (fun c_46_10 => ?_) (fun c_46_10 => ?_)
          · refine lv_iload_n hx hb dX6_give_51 rfl (lv_at hl 3 rfl) ?_
            refine lv_iconst (v := (-1)) hx hb dX6_give_52 (by decide) ?_
            refine lv_icmp_eq (tgt := 70) hx hb dX6_give_53 (by decide) (fun c_53_11 => ?_) (fun c_53_11 => ?_)
            · exact absurd c_53_11 (nI_ne1' hm9)
            · refine lv_aload_n hx hb dX6_give_56 rfl (lv_at hl 0 rfl) ?_
              refine lv_iload_n hx hb dX6_give_57 rfl (lv_at hl 3 rfl) ?_
              refine kcallV (n := 1) F (kM_isValid l G (fun q => H1.size ≤ q) A ad (thr τ 0) k (by omega)) wML_X6_118 wIM_X6_isValid wSE_X6_X6_isValid wIN_X6 wCO_X6_isValid (by decide) rfl ⟨by decide, by decide⟩ (frec F hP.main _ rfl) hS (fun q h => hA q (Nat.le_trans hS.1 h)) (fun q h => h) hP rfl hl.1 (Nat.le_of_ble_eq_true rfl) dX6_give_58 ⟨by decide, by decide⟩ (fun E ce q9 H1 locs1 hx9 _ _ _ _ _ => hx9.elim) (fun v H1 locs1 hv hk hS => ?_)
              have hP := hP.old hk
              subst hv
              refine lv_if_eq (tgt := 70) hx hb dX6_give_61 (by decide) (fun c_61_12 => ?_) (fun c_61_12 => ?_)
              · refine lv_iconst (v := 0) hx hb dX6_give_70 (by decide) ?_
                rw [show (0 : Int32) = fTax (fBel (thr τ 0 2 k) (thr τ 0 26 0)) vv from by rw [b2i_0.mp c_61_12]; rfl]
                refine lv_istore (lv' := [(4, .int (fTax (fBel (thr τ 0 2 k) (thr τ 0 26 0)) vv)), (0, .ref (ad 30)), (1, .int (nI h)), (2, .int vv), (3, .int (nI k))]) hx hb dX6_give_71 hl (by decide) rfl (fun ls hl => ?_)
                refine lv_aload_n hx hb dX6_give_73 rfl (lv_at hl 1 rfl) ?_
                refine gX6 F hP.main 24 (by decide) wFL_X6_71 (fun _ h9 => h9) (v := .ref (ad 24)) rfl dX6_give_74 ?_
                refine lv_iload_n hx hb dX6_give_77 rfl (lv_at hl 2 rfl) ?_
                refine lv_dup2_11 hx hb dX6_give_78 rfl rfl ?_
                refine xiald hx hb hE.1.1 (hP.arr 24 (by decide) (by decide)) 0 rfl (k := h) rfl (show _ < 5 by omega) (by decide) dX6_give_79 ?_
                refine lv_iload_n hx hb dX6_give_80 rfl (lv_at hl 3 rfl) ?_
                refine lv_iload hx hb dX6_give_81 (lv_at hl 0 rfl) ?_
                refine lv_iadd hx hb dX6_give_83 ?_
                refine lv_iadd hx hb dX6_give_84 ?_
                refine xiast hx hb hE.1.1 hS (hP.arr 24 (by decide) (by decide)) (hP.oarr 24 (by decide)) 0 rfl (k := h) rfl (show _ < 5 by omega) (by decide) dX6_give_85 (fun H1 locs1 he1 z1 oq1 hS => ?_)
                have hP := hP.parr 24 h (by decide) (by decide) he1 oq1
                refine lv_aload_n hx hb dX6_give_86 rfl (lv_at hl 1 rfl) ?_
                refine gX6 F hP.main 24 (by decide) wFL_X6_71 (fun _ h9 => h9) (v := .ref (ad 24)) rfl dX6_give_87 ?_
                refine lv_iconst (v := 4) hx hb dX6_give_90 (by decide) ?_
                refine W.eq (g2 := F0 m 91 ls [.int (nI 4), .ref (ad 24)]) (congrArg (fun z => F0 m 91 ls [.int z, .ref (ad 24)]) ((rfl : (4 : Int32) = nI 4))) ?_
                refine lv_dup2_11 hx hb dX6_give_91 rfl rfl ?_
                refine xiald hx hb hE.1.1 (hP.arr 24 (by decide) (by decide)) 0 rfl (k := 4) rfl (show _ < 5 by omega) (by decide) dX6_give_92 ?_
                refine lv_iload hx hb dX6_give_93 (lv_at hl 0 rfl) ?_
                refine lv_isub hx hb dX6_give_95 ?_
                refine xiast hx hb hE.1.1 hS (hP.arr 24 (by decide) (by decide)) (hP.oarr 24 (by decide)) 0 rfl (k := 4) rfl (show _ < 5 by omega) (by decide) dX6_give_96 (fun H1 locs1 he1 z1 oq1 hS => ?_)
                have hP := hP.parr 24 4 (by decide) (by decide) he1 oq1
                refine lv_aload_n hx hb dX6_give_97 rfl (lv_at hl 1 rfl) ?_
                refine lv_dup hx hb dX6_give_98 rfl ?_
                refine gX6 F hP.main 25 (by decide) wFL_X6_101 (fun _ h9 => h9) (v := .int ((thr τ 0) 25 0)) (by simp [up]) dX6_give_99 ?_
                refine lv_iload_n hx hb dX6_give_102 rfl (lv_at hl 3 rfl) ?_
                refine lv_iadd hx hb dX6_give_103 ?_
                refine pX6 F hS hP.main hP.omain 25 (by decide) wFL_X6_101 (fun _ h9 => h9) rfl rfl rfl (by simp) dX6_give_104 (fun H1 locs1 he1 z1 oq1 hS => ?_)
                have hP := hP.p25 he1 oq1
                refine lv_iload_n hx hb dX6_give_107 rfl (lv_at hl 3 rfl) ?_
                refine lv_iload hx hb dX6_give_108 (lv_at hl 0 rfl) ?_
                refine lv_iadd hx hb dX6_give_110 ?_
                exact kiret hx hb hr hlocks hS (by decide) (by decide) dX6_give_111 (⟨_, _, rfl, hP, Or.inr (Or.inr (⟨h, fBel (thr τ 0 2 k) (thr τ 0 26 0), hh9, rfl, Or.inr ⟨nI_ne1' hm9, k, hm9, rfl, rfl⟩, hin, rfl, rfl⟩))⟩)
              · refine lv_iload_n hx hb dX6_give_64 rfl (lv_at hl 2 rfl) ?_
                refine lv_iconst (v := 4) hx hb dX6_give_65 (by decide) ?_
                refine lv_idiv hx hb dX6_give_66 (by decide) ?_
                refine lv_goto (tgt := 71) hx hb dX6_give_67 (by decide) ?_
                rw [show (vv / 4 : Int32) = fTax (fBel (thr τ 0 2 k) (thr τ 0 26 0)) vv from by rw [b2i_1.mp c_61_12]; rfl]
                refine lv_istore (lv' := [(4, .int (fTax (fBel (thr τ 0 2 k) (thr τ 0 26 0)) vv)), (0, .ref (ad 30)), (1, .int (nI h)), (2, .int vv), (3, .int (nI k))]) hx hb dX6_give_71 hl (by decide) rfl (fun ls hl => ?_)
                refine lv_aload_n hx hb dX6_give_73 rfl (lv_at hl 1 rfl) ?_
                refine gX6 F hP.main 24 (by decide) wFL_X6_71 (fun _ h9 => h9) (v := .ref (ad 24)) rfl dX6_give_74 ?_
                refine lv_iload_n hx hb dX6_give_77 rfl (lv_at hl 2 rfl) ?_
                refine lv_dup2_11 hx hb dX6_give_78 rfl rfl ?_
                refine xiald hx hb hE.1.1 (hP.arr 24 (by decide) (by decide)) 0 rfl (k := h) rfl (show _ < 5 by omega) (by decide) dX6_give_79 ?_
                refine lv_iload_n hx hb dX6_give_80 rfl (lv_at hl 3 rfl) ?_
                refine lv_iload hx hb dX6_give_81 (lv_at hl 0 rfl) ?_
                refine lv_iadd hx hb dX6_give_83 ?_
                refine lv_iadd hx hb dX6_give_84 ?_
                refine xiast hx hb hE.1.1 hS (hP.arr 24 (by decide) (by decide)) (hP.oarr 24 (by decide)) 0 rfl (k := h) rfl (show _ < 5 by omega) (by decide) dX6_give_85 (fun H1 locs1 he1 z1 oq1 hS => ?_)
                have hP := hP.parr 24 h (by decide) (by decide) he1 oq1
                refine lv_aload_n hx hb dX6_give_86 rfl (lv_at hl 1 rfl) ?_
                refine gX6 F hP.main 24 (by decide) wFL_X6_71 (fun _ h9 => h9) (v := .ref (ad 24)) rfl dX6_give_87 ?_
                refine lv_iconst (v := 4) hx hb dX6_give_90 (by decide) ?_
                refine W.eq (g2 := F0 m 91 ls [.int (nI 4), .ref (ad 24)]) (congrArg (fun z => F0 m 91 ls [.int z, .ref (ad 24)]) ((rfl : (4 : Int32) = nI 4))) ?_
                refine lv_dup2_11 hx hb dX6_give_91 rfl rfl ?_
                refine xiald hx hb hE.1.1 (hP.arr 24 (by decide) (by decide)) 0 rfl (k := 4) rfl (show _ < 5 by omega) (by decide) dX6_give_92 ?_
                refine lv_iload hx hb dX6_give_93 (lv_at hl 0 rfl) ?_
                refine lv_isub hx hb dX6_give_95 ?_
                refine xiast hx hb hE.1.1 hS (hP.arr 24 (by decide) (by decide)) (hP.oarr 24 (by decide)) 0 rfl (k := 4) rfl (show _ < 5 by omega) (by decide) dX6_give_96 (fun H1 locs1 he1 z1 oq1 hS => ?_)
                have hP := hP.parr 24 4 (by decide) (by decide) he1 oq1
                refine lv_aload_n hx hb dX6_give_97 rfl (lv_at hl 1 rfl) ?_
                refine lv_dup hx hb dX6_give_98 rfl ?_
                refine gX6 F hP.main 25 (by decide) wFL_X6_101 (fun _ h9 => h9) (v := .int ((thr τ 0) 25 0)) (by simp [up]) dX6_give_99 ?_
                refine lv_iload_n hx hb dX6_give_102 rfl (lv_at hl 3 rfl) ?_
                refine lv_iadd hx hb dX6_give_103 ?_
                refine pX6 F hS hP.main hP.omain 25 (by decide) wFL_X6_101 (fun _ h9 => h9) rfl rfl rfl (by simp) dX6_give_104 (fun H1 locs1 he1 z1 oq1 hS => ?_)
                have hP := hP.p25 he1 oq1
                refine lv_iload_n hx hb dX6_give_107 rfl (lv_at hl 3 rfl) ?_
                refine lv_iload hx hb dX6_give_108 (lv_at hl 0 rfl) ?_
                refine lv_iadd hx hb dX6_give_110 ?_
                exact kiret hx hb hr hlocks hS (by decide) (by decide) dX6_give_111 (⟨_, _, rfl, hP, Or.inr (Or.inr (⟨h, fBel (thr τ 0 2 k) (thr τ 0 26 0), hh9, rfl, Or.inr ⟨nI_ne1' hm9, k, hm9, rfl, rfl⟩, hin, rfl, rfl⟩))⟩)
          · exact absurd c_46_10 (by decide)
        · have hin := b2i_0.mp c_31_9
          refine lv_iconst (v := 2) hx hb dX6_give_34 (by decide) ?_
          refine lv_goto (tgt := 39) hx hb dX6_give_35 (by decide) ?_
          refine pX6 F hS hP.main hP.omain 27 (by decide) wFL_X6_81 (fun _ h9 => h9) rfl rfl rfl (by simp) dX6_give_39 (fun H1 locs1 he1 z1 oq1 hS => ?_)
          have hP : PM G A ad (thr τ 2) H1 := hP.p27 he1 oq1
          refine lv_aload_n hx hb dX6_give_42 rfl (lv_at hl 0 rfl) ?_
          refine gX6 F hP.main 27 (by decide) wFL_X6_81 (fun _ h9 => h9) (v := .int 2) (by simp [thr, up]) dX6_give_43 ?_
          refine lv_if_le (tgt := 51) hx hb dX6_give_46 (by decide) (fun c_46_13 => ?_) (fun c_46_13 => ?_)
          · exact absurd c_46_13 (by decide)
          · refine lv_iconst (v := 0) hx hb dX6_give_49 (by decide) ?_
            exact kiret hx hb hr hlocks hS (by decide) (by decide) dX6_give_50 (⟨_, _, rfl, hP, Or.inr (Or.inl (⟨⟨h, hh9, rfl⟩, Or.inr ⟨k, hm9, rfl⟩, hin, rfl⟩))⟩)
      · have no_vm := in_no (n := 6) rfl (by decide) (b2i_0.mp c_17_8)
        refine lv_iconst (v := 1) hx hb dX6_give_20 (by decide) ?_
        refine lv_goto (tgt := 39) hx hb dX6_give_21 (by decide) ?_
        refine pX6 F hS hP.main hP.omain 27 (by decide) wFL_X6_81 (fun _ h9 => h9) rfl rfl rfl (by simp) dX6_give_39 (fun H1 locs1 he1 z1 oq1 hS => ?_)
        have hP : PM G A ad (thr τ 1) H1 := hP.p27 he1 oq1
        refine lv_aload_n hx hb dX6_give_42 rfl (lv_at hl 0 rfl) ?_
        refine gX6 F hP.main 27 (by decide) wFL_X6_81 (fun _ h9 => h9) (v := .int 1) (by simp [thr, up]) dX6_give_43 ?_
        refine lv_if_le (tgt := 51) hx hb dX6_give_46 (by decide) (fun c_46_14 => ?_) (fun c_46_14 => ?_)
        · exact absurd c_46_14 (by decide)
        · refine lv_iconst (v := 0) hx hb dX6_give_49 (by decide) ?_
          exact kiret hx hb hr hlocks hS (by decide) (by decide) dX6_give_50 (⟨_, _, rfl, hP, Or.inl (⟨fun z => z.2.elim c_10_3 no_vm, rfl⟩)⟩)

def mDays (n : Nat) : Nat → SG → SG
  | 0, τ => τ
  | k + 1, τ => mDays n k (mEnd n τ)
theorem mEnd_ne {τ : SG} {n g j : Nat} (hg : g ≠ 10 ∧ g ≠ 24 ∧ g ≠ 26) : mEnd n τ g j = τ g j := by
  unfold mEnd
  rw [up_f hg.2.2]
  exact mEnd3_ne ⟨hg.1, hg.2.1⟩
theorem in_ex1 {x b : Int32} {n : Nat} (hb : b = nI n) (hn : n ≤ 900) (h : inB x 1 b = true) : ∃ d, d ≠ 0 ∧ d ≤ n ∧ x = nI d := by
  have h1 := h
  simp only [inB, Bool.and_eq_true, decide_eq_true_eq] at h1
  obtain ⟨j, hj, rfl⟩ := in_ex (x := x) (b := b) (n := n + 1) (by rw [hb]; exact nI_1 n) (by omega) (by
    simp only [inB, Bool.and_eq_true, decide_eq_true_eq]
    exact ⟨Int32.le_trans (by decide) h1.1, h1.2⟩)
  exact ⟨j, fun z => absurd h1.1 (by rw [z]; decide), by omega, rfl⟩
def cm_advance (τ : SG) (n : Nat) (vd : Int32) (v : Int32) (τ' : SG) : Prop := (inB vd 1 60 = false ∧ τ' = thr τ 1) ∨ (∃ d9, d9 ≠ 0 ∧ d9 ≤ 60 ∧ vd = nI d9 ∧ ¬ τ 26 0 + nI d9 ≤ 2000 ∧ τ' = thr τ 2) ∨ (∃ d9, d9 ≠ 0 ∧ d9 ≤ 60 ∧ vd = nI d9 ∧ τ 26 0 + nI d9 ≤ 2000 ∧ v = mDays n d9 (thr τ 0) 26 0 ∧ τ' = mDays n d9 (thr τ 0))
set_option maxHeartbeats 4000000 in
set_option maxRecDepth 100000 in
theorem kR_advance (l : Launch) (G : GE) (A : Nat → Prop) (ad : Nat → Nat) (τ : SG) (vd : Int32) (n : Nat) (hn : τ 3 0 = nI n) (hn8 : n ≤ 80) : KM l G A yX6_advance cX6_advance 3 (some .int) (rmL 4 0 0) [.ref (ad 30), .int vd] (PM G A ad τ) (fun v H => ∃ x τ', v = some (.int x) ∧ PM G A ad τ' H ∧ cm_advance τ n vd x τ') (fun _ _ => False) := by
  refine KM.of (by decide) (Nat.le_of_ble_eq_true rfl) ?_
  intro p e s m args below meth c F hP ls hl
  have hx := F.1.1
  have hb := F.1.2.1
  have hown := F.1.2.2.2.1
  have hts := F.1.2.2.2.2
  have hr := F.2.1
  have hlocks := F.2.2.1
  have hE := F.2.2.2.2.2.1
  have hA := F.2.2.2.2.2.2
  have hS : va_S A s.heap s.heap [] := va_S.rf
  have hl : lv_has ls 3 [(0, .ref (ad 30)), (1, .int vd)] := hl
  have hP := hP
  refine lv_aload_n hx hb dX6_advance_0 rfl (lv_at hl 0 rfl) ?_
  refine lv_iload_n hx hb dX6_advance_1 rfl (lv_at hl 1 rfl) ?_
  refine lv_iconst (v := 1) hx hb dX6_advance_2 (by decide) ?_
  refine lv_bipush (v := 60) hx hb dX6_advance_3 (by decide) ?_
  refine kcallS (n := 3) F (kM_in l G (fun q => s.heap.size ≤ q) vd 1 60) wML_X6_84 wST_X6_in wIN_X6 wCO_X6_in (by decide) rfl ⟨by decide, by decide⟩ hS (fun q h => hA q (Nat.le_trans hS.1 h)) (fun q h => h) trivial rfl hl.1 (Nat.le_of_ble_eq_true rfl) dX6_advance_5 ⟨by decide, by decide⟩ (fun E ce q9 H1 locs1 hx9 _ _ _ _ _ => hx9.elim) (fun v H1 locs1 hv hk hS => ?_)
  have hP := hP.old hk
  subst hv
  refine lv_if_ne (tgt := 15) hx hb dX6_advance_8 (by decide) (fun c_8_1 => ?_) (fun c_8_1 => ?_)
  · have hin := b2i_1.mp c_8_1
    obtain ⟨d9, hd0, hd6, rfl⟩ := in_ex1 (n := 60) rfl (by decide) hin
    refine lv_aload_n hx hb dX6_advance_15 rfl (lv_at hl 0 rfl) ?_
    refine gX6 F hP.main 26 (by decide) wFL_X6_94 (fun _ h9 => h9) (v := .int (τ 26 0)) rfl dX6_advance_16 ?_
    refine lv_iload_n hx hb dX6_advance_19 rfl (lv_at hl 1 rfl) ?_
    refine lv_iadd hx hb dX6_advance_20 ?_
    refine lv_sipush (v := 2000) hx hb dX6_advance_21 (by decide) ?_
    refine lv_icmp_le (tgt := 31) hx hb dX6_advance_24 (by decide) (fun c_24_2 => ?_) (fun c_24_2 => ?_)
    · refine lv_iconst (v := 0) hx hb dX6_advance_31 (by decide) ?_
      refine pX6 F hS hP.main hP.omain 27 (by decide) wFL_X6_81 (fun _ h9 => h9) rfl rfl rfl (by simp) dX6_advance_32 (fun H1 locs1 he1 z1 oq1 hS => ?_)
      have hP : PM G A ad (thr τ 0) H1 := hP.p27 he1 oq1
      refine lv_iconst (v := 0) hx hb dX6_advance_35 (by decide) ?_
      refine lv_istore_n (lv' := [(2, .int 0), (0, .ref (ad 30)), (1, .int (nI d9))]) hx hb dX6_advance_36 rfl hl (by decide) rfl (fun ls hl => ?_)
      have L37 : ∀ (n9 : Nat) (τ1 : SG) (i : Nat) (h1 : i ≤ d9) (h2 : d9 < i + n9) (hT : mDays n (d9 - i) τ1 = mDays n d9 (thr τ 0)) (hn1 : τ1 3 0 = nI n) (h27 : τ1 27 0 = 0) (H : Heap) (locs : List Loc) (ls : Array Slot), va_S A s.heap H locs → PM G A ad τ1 H → lv_has ls 3 [(2, .int (nI i)), (0, .ref (ad 30)), (1, .int (nI d9))] → W p l e (rmL 4 0 0) s m args below meth c H locs 0 0 (KE below A (fun v H => ∃ x τ', v = some (.int x) ∧ PM G A ad τ' H ∧ cm_advance τ n (nI d9) x τ') (fun _ _ => False) args s (rmL 4 0 0)) (F0 m 37 ls []) := by
        intro n9
        induction n9 with
        | zero =>
          intro τ1 i h1 h2 hT hn1 h27 H locs ls hS hP hl
          exact absurd True.intro (by omega)
        | succ n9 ih37 =>
          intro τ1 i h1 h2 hT hn1 h27 H locs ls hS hP hl
          refine lv_iload_n hx hb dX6_advance_37 rfl (lv_at hl 0 rfl) ?_
          refine lv_iload_n hx hb dX6_advance_38 rfl (lv_at hl 2 rfl) ?_
          refine lv_icmp_ge (tgt := 59) hx hb dX6_advance_39 (by decide) (fun c_39_3 => ?_) (fun c_39_3 => ?_)
          · have ei := nI_eqle (n := d9) h1 (by omega) c_39_3
            rw [ei, Nat.sub_self] at hT
            have hT : τ1 = mDays n d9 (thr τ 0) := hT
            refine lv_aload_n hx hb dX6_advance_59 rfl (lv_at hl 1 rfl) ?_
            refine gX6 F hP.main 27 (by decide) wFL_X6_81 (fun _ h9 => h9) (v := .int 0) (by simp [up, thr, h27]) dX6_advance_60 ?_
            refine lv_if_ne (tgt := 73) hx hb dX6_advance_63 (by decide) (fun c_63_4 => ?_) (fun c_63_4 => ?_)
            · exact absurd c_63_4 (by decide)
            · refine lv_aload_n hx hb dX6_advance_66 rfl (lv_at hl 1 rfl) ?_
              refine gX6 F hP.main 26 (by decide) wFL_X6_94 (fun _ h9 => h9) (v := .int (τ1 26 0)) rfl dX6_advance_67 ?_
              refine lv_goto (tgt := 74) hx hb dX6_advance_70 (by decide) ?_
              exact kiret hx hb hr hlocks hS (by decide) (by decide) dX6_advance_74 (⟨_, _, rfl, hP, Or.inr (Or.inr (⟨d9, hd0, hd6, rfl, c_24_2, by rw [hT], hT⟩))⟩)
          · have hi := nI_lt' (n := d9) h1 (by omega) c_39_3
            refine lv_aload_n hx hb dX6_advance_42 rfl (lv_at hl 1 rfl) ?_
            refine gX6 F hP.main 27 (by decide) wFL_X6_81 (fun _ h9 => h9) (v := .int 0) (by simp [up, thr, h27]) dX6_advance_43 ?_
            refine lv_if_ne (tgt := 59) hx hb dX6_advance_46 (by decide) (fun c_46_5 => ?_) (fun c_46_5 => ?_)
            · exact absurd c_46_5 (by decide)
            · refine lv_aload_n hx hb dX6_advance_49 rfl (lv_at hl 1 rfl) ?_
              refine kcallV (n := 0) F (kM_endDay l G A ad τ1 n hn1 hn8) wML_X6_168 wIM_X6_endDay wSE_X6_X6_endDay wIN_X6 wCO_X6_endDay (by decide) rfl ⟨by decide, by decide⟩ (frec F hP.main _ rfl) hS (fun _ h => h) (fun q h => hA q (Nat.le_trans hS.1 h)) hP rfl hl.1 (Nat.le_of_ble_eq_true rfl) dX6_advance_50 ⟨by decide, by decide⟩ (fun E ce q9 H1 locs1 hx9 _ _ _ _ _ => hx9.elim) (fun v H1 locs1 hv hk hS => ?_)
              obtain ⟨rfl, hP⟩ := hv
              refine lv_iinc (v := (nI (i + 1))) (lv' := [(2, .int (nI (i + 1))), (0, .ref (ad 30)), (1, .int (nI d9))]) hx hb dX6_advance_53 hl (k := 0) rfl (nI_1 _) (by decide) rfl (fun ls hl => ?_)
              refine lv_goto (tgt := 37) hx hb dX6_advance_56 (by decide) ?_
              exact ih37 (mEnd n τ1) (i + 1) (by omega) (by omega) (by rw [← hT, show d9 - i = d9 - (i + 1) + 1 by omega]; rfl) (by rw [mEnd_ne (by decide)]; exact hn1) (by rw [mEnd_ne (by decide)]; exact h27) _ _ _ hS hP (lv_sub hl [0, 1, 2] rfl)
      exact L37 (d9 + 1) (thr τ 0) 0 (by omega) (by omega) rfl (by simp [thr, up, hn]) thr_27 _ _ _ hS hP (lv_sub hl [0, 1, 2] rfl)
    · refine lv_iconst (v := 2) hx hb dX6_advance_27 (by decide) ?_
      refine lv_goto (tgt := 32) hx hb dX6_advance_28 (by decide) ?_
      refine pX6 F hS hP.main hP.omain 27 (by decide) wFL_X6_81 (fun _ h9 => h9) rfl rfl rfl (by simp) dX6_advance_32 (fun H1 locs1 he1 z1 oq1 hS => ?_)
      have hP : PM G A ad (thr τ 2) H1 := hP.p27 he1 oq1
      refine lv_iconst (v := 0) hx hb dX6_advance_35 (by decide) ?_
      refine lv_istore_n (lv' := [(2, .int 0), (0, .ref (ad 30)), (1, .int (nI d9))]) hx hb dX6_advance_36 rfl hl (by decide) rfl (fun ls hl => ?_)
      refine lv_iload_n hx hb dX6_advance_37 rfl (lv_at hl 0 rfl) ?_
      refine lv_iload_n hx hb dX6_advance_38 rfl (lv_at hl 2 rfl) ?_
      refine lv_icmp_ge (tgt := 59) hx hb dX6_advance_39 (by decide) (fun c_39_6 => ?_) (fun c_39_6 => ?_)
      · refine lv_aload_n hx hb dX6_advance_59 rfl (lv_at hl 1 rfl) ?_
        refine gX6 F hP.main 27 (by decide) wFL_X6_81 (fun _ h9 => h9) (v := .int 2) (by simp [thr, up]) dX6_advance_60 ?_
        refine lv_if_ne (tgt := 73) hx hb dX6_advance_63 (by decide) (fun c_63_7 => ?_) (fun c_63_7 => ?_)
        · refine lv_iconst (v := 0) hx hb dX6_advance_73 (by decide) ?_
          exact kiret hx hb hr hlocks hS (by decide) (by decide) dX6_advance_74 (⟨_, _, rfl, hP, Or.inr (Or.inl (⟨d9, hd0, hd6, rfl, fun z => c_24_2 z, rfl⟩))⟩)
        · exact absurd c_63_7 (by decide)
      · refine lv_aload_n hx hb dX6_advance_42 rfl (lv_at hl 1 rfl) ?_
        refine gX6 F hP.main 27 (by decide) wFL_X6_81 (fun _ h9 => h9) (v := .int 2) (by simp [thr, up]) dX6_advance_43 ?_
        refine lv_if_ne (tgt := 59) hx hb dX6_advance_46 (by decide) (fun c_46_8 => ?_) (fun c_46_8 => ?_)
        · refine lv_aload_n hx hb dX6_advance_59 rfl (lv_at hl 1 rfl) ?_
          refine gX6 F hP.main 27 (by decide) wFL_X6_81 (fun _ h9 => h9) (v := .int 2) (by simp [thr, up]) dX6_advance_60 ?_
          refine lv_if_ne (tgt := 73) hx hb dX6_advance_63 (by decide) (fun c_63_9 => ?_) (fun c_63_9 => ?_)
          · refine lv_iconst (v := 0) hx hb dX6_advance_73 (by decide) ?_
            exact kiret hx hb hr hlocks hS (by decide) (by decide) dX6_advance_74 (⟨_, _, rfl, hP, Or.inr (Or.inl (⟨d9, hd0, hd6, rfl, fun z => c_24_2 z, rfl⟩))⟩)
          · exact absurd c_63_9 (by decide)
        · exact absurd c_46_8 (by decide)
  · have hin := b2i_0.mp c_8_1
    refine lv_iconst (v := 1) hx hb dX6_advance_11 (by decide) ?_
    refine lv_goto (tgt := 32) hx hb dX6_advance_12 (by decide) ?_
    refine pX6 F hS hP.main hP.omain 27 (by decide) wFL_X6_81 (fun _ h9 => h9) rfl rfl rfl (by simp) dX6_advance_32 (fun H1 locs1 he1 z1 oq1 hS => ?_)
    have hP : PM G A ad (thr τ 1) H1 := hP.p27 he1 oq1
    refine lv_iconst (v := 0) hx hb dX6_advance_35 (by decide) ?_
    refine lv_istore_n (lv' := [(2, .int 0), (0, .ref (ad 30)), (1, .int vd)]) hx hb dX6_advance_36 rfl hl (by decide) rfl (fun ls hl => ?_)
    refine lv_iload_n hx hb dX6_advance_37 rfl (lv_at hl 0 rfl) ?_
    refine lv_iload_n hx hb dX6_advance_38 rfl (lv_at hl 2 rfl) ?_
    refine lv_icmp_ge (tgt := 59) hx hb dX6_advance_39 (by decide) (fun c_39_10 => ?_) (fun c_39_10 => ?_)
    · refine lv_aload_n hx hb dX6_advance_59 rfl (lv_at hl 1 rfl) ?_
      refine gX6 F hP.main 27 (by decide) wFL_X6_81 (fun _ h9 => h9) (v := .int 1) (by simp [thr, up]) dX6_advance_60 ?_
      refine lv_if_ne (tgt := 73) hx hb dX6_advance_63 (by decide) (fun c_63_11 => ?_) (fun c_63_11 => ?_)
      · refine lv_iconst (v := 0) hx hb dX6_advance_73 (by decide) ?_
        exact kiret hx hb hr hlocks hS (by decide) (by decide) dX6_advance_74 (⟨_, _, rfl, hP, Or.inl (⟨hin, rfl⟩)⟩)
      · exact absurd c_63_11 (by decide)
    · refine lv_aload_n hx hb dX6_advance_42 rfl (lv_at hl 1 rfl) ?_
      refine gX6 F hP.main 27 (by decide) wFL_X6_81 (fun _ h9 => h9) (v := .int 1) (by simp [thr, up]) dX6_advance_43 ?_
      refine lv_if_ne (tgt := 59) hx hb dX6_advance_46 (by decide) (fun c_46_12 => ?_) (fun c_46_12 => ?_)
      · refine lv_aload_n hx hb dX6_advance_59 rfl (lv_at hl 1 rfl) ?_
        refine gX6 F hP.main 27 (by decide) wFL_X6_81 (fun _ h9 => h9) (v := .int 1) (by simp [thr, up]) dX6_advance_60 ?_
        refine lv_if_ne (tgt := 73) hx hb dX6_advance_63 (by decide) (fun c_63_13 => ?_) (fun c_63_13 => ?_)
        · refine lv_iconst (v := 0) hx hb dX6_advance_73 (by decide) ?_
          exact kiret hx hb hr hlocks hS (by decide) (by decide) dX6_advance_74 (⟨_, _, rfl, hP, Or.inl (⟨hin, rfl⟩)⟩)
        · exact absurd c_63_13 (by decide)
      · exact absurd c_46_12 (by decide)

def cm_day (τ : SG)  (v : Int32) (τ' : SG) : Prop := (v = thr τ 0 26 0 ∧ τ' = thr τ 0)
set_option maxHeartbeats 4000000 in
set_option maxRecDepth 100000 in
theorem kR_day (l : Launch) (G : GE) (A : Nat → Prop) (ad : Nat → Nat) (τ : SG)   : KM l G A yX6_day cX6_day 1 (some .int) (rmL 1 0 0) [.ref (ad 30)] (PM G A ad τ) (fun v H => ∃ x τ', v = some (.int x) ∧ PM G A ad τ' H ∧ cm_day τ  x τ') (fun _ _ => False) := by
  refine KM.of (by decide) (Nat.le_of_ble_eq_true rfl) ?_
  intro p e s m args below meth c F hP ls hl
  have hx := F.1.1
  have hb := F.1.2.1
  have hown := F.1.2.2.2.1
  have hts := F.1.2.2.2.2
  have hr := F.2.1
  have hlocks := F.2.2.1
  have hE := F.2.2.2.2.2.1
  have hA := F.2.2.2.2.2.2
  have hS : va_S A s.heap s.heap [] := va_S.rf
  have hl : lv_has ls 1 [(0, .ref (ad 30))] := hl
  have hP := hP
  refine lv_aload_n hx hb dX6_day_0 rfl (lv_at hl 0 rfl) ?_
  refine lv_iconst (v := 0) hx hb dX6_day_1 (by decide) ?_
  refine pX6 F hS hP.main hP.omain 27 (by decide) wFL_X6_81 (fun _ h9 => h9) rfl rfl rfl (by simp) dX6_day_2 (fun H1 locs1 he1 z1 oq1 hS => ?_)
  have hP : PM G A ad (thr τ 0) H1 := hP.p27 he1 oq1
  refine lv_aload_n hx hb dX6_day_5 rfl (lv_at hl 0 rfl) ?_
  refine gX6 F hP.main 26 (by decide) wFL_X6_94 (fun _ h9 => h9) (v := .int ((thr τ 0) 26 0)) rfl dX6_day_6 ?_
  exact kiret hx hb hr hlocks hS (by decide) (by decide) dX6_day_9 (⟨_, _, rfl, hP, ⟨rfl, rfl⟩⟩)

def cm_takings (τ : SG)  (v : Int32) (τ' : SG) : Prop := (v = thr τ 0 25 0 ∧ τ' = thr τ 0)
set_option maxHeartbeats 4000000 in
set_option maxRecDepth 100000 in
theorem kR_takings (l : Launch) (G : GE) (A : Nat → Prop) (ad : Nat → Nat) (τ : SG)   : KM l G A yX6_takings cX6_takings 1 (some .int) (rmL 1 0 0) [.ref (ad 30)] (PM G A ad τ) (fun v H => ∃ x τ', v = some (.int x) ∧ PM G A ad τ' H ∧ cm_takings τ  x τ') (fun _ _ => False) := by
  refine KM.of (by decide) (Nat.le_of_ble_eq_true rfl) ?_
  intro p e s m args below meth c F hP ls hl
  have hx := F.1.1
  have hb := F.1.2.1
  have hown := F.1.2.2.2.1
  have hts := F.1.2.2.2.2
  have hr := F.2.1
  have hlocks := F.2.2.1
  have hE := F.2.2.2.2.2.1
  have hA := F.2.2.2.2.2.2
  have hS : va_S A s.heap s.heap [] := va_S.rf
  have hl : lv_has ls 1 [(0, .ref (ad 30))] := hl
  have hP := hP
  refine lv_aload_n hx hb dX6_takings_0 rfl (lv_at hl 0 rfl) ?_
  refine lv_iconst (v := 0) hx hb dX6_takings_1 (by decide) ?_
  refine pX6 F hS hP.main hP.omain 27 (by decide) wFL_X6_81 (fun _ h9 => h9) rfl rfl rfl (by simp) dX6_takings_2 (fun H1 locs1 he1 z1 oq1 hS => ?_)
  have hP : PM G A ad (thr τ 0) H1 := hP.p27 he1 oq1
  refine lv_aload_n hx hb dX6_takings_5 rfl (lv_at hl 0 rfl) ?_
  refine gX6 F hP.main 25 (by decide) wFL_X6_101 (fun _ h9 => h9) (v := .int ((thr τ 0) 25 0)) rfl dX6_takings_6 ?_
  exact kiret hx hb hr hlocks hS (by decide) (by decide) dX6_takings_9 (⟨_, _, rfl, hP, ⟨rfl, rfl⟩⟩)

def cm_tickets (τ : SG)  (v : Int32) (τ' : SG) : Prop := (v = thr τ 0 3 0 ∧ τ' = thr τ 0)
set_option maxHeartbeats 4000000 in
set_option maxRecDepth 100000 in
theorem kR_tickets (l : Launch) (G : GE) (A : Nat → Prop) (ad : Nat → Nat) (τ : SG)   : KM l G A yX6_tickets cX6_tickets 1 (some .int) (rmL 1 0 0) [.ref (ad 30)] (PM G A ad τ) (fun v H => ∃ x τ', v = some (.int x) ∧ PM G A ad τ' H ∧ cm_tickets τ  x τ') (fun _ _ => False) := by
  refine KM.of (by decide) (Nat.le_of_ble_eq_true rfl) ?_
  intro p e s m args below meth c F hP ls hl
  have hx := F.1.1
  have hb := F.1.2.1
  have hown := F.1.2.2.2.1
  have hts := F.1.2.2.2.2
  have hr := F.2.1
  have hlocks := F.2.2.1
  have hE := F.2.2.2.2.2.1
  have hA := F.2.2.2.2.2.2
  have hS : va_S A s.heap s.heap [] := va_S.rf
  have hl : lv_has ls 1 [(0, .ref (ad 30))] := hl
  have hP := hP
  refine lv_aload_n hx hb dX6_tickets_0 rfl (lv_at hl 0 rfl) ?_
  refine lv_iconst (v := 0) hx hb dX6_tickets_1 (by decide) ?_
  refine pX6 F hS hP.main hP.omain 27 (by decide) wFL_X6_81 (fun _ h9 => h9) rfl rfl rfl (by simp) dX6_tickets_2 (fun H1 locs1 he1 z1 oq1 hS => ?_)
  have hP : PM G A ad (thr τ 0) H1 := hP.p27 he1 oq1
  refine lv_aload_n hx hb dX6_tickets_5 rfl (lv_at hl 0 rfl) ?_
  refine gX6 F hP.main 3 (by decide) wFL_X6_88 (fun _ h9 => h9) (v := .int ((thr τ 0) 3 0)) rfl dX6_tickets_6 ?_
  exact kiret hx hb hr hlocks hS (by decide) (by decide) dX6_tickets_9 (⟨_, _, rfl, hP, ⟨rfl, rfl⟩⟩)

def cm_whereIs (τ : SG) (n : Nat) (vt : Int32) (v : Int32) (τ' : SG) : Prop := (¬ (∃ j, j < n ∧ vt = nI j) ∧ τ' = thr τ 1) ∨ (∃ t, t < n ∧ vt = nI t ∧ v = thr τ 0 10 t ∧ τ' = thr τ 0)
set_option maxHeartbeats 4000000 in
set_option maxRecDepth 100000 in
theorem kR_whereIs (l : Launch) (G : GE) (A : Nat → Prop) (ad : Nat → Nat) (τ : SG) (vt : Int32) (n : Nat) (hn : τ 3 0 = nI n) (hn8 : n ≤ 80) : KM l G A yX6_whereIs cX6_whereIs 2 (some .int) (rmL 3 0 0) [.ref (ad 30), .int vt] (PM G A ad τ) (fun v H => ∃ x τ', v = some (.int x) ∧ PM G A ad τ' H ∧ cm_whereIs τ n vt x τ') (fun _ _ => False) := by
  refine KM.of (by decide) (Nat.le_of_ble_eq_true rfl) ?_
  intro p e s m args below meth c F hP ls hl
  have hx := F.1.1
  have hb := F.1.2.1
  have hown := F.1.2.2.2.1
  have hts := F.1.2.2.2.2
  have hr := F.2.1
  have hlocks := F.2.2.1
  have hE := F.2.2.2.2.2.1
  have hA := F.2.2.2.2.2.2
  have hS : va_S A s.heap s.heap [] := va_S.rf
  have hl : lv_has ls 2 [(0, .ref (ad 30)), (1, .int vt)] := hl
  have hP := hP
  refine lv_aload_n hx hb dX6_whereIs_0 rfl (lv_at hl 0 rfl) ?_
  refine lv_aload_n hx hb dX6_whereIs_1 rfl (lv_at hl 0 rfl) ?_
  refine lv_iload_n hx hb dX6_whereIs_2 rfl (lv_at hl 1 rfl) ?_
  refine kcallV (n := 1) F (kM_isTicket l G (fun q => s.heap.size ≤ q) A ad τ vt) wML_X6_121 wIM_X6_isTicket wSE_X6_X6_isTicket wIN_X6 wCO_X6_isTicket (by decide) rfl ⟨by decide, by decide⟩ (frec F hP.main _ rfl) hS (fun q h => hA q (Nat.le_trans hS.1 h)) (fun q h => h) hP rfl hl.1 (Nat.le_of_ble_eq_true rfl) dX6_whereIs_3 ⟨by decide, by decide⟩ (fun E ce q9 H1 locs1 hx9 _ _ _ _ _ => hx9.elim) (fun v H1 locs1 hv hk hS => ?_)
  have hP := hP.old hk
  subst hv
  refine lv_if_eq (tgt := 13) hx hb dX6_whereIs_6 (by decide) (fun c_6_1 => ?_) (fun c_6_1 => ?_)
  · have no_vt := in_no (n := n) (by rw [hn]; exact m1p) (by omega) (b2i_0.mp c_6_1)
    refine lv_iconst (v := 1) hx hb dX6_whereIs_13 (by decide) ?_
    refine pX6 F hS hP.main hP.omain 27 (by decide) wFL_X6_81 (fun _ h9 => h9) rfl rfl rfl (by simp) dX6_whereIs_14 (fun H1 locs1 he1 z1 oq1 hS => ?_)
    have hP : PM G A ad (thr τ 1) H1 := hP.p27 he1 oq1
    refine lv_aload_n hx hb dX6_whereIs_17 rfl (lv_at hl 0 rfl) ?_
    refine gX6 F hP.main 27 (by decide) wFL_X6_81 (fun _ h9 => h9) (v := .int 1) (by simp [thr, up]) dX6_whereIs_18 ?_
    refine lv_if_ne (tgt := 33) hx hb dX6_whereIs_21 (by decide) (fun c_21_2 => ?_) (fun c_21_2 => ?_)
    · refine lv_iconst (v := 0) hx hb dX6_whereIs_33 (by decide) ?_
      exact kiret hx hb hr hlocks hS (by decide) (by decide) dX6_whereIs_34 (⟨_, _, rfl, hP, Or.inl (⟨no_vt, rfl⟩)⟩)
    · exact absurd c_21_2 (by decide)
  · obtain ⟨t, ht, rfl⟩ := in_ex (n := n) (by rw [hn]; exact m1p) (by omega) (b2i_1.mp c_6_1)
    refine lv_iconst (v := 0) hx hb dX6_whereIs_9 (by decide) ?_
    refine lv_goto (tgt := 14) hx hb dX6_whereIs_10 (by decide) ?_
    refine pX6 F hS hP.main hP.omain 27 (by decide) wFL_X6_81 (fun _ h9 => h9) rfl rfl rfl (by simp) dX6_whereIs_14 (fun H1 locs1 he1 z1 oq1 hS => ?_)
    have hP : PM G A ad (thr τ 0) H1 := hP.p27 he1 oq1
    refine lv_aload_n hx hb dX6_whereIs_17 rfl (lv_at hl 0 rfl) ?_
    refine gX6 F hP.main 27 (by decide) wFL_X6_81 (fun _ h9 => h9) (v := .int 0) (by simp [thr, up]) dX6_whereIs_18 ?_
    refine lv_if_ne (tgt := 33) hx hb dX6_whereIs_21 (by decide) (fun c_21_3 => ?_) (fun c_21_3 => ?_)
    · exact absurd c_21_3 (by decide)
    · refine lv_aload_n hx hb dX6_whereIs_24 rfl (lv_at hl 0 rfl) ?_
      refine gX6 F hP.main 10 (by decide) wFL_X6_35 (fun _ h9 => h9) (v := .ref (ad 10)) rfl dX6_whereIs_25 ?_
      refine lv_iload_n hx hb dX6_whereIs_28 rfl (lv_at hl 1 rfl) ?_
      refine xiald hx hb hE.1.1 (hP.arr 10 (by decide) (by decide)) 0 rfl (k := t) rfl (show _ < 80 by omega) (by decide) dX6_whereIs_29 ?_
      refine lv_goto (tgt := 34) hx hb dX6_whereIs_30 (by decide) ?_
      exact kiret hx hb hr hlocks hS (by decide) (by decide) dX6_whereIs_34 (⟨_, _, rfl, hP, Or.inr (⟨t, ht, rfl, rfl, rfl⟩)⟩)

def cm_seen (τ : SG) (n : Nat) (vt : Int32) (v : Int32) (τ' : SG) : Prop := (¬ (∃ j, j < n ∧ vt = nI j) ∧ τ' = thr τ 1) ∨ (∃ t, t < n ∧ vt = nI t ∧ v = thr τ 0 13 t ∧ τ' = thr τ 0)
set_option maxHeartbeats 4000000 in
set_option maxRecDepth 100000 in
theorem kR_seen (l : Launch) (G : GE) (A : Nat → Prop) (ad : Nat → Nat) (τ : SG) (vt : Int32) (n : Nat) (hn : τ 3 0 = nI n) (hn8 : n ≤ 80) : KM l G A yX6_seen cX6_seen 2 (some .int) (rmL 3 0 0) [.ref (ad 30), .int vt] (PM G A ad τ) (fun v H => ∃ x τ', v = some (.int x) ∧ PM G A ad τ' H ∧ cm_seen τ n vt x τ') (fun _ _ => False) := by
  refine KM.of (by decide) (Nat.le_of_ble_eq_true rfl) ?_
  intro p e s m args below meth c F hP ls hl
  have hx := F.1.1
  have hb := F.1.2.1
  have hown := F.1.2.2.2.1
  have hts := F.1.2.2.2.2
  have hr := F.2.1
  have hlocks := F.2.2.1
  have hE := F.2.2.2.2.2.1
  have hA := F.2.2.2.2.2.2
  have hS : va_S A s.heap s.heap [] := va_S.rf
  have hl : lv_has ls 2 [(0, .ref (ad 30)), (1, .int vt)] := hl
  have hP := hP
  refine lv_aload_n hx hb dX6_seen_0 rfl (lv_at hl 0 rfl) ?_
  refine lv_aload_n hx hb dX6_seen_1 rfl (lv_at hl 0 rfl) ?_
  refine lv_iload_n hx hb dX6_seen_2 rfl (lv_at hl 1 rfl) ?_
  refine kcallV (n := 1) F (kM_isTicket l G (fun q => s.heap.size ≤ q) A ad τ vt) wML_X6_121 wIM_X6_isTicket wSE_X6_X6_isTicket wIN_X6 wCO_X6_isTicket (by decide) rfl ⟨by decide, by decide⟩ (frec F hP.main _ rfl) hS (fun q h => hA q (Nat.le_trans hS.1 h)) (fun q h => h) hP rfl hl.1 (Nat.le_of_ble_eq_true rfl) dX6_seen_3 ⟨by decide, by decide⟩ (fun E ce q9 H1 locs1 hx9 _ _ _ _ _ => hx9.elim) (fun v H1 locs1 hv hk hS => ?_)
  have hP := hP.old hk
  subst hv
  refine lv_if_eq (tgt := 13) hx hb dX6_seen_6 (by decide) (fun c_6_1 => ?_) (fun c_6_1 => ?_)
  · have no_vt := in_no (n := n) (by rw [hn]; exact m1p) (by omega) (b2i_0.mp c_6_1)
    refine lv_iconst (v := 1) hx hb dX6_seen_13 (by decide) ?_
    refine pX6 F hS hP.main hP.omain 27 (by decide) wFL_X6_81 (fun _ h9 => h9) rfl rfl rfl (by simp) dX6_seen_14 (fun H1 locs1 he1 z1 oq1 hS => ?_)
    have hP : PM G A ad (thr τ 1) H1 := hP.p27 he1 oq1
    refine lv_aload_n hx hb dX6_seen_17 rfl (lv_at hl 0 rfl) ?_
    refine gX6 F hP.main 27 (by decide) wFL_X6_81 (fun _ h9 => h9) (v := .int 1) (by simp [thr, up]) dX6_seen_18 ?_
    refine lv_if_ne (tgt := 33) hx hb dX6_seen_21 (by decide) (fun c_21_2 => ?_) (fun c_21_2 => ?_)
    · refine lv_iconst (v := 0) hx hb dX6_seen_33 (by decide) ?_
      exact kiret hx hb hr hlocks hS (by decide) (by decide) dX6_seen_34 (⟨_, _, rfl, hP, Or.inl (⟨no_vt, rfl⟩)⟩)
    · exact absurd c_21_2 (by decide)
  · obtain ⟨t, ht, rfl⟩ := in_ex (n := n) (by rw [hn]; exact m1p) (by omega) (b2i_1.mp c_6_1)
    refine lv_iconst (v := 0) hx hb dX6_seen_9 (by decide) ?_
    refine lv_goto (tgt := 14) hx hb dX6_seen_10 (by decide) ?_
    refine pX6 F hS hP.main hP.omain 27 (by decide) wFL_X6_81 (fun _ h9 => h9) rfl rfl rfl (by simp) dX6_seen_14 (fun H1 locs1 he1 z1 oq1 hS => ?_)
    have hP : PM G A ad (thr τ 0) H1 := hP.p27 he1 oq1
    refine lv_aload_n hx hb dX6_seen_17 rfl (lv_at hl 0 rfl) ?_
    refine gX6 F hP.main 27 (by decide) wFL_X6_81 (fun _ h9 => h9) (v := .int 0) (by simp [thr, up]) dX6_seen_18 ?_
    refine lv_if_ne (tgt := 33) hx hb dX6_seen_21 (by decide) (fun c_21_3 => ?_) (fun c_21_3 => ?_)
    · exact absurd c_21_3 (by decide)
    · refine lv_aload_n hx hb dX6_seen_24 rfl (lv_at hl 0 rfl) ?_
      refine gX6 F hP.main 13 (by decide) wFL_X6_41 (fun _ h9 => h9) (v := .ref (ad 13)) rfl dX6_seen_25 ?_
      refine lv_iload_n hx hb dX6_seen_28 rfl (lv_at hl 1 rfl) ?_
      refine xiald hx hb hE.1.1 (hP.arr 13 (by decide) (by decide)) 0 rfl (k := t) rfl (show _ < 80 by omega) (by decide) dX6_seen_29 ?_
      refine lv_goto (tgt := 34) hx hb dX6_seen_30 (by decide) ?_
      exact kiret hx hb hr hlocks hS (by decide) (by decide) dX6_seen_34 (⟨_, _, rfl, hP, Or.inr (⟨t, ht, rfl, rfl, rfl⟩)⟩)

def cm_views (τ : SG) (nW : Nat) (vw : Int32) (v : Int32) (τ' : SG) : Prop := (¬ (∃ j, j < nW ∧ vw = nI j) ∧ τ' = thr τ 1) ∨ (∃ u, u < nW ∧ vw = nI u ∧ v = thr τ 0 23 u ∧ τ' = thr τ 0)
set_option maxHeartbeats 4000000 in
set_option maxRecDepth 100000 in
theorem kR_views (l : Launch) (G : GE) (A : Nat → Prop) (ad : Nat → Nat) (τ : SG) (vw : Int32) (nW : Nat) (hw : τ 16 0 = nI nW) (hnW : nW ≤ 12) : KM l G A yX6_views cX6_views 2 (some .int) (rmL 3 0 0) [.ref (ad 30), .int vw] (PM G A ad τ) (fun v H => ∃ x τ', v = some (.int x) ∧ PM G A ad τ' H ∧ cm_views τ nW vw x τ') (fun _ _ => False) := by
  refine KM.of (by decide) (Nat.le_of_ble_eq_true rfl) ?_
  intro p e s m args below meth c F hP ls hl
  have hx := F.1.1
  have hb := F.1.2.1
  have hown := F.1.2.2.2.1
  have hts := F.1.2.2.2.2
  have hr := F.2.1
  have hlocks := F.2.2.1
  have hE := F.2.2.2.2.2.1
  have hA := F.2.2.2.2.2.2
  have hS : va_S A s.heap s.heap [] := va_S.rf
  have hl : lv_has ls 2 [(0, .ref (ad 30)), (1, .int vw)] := hl
  have hP := hP
  refine lv_aload_n hx hb dX6_views_0 rfl (lv_at hl 0 rfl) ?_
  refine lv_aload_n hx hb dX6_views_1 rfl (lv_at hl 0 rfl) ?_
  refine lv_iload_n hx hb dX6_views_2 rfl (lv_at hl 1 rfl) ?_
  refine kcallV (n := 1) F (kM_isWork l G (fun q => s.heap.size ≤ q) A ad τ vw) wML_X6_155 wIM_X6_isWork wSE_X6_X6_isWork wIN_X6 wCO_X6_isWork (by decide) rfl ⟨by decide, by decide⟩ (frec F hP.main _ rfl) hS (fun q h => hA q (Nat.le_trans hS.1 h)) (fun q h => h) hP rfl hl.1 (Nat.le_of_ble_eq_true rfl) dX6_views_3 ⟨by decide, by decide⟩ (fun E ce q9 H1 locs1 hx9 _ _ _ _ _ => hx9.elim) (fun v H1 locs1 hv hk hS => ?_)
  have hP := hP.old hk
  subst hv
  refine lv_if_eq (tgt := 13) hx hb dX6_views_6 (by decide) (fun c_6_1 => ?_) (fun c_6_1 => ?_)
  · have no_vw := in_no (n := nW) (by rw [hw]; exact m1p) (by omega) (b2i_0.mp c_6_1)
    refine lv_iconst (v := 1) hx hb dX6_views_13 (by decide) ?_
    refine pX6 F hS hP.main hP.omain 27 (by decide) wFL_X6_81 (fun _ h9 => h9) rfl rfl rfl (by simp) dX6_views_14 (fun H1 locs1 he1 z1 oq1 hS => ?_)
    have hP : PM G A ad (thr τ 1) H1 := hP.p27 he1 oq1
    refine lv_aload_n hx hb dX6_views_17 rfl (lv_at hl 0 rfl) ?_
    refine gX6 F hP.main 27 (by decide) wFL_X6_81 (fun _ h9 => h9) (v := .int 1) (by simp [thr, up]) dX6_views_18 ?_
    refine lv_if_ne (tgt := 33) hx hb dX6_views_21 (by decide) (fun c_21_2 => ?_) (fun c_21_2 => ?_)
    · refine lv_iconst (v := 0) hx hb dX6_views_33 (by decide) ?_
      exact kiret hx hb hr hlocks hS (by decide) (by decide) dX6_views_34 (⟨_, _, rfl, hP, Or.inl (⟨no_vw, rfl⟩)⟩)
    · exact absurd c_21_2 (by decide)
  · obtain ⟨u, hu, rfl⟩ := in_ex (n := nW) (by rw [hw]; exact m1p) (by omega) (b2i_1.mp c_6_1)
    refine lv_iconst (v := 0) hx hb dX6_views_9 (by decide) ?_
    refine lv_goto (tgt := 14) hx hb dX6_views_10 (by decide) ?_
    refine pX6 F hS hP.main hP.omain 27 (by decide) wFL_X6_81 (fun _ h9 => h9) rfl rfl rfl (by simp) dX6_views_14 (fun H1 locs1 he1 z1 oq1 hS => ?_)
    have hP : PM G A ad (thr τ 0) H1 := hP.p27 he1 oq1
    refine lv_aload_n hx hb dX6_views_17 rfl (lv_at hl 0 rfl) ?_
    refine gX6 F hP.main 27 (by decide) wFL_X6_81 (fun _ h9 => h9) (v := .int 0) (by simp [thr, up]) dX6_views_18 ?_
    refine lv_if_ne (tgt := 33) hx hb dX6_views_21 (by decide) (fun c_21_3 => ?_) (fun c_21_3 => ?_)
    · exact absurd c_21_3 (by decide)
    · refine lv_aload_n hx hb dX6_views_24 rfl (lv_at hl 0 rfl) ?_
      refine gX6 F hP.main 23 (by decide) wFL_X6_68 (fun _ h9 => h9) (v := .ref (ad 23)) rfl dX6_views_25 ?_
      refine lv_iload_n hx hb dX6_views_28 rfl (lv_at hl 1 rfl) ?_
      refine xiald hx hb hE.1.1 (hP.arr 23 (by decide) (by decide)) 0 rfl (k := u) rfl (show _ < 12 by omega) (by decide) dX6_views_29 ?_
      refine lv_goto (tgt := 34) hx hb dX6_views_30 (by decide) ?_
      exact kiret hx hb hr hlocks hS (by decide) (by decide) dX6_views_34 (⟨_, _, rfl, hP, Or.inr (⟨u, hu, rfl, rfl, rfl⟩)⟩)

def cm_inside (τ : SG) (n : Nat) (vr : Int32) (v : Int32) (τ' : SG) : Prop := (¬ (∃ j, j < 12 ∧ vr = nI j) ∧ τ' = thr τ 1) ∨ (∃ r, r < 12 ∧ vr = nI r ∧ v = nI (cntF (mIn (thr τ 0) (nI r)) 0 n) ∧ τ' = thr τ 0)
set_option maxHeartbeats 4000000 in
set_option maxRecDepth 100000 in
theorem kR_inside (l : Launch) (G : GE) (A : Nat → Prop) (ad : Nat → Nat) (τ : SG) (vr : Int32) (n : Nat) (hn : τ 3 0 = nI n) (hn8 : n ≤ 80) : KM l G A yX6_inside cX6_inside 2 (some .int) (rmL 3 0 0) [.ref (ad 30), .int vr] (PM G A ad τ) (fun v H => ∃ x τ', v = some (.int x) ∧ PM G A ad τ' H ∧ cm_inside τ n vr x τ') (fun _ _ => False) := by
  refine KM.of (by decide) (Nat.le_of_ble_eq_true rfl) ?_
  intro p e s m args below meth c F hP ls hl
  have hx := F.1.1
  have hb := F.1.2.1
  have hown := F.1.2.2.2.1
  have hts := F.1.2.2.2.2
  have hr := F.2.1
  have hlocks := F.2.2.1
  have hE := F.2.2.2.2.2.1
  have hA := F.2.2.2.2.2.2
  have hS : va_S A s.heap s.heap [] := va_S.rf
  have hl : lv_has ls 2 [(0, .ref (ad 30)), (1, .int vr)] := hl
  have hP := hP
  refine lv_aload_n hx hb dX6_inside_0 rfl (lv_at hl 0 rfl) ?_
  refine lv_iload_n hx hb dX6_inside_1 rfl (lv_at hl 1 rfl) ?_
  refine kcallS (n := 1) F (kM_isRoom l G (fun q => s.heap.size ≤ q) vr) wML_X6_142 wST_X6_isRoom wIN_X6 wCO_X6_isRoom (by decide) rfl ⟨by decide, by decide⟩ hS (fun q h => hA q (Nat.le_trans hS.1 h)) (fun q h => h) trivial rfl hl.1 (Nat.le_of_ble_eq_true rfl) dX6_inside_2 ⟨by decide, by decide⟩ (fun E ce q9 H1 locs1 hx9 _ _ _ _ _ => hx9.elim) (fun v H1 locs1 hv hk hS => ?_)
  have hP := hP.old hk
  subst hv
  refine lv_if_eq (tgt := 12) hx hb dX6_inside_5 (by decide) (fun c_5_1 => ?_) (fun c_5_1 => ?_)
  · have no_vr := in_no (n := 12) rfl (by decide) (b2i_0.mp c_5_1)
    refine lv_iconst (v := 1) hx hb dX6_inside_12 (by decide) ?_
    refine pX6 F hS hP.main hP.omain 27 (by decide) wFL_X6_81 (fun _ h9 => h9) rfl rfl rfl (by simp) dX6_inside_13 (fun H1 locs1 he1 z1 oq1 hS => ?_)
    have hP : PM G A ad (thr τ 1) H1 := hP.p27 he1 oq1
    refine lv_aload_n hx hb dX6_inside_16 rfl (lv_at hl 0 rfl) ?_
    refine gX6 F hP.main 27 (by decide) wFL_X6_81 (fun _ h9 => h9) (v := .int 1) (by simp [thr, up]) dX6_inside_17 ?_
    refine lv_if_ne (tgt := 31) hx hb dX6_inside_20 (by decide) (fun c_20_2 => ?_) (fun c_20_2 => ?_)
    · refine lv_iconst (v := 0) hx hb dX6_inside_31 (by decide) ?_
      exact kiret hx hb hr hlocks hS (by decide) (by decide) dX6_inside_32 (⟨_, _, rfl, hP, Or.inl (⟨no_vr, rfl⟩)⟩)
    · exact absurd c_20_2 (by decide)
  · obtain ⟨r, hr9, rfl⟩ := in_ex (n := 12) rfl (by decide) (b2i_1.mp c_5_1)
    refine lv_iconst (v := 0) hx hb dX6_inside_8 (by decide) ?_
    refine lv_goto (tgt := 13) hx hb dX6_inside_9 (by decide) ?_
    refine pX6 F hS hP.main hP.omain 27 (by decide) wFL_X6_81 (fun _ h9 => h9) rfl rfl rfl (by simp) dX6_inside_13 (fun H1 locs1 he1 z1 oq1 hS => ?_)
    have hP : PM G A ad (thr τ 0) H1 := hP.p27 he1 oq1
    refine lv_aload_n hx hb dX6_inside_16 rfl (lv_at hl 0 rfl) ?_
    refine gX6 F hP.main 27 (by decide) wFL_X6_81 (fun _ h9 => h9) (v := .int 0) (by simp [thr, up]) dX6_inside_17 ?_
    refine lv_if_ne (tgt := 31) hx hb dX6_inside_20 (by decide) (fun c_20_3 => ?_) (fun c_20_3 => ?_)
    · exact absurd c_20_3 (by decide)
    · refine lv_aload_n hx hb dX6_inside_23 rfl (lv_at hl 0 rfl) ?_
      refine lv_iload_n hx hb dX6_inside_24 rfl (lv_at hl 1 rfl) ?_
      refine kcallV (n := 1) F (kM_insideOf l G (fun q => H1.size ≤ q) A ad (thr τ 0) (nI r) n (by simp [thr, up, hn]) hn8) wML_X6_134 wIM_X6_insideOf wSE_X6_X6_insideOf wIN_X6 wCO_X6_insideOf (by decide) rfl ⟨by decide, by decide⟩ (frec F hP.main _ rfl) hS (fun q h => hA q (Nat.le_trans hS.1 h)) (fun q h => h) hP rfl hl.1 (Nat.le_of_ble_eq_true rfl) dX6_inside_25 ⟨by decide, by decide⟩ (fun E ce q9 H1 locs1 hx9 _ _ _ _ _ => hx9.elim) (fun v H1 locs1 hv hk hS => ?_)
      have hP := hP.old hk
      subst hv
      refine lv_goto (tgt := 32) hx hb dX6_inside_28 (by decide) ?_
      exact kiret hx hb hr hlocks hS (by decide) (by decide) dX6_inside_32 (⟨_, _, rfl, hP, Or.inr (⟨r, hr9, rfl, rfl, rfl⟩)⟩)

def cm_queued (τ : SG) (n : Nat) (vr vp : Int32) (v : Int32) (τ' : SG) : Prop := (¬ ((∃ j, j < 12 ∧ vr = nI j) ∧ 0 ≤ vp) ∧ τ' = thr τ 1) ∨ (∃ r, r < 12 ∧ vr = nI r ∧ 0 ≤ vp ∧ v = mQ (thr τ 0) n r vp ∧ τ' = thr τ 0)
set_option maxHeartbeats 4000000 in
set_option maxRecDepth 100000 in
theorem kR_queued (l : Launch) (G : GE) (A : Nat → Prop) (ad : Nat → Nat) (τ : SG) (vr vp : Int32) (n : Nat) (hn : τ 3 0 = nI n) (hn8 : n ≤ 80) : KM l G A yX6_queued cX6_queued 3 (some .int) (rmL 3 0 0) [.ref (ad 30), .int vr, .int vp] (PM G A ad τ) (fun v H => ∃ x τ', v = some (.int x) ∧ PM G A ad τ' H ∧ cm_queued τ n vr vp x τ') (fun _ _ => False) := by
  refine KM.of (by decide) (Nat.le_of_ble_eq_true rfl) ?_
  intro p e s m args below meth c F hP ls hl
  have hx := F.1.1
  have hb := F.1.2.1
  have hown := F.1.2.2.2.1
  have hts := F.1.2.2.2.2
  have hr := F.2.1
  have hlocks := F.2.2.1
  have hE := F.2.2.2.2.2.1
  have hA := F.2.2.2.2.2.2
  have hS : va_S A s.heap s.heap [] := va_S.rf
  have hl : lv_has ls 3 [(0, .ref (ad 30)), (1, .int vr), (2, .int vp)] := hl
  have hP := hP
  refine lv_aload_n hx hb dX6_queued_0 rfl (lv_at hl 0 rfl) ?_
  refine lv_iload_n hx hb dX6_queued_1 rfl (lv_at hl 1 rfl) ?_
  refine kcallS (n := 1) F (kM_isRoom l G (fun q => s.heap.size ≤ q) vr) wML_X6_142 wST_X6_isRoom wIN_X6 wCO_X6_isRoom (by decide) rfl ⟨by decide, by decide⟩ hS (fun q h => hA q (Nat.le_trans hS.1 h)) (fun q h => h) trivial rfl hl.1 (Nat.le_of_ble_eq_true rfl) dX6_queued_2 ⟨by decide, by decide⟩ (fun E ce q9 H1 locs1 hx9 _ _ _ _ _ => hx9.elim) (fun v H1 locs1 hv hk hS => ?_)
  have hP := hP.old hk
  subst hv
  refine lv_if_eq (tgt := 16) hx hb dX6_queued_5 (by decide) (fun c_5_1 => ?_) (fun c_5_1 => ?_)
  · have no_vr := in_no (n := 12) rfl (by decide) (b2i_0.mp c_5_1)
    refine lv_iconst (v := 1) hx hb dX6_queued_16 (by decide) ?_
    refine pX6 F hS hP.main hP.omain 27 (by decide) wFL_X6_81 (fun _ h9 => h9) rfl rfl rfl (by simp) dX6_queued_17 (fun H1 locs1 he1 z1 oq1 hS => ?_)
    have hP : PM G A ad (thr τ 1) H1 := hP.p27 he1 oq1
    refine lv_aload_n hx hb dX6_queued_20 rfl (lv_at hl 0 rfl) ?_
    refine gX6 F hP.main 27 (by decide) wFL_X6_81 (fun _ h9 => h9) (v := .int 1) (by simp [thr, up]) dX6_queued_21 ?_
    refine lv_if_ne (tgt := 36) hx hb dX6_queued_24 (by decide) (fun c_24_2 => ?_) (fun c_24_2 => ?_)
    · refine lv_iconst (v := 0) hx hb dX6_queued_36 (by decide) ?_
      exact kiret hx hb hr hlocks hS (by decide) (by decide) dX6_queued_37 (⟨_, _, rfl, hP, Or.inl (⟨fun z => no_vr z.1, rfl⟩)⟩)
    · exact absurd c_24_2 (by decide)
  · obtain ⟨r, hr9, rfl⟩ := in_ex (n := 12) rfl (by decide) (b2i_1.mp c_5_1)
    refine lv_iload_n hx hb dX6_queued_8 rfl (lv_at hl 2 rfl) ?_
    refine lv_if_lt (tgt := 16) hx hb dX6_queued_9 (by decide) (fun c_9_3 => ?_) (fun c_9_3 => ?_)
    · refine lv_iconst (v := 1) hx hb dX6_queued_16 (by decide) ?_
      refine pX6 F hS hP.main hP.omain 27 (by decide) wFL_X6_81 (fun _ h9 => h9) rfl rfl rfl (by simp) dX6_queued_17 (fun H1 locs1 he1 z1 oq1 hS => ?_)
      have hP : PM G A ad (thr τ 1) H1 := hP.p27 he1 oq1
      refine lv_aload_n hx hb dX6_queued_20 rfl (lv_at hl 0 rfl) ?_
      refine gX6 F hP.main 27 (by decide) wFL_X6_81 (fun _ h9 => h9) (v := .int 1) (by simp [thr, up]) dX6_queued_21 ?_
      refine lv_if_ne (tgt := 36) hx hb dX6_queued_24 (by decide) (fun c_24_4 => ?_) (fun c_24_4 => ?_)
      · refine lv_iconst (v := 0) hx hb dX6_queued_36 (by decide) ?_
        exact kiret hx hb hr hlocks hS (by decide) (by decide) dX6_queued_37 (⟨_, _, rfl, hP, Or.inl (⟨fun z => Int32.not_le.mpr c_9_3 z.2, rfl⟩)⟩)
      · exact absurd c_24_4 (by decide)
    · refine lv_iconst (v := 0) hx hb dX6_queued_12 (by decide) ?_
      refine lv_goto (tgt := 17) hx hb dX6_queued_13 (by decide) ?_
      refine pX6 F hS hP.main hP.omain 27 (by decide) wFL_X6_81 (fun _ h9 => h9) rfl rfl rfl (by simp) dX6_queued_17 (fun H1 locs1 he1 z1 oq1 hS => ?_)
      have hP : PM G A ad (thr τ 0) H1 := hP.p27 he1 oq1
      refine lv_aload_n hx hb dX6_queued_20 rfl (lv_at hl 0 rfl) ?_
      refine gX6 F hP.main 27 (by decide) wFL_X6_81 (fun _ h9 => h9) (v := .int 0) (by simp [thr, up]) dX6_queued_21 ?_
      refine lv_if_ne (tgt := 36) hx hb dX6_queued_24 (by decide) (fun c_24_5 => ?_) (fun c_24_5 => ?_)
      · exact absurd c_24_5 (by decide)
      · refine lv_aload_n hx hb dX6_queued_27 rfl (lv_at hl 0 rfl) ?_
        refine lv_iload_n hx hb dX6_queued_28 rfl (lv_at hl 1 rfl) ?_
        refine lv_iload_n hx hb dX6_queued_29 rfl (lv_at hl 2 rfl) ?_
        refine kcallV (n := 2) F (kM_inQueue l G (fun q => H1.size ≤ q) A ad (thr τ 0) r vp n (by simp [thr, up, hn]) hn8) wML_X6_131 wIM_X6_inQueue wSE_X6_X6_inQueue wIN_X6 wCO_X6_inQueue (by decide) rfl ⟨by decide, by decide⟩ (frec F hP.main _ rfl) hS (fun q h => hA q (Nat.le_trans hS.1 h)) (fun q h => h) hP rfl hl.1 (Nat.le_of_ble_eq_true rfl) dX6_queued_30 ⟨by decide, by decide⟩ (fun E ce q9 H1 locs1 hx9 _ _ _ _ _ => hx9.elim) (fun v H1 locs1 hv hk hS => ?_)
        have hP := hP.old hk
        subst hv
        refine lv_goto (tgt := 37) hx hb dX6_queued_33 (by decide) ?_
        exact kiret hx hb hr hlocks hS (by decide) (by decide) dX6_queued_37 (⟨_, _, rfl, hP, Or.inr (⟨r, hr9, rfl, Int32.not_lt.mp c_9_3, rfl, rfl⟩)⟩)

def cm_money (τ : SG) (hh : Int32) (v : Int32) (τ' : SG) : Prop := (¬ (hh = -1 ∨ (∃ j, j < 4 ∧ hh = nI j)) ∧ τ' = thr τ 1) ∨ (hh = -1 ∧ v = thr τ 0 24 4 ∧ τ' = thr τ 0) ∨ (∃ h, h < 4 ∧ hh = nI h ∧ v = thr τ 0 24 h ∧ τ' = thr τ 0)
set_option maxHeartbeats 4000000 in
set_option maxRecDepth 100000 in
theorem kR_money (l : Launch) (G : GE) (A : Nat → Prop) (ad : Nat → Nat) (τ : SG) (hh : Int32)  : KM l G A yX6_money cX6_money 2 (some .int) (rmL 3 0 0) [.ref (ad 30), .int hh] (PM G A ad τ) (fun v H => ∃ x τ', v = some (.int x) ∧ PM G A ad τ' H ∧ cm_money τ hh x τ') (fun _ _ => False) := by
  refine KM.of (by decide) (Nat.le_of_ble_eq_true rfl) ?_
  intro p e s m args below meth c F hP ls hl
  have hx := F.1.1
  have hb := F.1.2.1
  have hown := F.1.2.2.2.1
  have hts := F.1.2.2.2.2
  have hr := F.2.1
  have hlocks := F.2.2.1
  have hE := F.2.2.2.2.2.1
  have hA := F.2.2.2.2.2.2
  have hS : va_S A s.heap s.heap [] := va_S.rf
  have hl : lv_has ls 2 [(0, .ref (ad 30)), (1, .int hh)] := hl
  have hP := hP
  refine lv_aload_n hx hb dX6_money_0 rfl (lv_at hl 0 rfl) ?_
  refine lv_iload_n hx hb dX6_money_1 rfl (lv_at hl 1 rfl) ?_
  refine lv_iconst (v := (-1)) hx hb dX6_money_2 (by decide) ?_
  refine lv_icmp_eq (tgt := 13) hx hb dX6_money_3 (by decide) (fun c_3_1 => ?_) (fun c_3_1 => ?_)
  · refine lv_iconst (v := 0) hx hb dX6_money_13 (by decide) ?_
    refine lv_goto (tgt := 18) hx hb dX6_money_14 (by decide) ?_
    refine pX6 F hS hP.main hP.omain 27 (by decide) wFL_X6_81 (fun _ h9 => h9) rfl rfl rfl (by simp) dX6_money_18 (fun H1 locs1 he1 z1 oq1 hS => ?_)
    have hP : PM G A ad (thr τ 0) H1 := hP.p27 he1 oq1
    refine lv_aload_n hx hb dX6_money_21 rfl (lv_at hl 0 rfl) ?_
    refine gX6 F hP.main 27 (by decide) wFL_X6_81 (fun _ h9 => h9) (v := .int 0) (by simp [thr, up]) dX6_money_22 ?_
    refine lv_if_le (tgt := 32) hx hb dX6_money_25 (by decide) (fun c_25_2 => ?_) (fun c_25_2 => ?_)
    · refine lv_aload_n hx hb dX6_money_32 rfl (lv_at hl 0 rfl) ?_
      refine gX6 F hP.main 24 (by decide) wFL_X6_71 (fun _ h9 => h9) (v := .ref (ad 24)) rfl dX6_money_33 ?_
      refine lv_iload_n hx hb dX6_money_36 rfl (lv_at hl 1 rfl) ?_
      refine lv_iconst (v := (-1)) hx hb dX6_money_37 (by decide) ?_
      refine lv_icmp_ne (tgt := 45) hx hb dX6_money_38 (by decide) (fun c_38_3 => ?_) (fun c_38_3 => ?_)
      · exact absurd c_3_1 c_38_3
      · refine lv_iconst (v := 4) hx hb dX6_money_41 (by decide) ?_
        refine lv_goto (tgt := 46) hx hb dX6_money_42 (by decide) ?_
        refine W.eq (g2 := F0 m 46 ls [.int (nI 4), .ref (ad 24)]) (congrArg (fun z => F0 m 46 ls [.int z, .ref (ad 24)]) ((rfl : (4 : Int32) = nI 4))) ?_
        refine xiald hx hb hE.1.1 (hP.arr 24 (by decide) (by decide)) 0 rfl (k := 4) rfl (show _ < 5 by omega) (by decide) dX6_money_46 ?_
        exact kiret hx hb hr hlocks hS (by decide) (by decide) dX6_money_47 (⟨_, _, rfl, hP, Or.inr (Or.inl (⟨c_3_1, rfl, rfl⟩))⟩)
    · exact absurd c_25_2 (by decide)
  · refine lv_iload_n hx hb dX6_money_6 rfl (lv_at hl 1 rfl) ?_
    refine kcallS (n := 1) F (kM_isHouse l G (fun q => s.heap.size ≤ q) hh) wML_X6_97 wST_X6_isHouse wIN_X6 wCO_X6_isHouse (by decide) rfl ⟨by decide, by decide⟩ hS (fun q h => hA q (Nat.le_trans hS.1 h)) (fun q h => h) trivial rfl hl.1 (Nat.le_of_ble_eq_true rfl) dX6_money_7 ⟨by decide, by decide⟩ (fun E ce q9 H1 locs1 hx9 _ _ _ _ _ => hx9.elim) (fun v H1 locs1 hv hk hS => ?_)
    have hP := hP.old hk
    subst hv
    refine lv_if_eq (tgt := 17) hx hb dX6_money_10 (by decide) (fun c_10_4 => ?_) (fun c_10_4 => ?_)
    · have no_hh := in_no (n := 4) rfl (by decide) (b2i_0.mp c_10_4)
      refine lv_iconst (v := 1) hx hb dX6_money_17 (by decide) ?_
      refine pX6 F hS hP.main hP.omain 27 (by decide) wFL_X6_81 (fun _ h9 => h9) rfl rfl rfl (by simp) dX6_money_18 (fun H1 locs1 he1 z1 oq1 hS => ?_)
      have hP : PM G A ad (thr τ 1) H1 := hP.p27 he1 oq1
      refine lv_aload_n hx hb dX6_money_21 rfl (lv_at hl 0 rfl) ?_
      refine gX6 F hP.main 27 (by decide) wFL_X6_81 (fun _ h9 => h9) (v := .int 1) (by simp [thr, up]) dX6_money_22 ?_
      refine lv_if_le (tgt := 32) hx hb dX6_money_25 (by decide) (fun c_25_5 => ?_) (fun c_25_5 => ?_)
      · exact absurd c_25_5 (by decide)
      · refine lv_iconst (v := 0) hx hb dX6_money_28 (by decide) ?_
        refine lv_goto (tgt := 47) hx hb dX6_money_29 (by decide) ?_
        exact kiret hx hb hr hlocks hS (by decide) (by decide) dX6_money_47 (⟨_, _, rfl, hP, Or.inl (⟨fun z => z.elim c_3_1 no_hh, rfl⟩)⟩)
    · obtain ⟨h, hh9, rfl⟩ := in_ex (n := 4) rfl (by decide) (b2i_1.mp c_10_4)
      refine lv_iconst (v := 0) hx hb dX6_money_13 (by decide) ?_
      refine lv_goto (tgt := 18) hx hb dX6_money_14 (by decide) ?_
      refine pX6 F hS hP.main hP.omain 27 (by decide) wFL_X6_81 (fun _ h9 => h9) rfl rfl rfl (by simp) dX6_money_18 (fun H1 locs1 he1 z1 oq1 hS => ?_)
      have hP : PM G A ad (thr τ 0) H1 := hP.p27 he1 oq1
      refine lv_aload_n hx hb dX6_money_21 rfl (lv_at hl 0 rfl) ?_
      refine gX6 F hP.main 27 (by decide) wFL_X6_81 (fun _ h9 => h9) (v := .int 0) (by simp [thr, up]) dX6_money_22 ?_
      refine lv_if_le (tgt := 32) hx hb dX6_money_25 (by decide) (fun c_25_6 => ?_) (fun c_25_6 => ?_)
      · refine lv_aload_n hx hb dX6_money_32 rfl (lv_at hl 0 rfl) ?_
        refine gX6 F hP.main 24 (by decide) wFL_X6_71 (fun _ h9 => h9) (v := .ref (ad 24)) rfl dX6_money_33 ?_
        refine lv_iload_n hx hb dX6_money_36 rfl (lv_at hl 1 rfl) ?_
        refine lv_iconst (v := (-1)) hx hb dX6_money_37 (by decide) ?_
        refine lv_icmp_ne (tgt := 45) hx hb dX6_money_38 (by decide) (fun c_38_7 => ?_) (fun c_38_7 => ?_)
        · refine lv_iload_n hx hb dX6_money_45 rfl (lv_at hl 1 rfl) ?_
          refine xiald hx hb hE.1.1 (hP.arr 24 (by decide) (by decide)) 0 rfl (k := h) rfl (show _ < 5 by omega) (by decide) dX6_money_46 ?_
          exact kiret hx hb hr hlocks hS (by decide) (by decide) dX6_money_47 (⟨_, _, rfl, hP, Or.inr (Or.inr (⟨h, hh9, rfl, rfl, rfl⟩))⟩)
        · exact absurd c_38_7 (nI_ne1 hh9)
      · exact absurd c_25_6 (by decide)

def cm_moneyBySeen (τ : SG) (hh : Int32) (v : Int32) (τ' : SG) : Prop := (cm_money τ hh v τ')
set_option maxHeartbeats 4000000 in
set_option maxRecDepth 100000 in
theorem kR_moneyBySeen (l : Launch) (G : GE) (A : Nat → Prop) (ad : Nat → Nat) (τ : SG) (hh : Int32)  : KM l G A yX6_moneyBySeen cX6_moneyBySeen 2 (some .int) (rmL 4 0 0) [.ref (ad 30), .int hh] (PM G A ad τ) (fun v H => ∃ x τ', v = some (.int x) ∧ PM G A ad τ' H ∧ cm_moneyBySeen τ hh x τ') (fun _ _ => False) := by
  refine KM.of (by decide) (Nat.le_of_ble_eq_true rfl) ?_
  intro p e s m args below meth c F hP ls hl
  have hx := F.1.1
  have hb := F.1.2.1
  have hown := F.1.2.2.2.1
  have hts := F.1.2.2.2.2
  have hr := F.2.1
  have hlocks := F.2.2.1
  have hE := F.2.2.2.2.2.1
  have hA := F.2.2.2.2.2.2
  have hS : va_S A s.heap s.heap [] := va_S.rf
  have hl : lv_has ls 2 [(0, .ref (ad 30)), (1, .int hh)] := hl
  have hP := hP
  refine lv_aload_n hx hb dX6_moneyBySeen_0 rfl (lv_at hl 0 rfl) ?_
  refine lv_iload_n hx hb dX6_moneyBySeen_1 rfl (lv_at hl 1 rfl) ?_
  refine kcallV (n := 1) F (kR_money l G A ad τ hh) wML_X6_180 wIM_X6_money wSE_X6_X6_money wIN_X6 wCO_X6_money (by decide) rfl ⟨by decide, by decide⟩ (frec F hP.main _ rfl) hS (fun _ h => h) (fun q h => hA q (Nat.le_trans hS.1 h)) hP rfl hl.1 (Nat.le_of_ble_eq_true rfl) dX6_moneyBySeen_2 ⟨by decide, by decide⟩ (fun E ce q9 H1 locs1 hx9 _ _ _ _ _ => hx9.elim) (fun v H1 locs1 hv hk hS => ?_)
  obtain ⟨x9, τ', rfl, hP, hcm⟩ := hv
  exact kiret hx hb hr hlocks hS (by decide) (by decide) dX6_moneyBySeen_5 (⟨_, _, rfl, hP, hcm⟩)

def mHT1 (τ : SG) (t : Nat) (x : Int32) : Int32 := if mNow τ t = true then x + τ 8 t else x + 0
def mHM1 (τ : SG) (k : Nat) (x : Int32) : Int32 := if fBel (τ 2 k) (τ 26 0) = true then x + 200 * (τ 2 k - τ 26 0 + 1) else x + 0
def mHT (τ : SG) (n : Nat) : Int32 := itr (mHT1 τ) 0 n 0
def mHeld (τ : SG) (n : Nat) : Int32 := itr (mHM1 τ) 0 6 (mHT τ n)
theorem mHeld_def {τ : SG} {n : Nat} : itr (mHM1 τ) 0 (6 - 0) (mHT τ n) = mHeld τ n := rfl
def cm_held (τ : SG) (n : Nat) (v : Int32) (τ' : SG) : Prop := (v = mHeld (thr τ 0) n ∧ τ' = thr τ 0)
set_option maxHeartbeats 4000000 in
set_option maxRecDepth 100000 in
theorem kR_held (l : Launch) (G : GE) (A : Nat → Prop) (ad : Nat → Nat) (τ : SG)  (n : Nat) (hn : τ 3 0 = nI n) (hn8 : n ≤ 80) : KM l G A yX6_held cX6_held 3 (some .int) (rmL 3 0 0) [.ref (ad 30)] (PM G A ad τ) (fun v H => ∃ x τ', v = some (.int x) ∧ PM G A ad τ' H ∧ cm_held τ n x τ') (fun _ _ => False) := by
  refine KM.of (by decide) (Nat.le_of_ble_eq_true rfl) ?_
  intro p e s m args below meth c F hP ls hl
  have hx := F.1.1
  have hb := F.1.2.1
  have hown := F.1.2.2.2.1
  have hts := F.1.2.2.2.2
  have hr := F.2.1
  have hlocks := F.2.2.1
  have hE := F.2.2.2.2.2.1
  have hA := F.2.2.2.2.2.2
  have hS : va_S A s.heap s.heap [] := va_S.rf
  have hl : lv_has ls 3 [(0, .ref (ad 30))] := hl
  have hP := hP
  refine lv_aload_n hx hb dX6_held_0 rfl (lv_at hl 0 rfl) ?_
  refine lv_iconst (v := 0) hx hb dX6_held_1 (by decide) ?_
  refine pX6 F hS hP.main hP.omain 27 (by decide) wFL_X6_81 (fun _ h9 => h9) rfl rfl rfl (by simp) dX6_held_2 (fun H1 locs1 he1 z1 oq1 hS => ?_)
  have hP : PM G A ad (thr τ 0) H1 := hP.p27 he1 oq1
  refine lv_iconst (v := 0) hx hb dX6_held_5 (by decide) ?_
  refine lv_istore_n (lv' := [(1, .int 0), (0, .ref (ad 30))]) hx hb dX6_held_6 rfl hl (by decide) rfl (fun ls hl => ?_)
  refine lv_iconst (v := 0) hx hb dX6_held_7 (by decide) ?_
  refine lv_istore_n (lv' := [(2, .int 0), (1, .int 0), (0, .ref (ad 30))]) hx hb dX6_held_8 rfl hl (by decide) rfl (fun ls hl => ?_)
  have L9 : ∀ (n9 : Nat) (x1 : Int32) (i : Nat) (h1 : i ≤ n) (h2 : n < i + n9) (hT : itr (mHT1 (thr τ 0)) i (n - i) x1 = mHT (thr τ 0) n) (H : Heap) (locs : List Loc) (ls : Array Slot), va_S A s.heap H locs → PM G A ad (thr τ 0) H → lv_has ls 3 [(2, .int (nI i)), (1, .int x1), (0, .ref (ad 30))] → W p l e (rmL 3 0 0) s m args below meth c H locs 0 0 (KE below A (fun v H => ∃ x τ', v = some (.int x) ∧ PM G A ad τ' H ∧ cm_held τ n x τ') (fun _ _ => False) args s (rmL 3 0 0)) (F0 m 9 ls []) := by
    intro n9
    induction n9 with
    | zero =>
      intro x1 i h1 h2 hT H locs ls hS hP hl
      exact absurd True.intro (by omega)
    | succ n9 ih9 =>
      intro x1 i h1 h2 hT H locs ls hS hP hl
      refine lv_iload_n hx hb dX6_held_9 rfl (lv_at hl 0 rfl) ?_
      refine lv_aload_n hx hb dX6_held_10 rfl (lv_at hl 2 rfl) ?_
      refine gX6 F hP.main 3 (by decide) wFL_X6_88 (fun _ h9 => h9) (v := .int (nI n)) (by simp [up, thr, hn]) dX6_held_11 ?_
      refine lv_icmp_ge (tgt := 44) hx hb dX6_held_14 (by decide) (fun c_14_1 => ?_) (fun c_14_1 => ?_)
      · have ei := nI_eqle h1 (by omega) c_14_1
        rw [ei, itr_end] at hT
        refine lv_iconst (v := 0) hx hb dX6_held_44 (by decide) ?_
        refine lv_istore_n (lv' := [(2, .int 0), (1, .int x1), (0, .ref (ad 30))]) hx hb dX6_held_45 rfl hl (by decide) rfl (fun ls hl => ?_)
        have L46 : ∀ (n9 : Nat) (x1 : Int32) (i : Nat) (h1 : i ≤ 6) (h2 : 6 < i + n9) (hT : itr (mHM1 (thr τ 0)) i (6 - i) x1 = mHeld (thr τ 0) n) (H : Heap) (locs : List Loc) (ls : Array Slot), va_S A s.heap H locs → PM G A ad (thr τ 0) H → lv_has ls 3 [(2, .int (nI i)), (1, .int x1), (0, .ref (ad 30))] → W p l e (rmL 3 0 0) s m args below meth c H locs 0 0 (KE below A (fun v H => ∃ x τ', v = some (.int x) ∧ PM G A ad τ' H ∧ cm_held τ n x τ') (fun _ _ => False) args s (rmL 3 0 0)) (F0 m 46 ls []) := by
          intro n9
          induction n9 with
          | zero =>
            intro x1 i h1 h2 hT H locs ls hS hP hl
            exact absurd True.intro (by omega)
          | succ n9 ih46 =>
            intro x1 i h1 h2 hT H locs ls hS hP hl
            refine lv_iload_n hx hb dX6_held_46 rfl (lv_at hl 0 rfl) ?_
            refine lv_bipush (v := 6) hx hb dX6_held_47 (by decide) ?_
            refine lv_icmp_ge (tgt := 90) hx hb dX6_held_49 (by decide) (fun c_49_2 => ?_) (fun c_49_2 => ?_)
            · have ei := nI_eqle (n := 6) h1 (by decide) c_49_2
              rw [ei, itr_end] at hT
              refine lv_iload_n hx hb dX6_held_90 rfl (lv_at hl 1 rfl) ?_
              exact kiret hx hb hr hlocks hS (by decide) (by decide) dX6_held_91 (⟨_, _, rfl, hP, ⟨hT, rfl⟩⟩)
            · have hi := nI_lt' (n := 6) h1 (by decide) c_49_2
              refine lv_iload_n hx hb dX6_held_52 rfl (lv_at hl 1 rfl) ?_
              refine lv_aload_n hx hb dX6_held_53 rfl (lv_at hl 2 rfl) ?_
              refine lv_iload_n hx hb dX6_held_54 rfl (lv_at hl 0 rfl) ?_
              refine kcallV (n := 1) F (kM_isValid l G (fun q => H.size ≤ q) A ad (thr τ 0) i (by omega)) wML_X6_118 wIM_X6_isValid wSE_X6_X6_isValid wIN_X6 wCO_X6_isValid (by decide) rfl ⟨by decide, by decide⟩ (frec F hP.main _ rfl) hS (fun q h => hA q (Nat.le_trans hS.1 h)) (fun q h => h) hP rfl hl.1 (Nat.le_of_ble_eq_true rfl) dX6_held_55 ⟨by decide, by decide⟩ (fun E ce q9 H1 locs1 hx9 _ _ _ _ _ => hx9.elim) (fun v H1 locs1 hv hk hS => ?_)
              have hP := hP.old hk
              subst hv
              refine lv_if_eq (tgt := 81) hx hb dX6_held_58 (by decide) (fun c_58_3 => ?_) (fun c_58_3 => ?_)
              · refine lv_iconst (v := 0) hx hb dX6_held_81 (by decide) ?_
                refine lv_iadd hx hb dX6_held_82 ?_
                refine lv_istore_n (lv' := [(1, .int (x1 + 0)), (2, .int (nI i)), (0, .ref (ad 30))]) hx hb dX6_held_83 rfl hl (by decide) rfl (fun ls hl => ?_)
                refine lv_iinc (v := (nI (i + 1))) (lv' := [(2, .int (nI (i + 1))), (1, .int (x1 + 0)), (0, .ref (ad 30))]) hx hb dX6_held_84 hl (k := 1) rfl (nI_1 _) (by decide) rfl (fun ls hl => ?_)
                refine lv_goto (tgt := 46) hx hb dX6_held_87 (by decide) ?_
                exact ih46 (x1 + 0) (i + 1) (by omega) (by omega) (by rw [itr_step hi, show mHM1 (thr τ 0) i x1 = x1 + 0 from if_neg (by rw [b2i_0.mp c_58_3]; decide)] at hT; exact hT) _ _ _ hS hP (lv_sub hl [0, 1, 2] rfl)
              · refine lv_sipush (v := 200) hx hb dX6_held_61 (by decide) ?_
                refine lv_aload_n hx hb dX6_held_64 rfl (lv_at hl 2 rfl) ?_
                refine gX6 F hP.main 2 (by decide) wFL_X6_13 (fun _ h9 => h9) (v := .ref (ad 2)) rfl dX6_held_65 ?_
                refine lv_iload_n hx hb dX6_held_68 rfl (lv_at hl 0 rfl) ?_
                refine xiald hx hb hE.1.1 (hP.arr 2 (by decide) (by decide)) 0 rfl (k := i) rfl (show _ < 6 by omega) (by decide) dX6_held_69 ?_
                refine lv_aload_n hx hb dX6_held_70 rfl (lv_at hl 2 rfl) ?_
                refine gX6 F hP.main 26 (by decide) wFL_X6_94 (fun _ h9 => h9) (v := .int ((thr τ 0) 26 0)) rfl dX6_held_71 ?_
                refine lv_isub hx hb dX6_held_74 ?_
                refine lv_iconst (v := 1) hx hb dX6_held_75 (by decide) ?_
                refine lv_iadd hx hb dX6_held_76 ?_
                refine lv_imul hx hb dX6_held_77 ?_
                refine lv_goto (tgt := 82) hx hb dX6_held_78 (by decide) ?_
                refine lv_iadd hx hb dX6_held_82 ?_
                refine lv_istore_n (lv' := [(1, .int (x1 + (200 * ((((thr τ 0) 2 i) - ((thr τ 0) 26 0)) + 1)))), (2, .int (nI i)), (0, .ref (ad 30))]) hx hb dX6_held_83 rfl hl (by decide) rfl (fun ls hl => ?_)
                refine lv_iinc (v := (nI (i + 1))) (lv' := [(2, .int (nI (i + 1))), (1, .int (x1 + (200 * ((((thr τ 0) 2 i) - ((thr τ 0) 26 0)) + 1)))), (0, .ref (ad 30))]) hx hb dX6_held_84 hl (k := 1) rfl (nI_1 _) (by decide) rfl (fun ls hl => ?_)
                refine lv_goto (tgt := 46) hx hb dX6_held_87 (by decide) ?_
                exact ih46 (x1 + (200 * ((((thr τ 0) 2 i) - ((thr τ 0) 26 0)) + 1))) (i + 1) (by omega) (by omega) (by rw [itr_step hi, show mHM1 (thr τ 0) i x1 = x1 + (200 * ((((thr τ 0) 2 i) - ((thr τ 0) 26 0)) + 1)) from if_pos (by rw [b2i_1.mp c_58_3])] at hT; exact hT) _ _ _ hS hP (lv_sub hl [0, 1, 2] rfl)
        exact L46 7 x1 0 (by omega) (by omega) (by rw [hT]; exact mHeld_def) _ _ _ hS hP (lv_sub hl [0, 1, 2] rfl)
      · have hi := nI_lt' h1 (by omega) c_14_1
        refine lv_iload_n hx hb dX6_held_17 rfl (lv_at hl 1 rfl) ?_
        refine lv_aload_n hx hb dX6_held_18 rfl (lv_at hl 2 rfl) ?_
        refine lv_iload_n hx hb dX6_held_19 rfl (lv_at hl 0 rfl) ?_
        refine kcallV (n := 1) F (kM_isNow l G (fun q => H.size ≤ q) A ad (thr τ 0) i (by omega)) wML_X6_108 wIM_X6_isNow wSE_X6_X6_isNow wIN_X6 wCO_X6_isNow (by decide) rfl ⟨by decide, by decide⟩ (frec F hP.main _ rfl) hS (fun q h => hA q (Nat.le_trans hS.1 h)) (fun q h => h) hP rfl hl.1 (Nat.le_of_ble_eq_true rfl) dX6_held_20 ⟨by decide, by decide⟩ (fun E ce q9 H1 locs1 hx9 _ _ _ _ _ => hx9.elim) (fun v H1 locs1 hv hk hS => ?_)
        have hP := hP.old hk
        subst hv
        refine lv_if_eq (tgt := 35) hx hb dX6_held_23 (by decide) (fun c_23_4 => ?_) (fun c_23_4 => ?_)
        · refine lv_iconst (v := 0) hx hb dX6_held_35 (by decide) ?_
          refine lv_iadd hx hb dX6_held_36 ?_
          refine lv_istore_n (lv' := [(1, .int (x1 + 0)), (2, .int (nI i)), (0, .ref (ad 30))]) hx hb dX6_held_37 rfl hl (by decide) rfl (fun ls hl => ?_)
          refine lv_iinc (v := (nI (i + 1))) (lv' := [(2, .int (nI (i + 1))), (1, .int (x1 + 0)), (0, .ref (ad 30))]) hx hb dX6_held_38 hl (k := 1) rfl (nI_1 _) (by decide) rfl (fun ls hl => ?_)
          refine lv_goto (tgt := 9) hx hb dX6_held_41 (by decide) ?_
          exact ih9 (x1 + 0) (i + 1) (by omega) (by omega) (by rw [itr_step hi, show mHT1 (thr τ 0) i x1 = x1 + 0 from if_neg (by rw [b2i_0.mp c_23_4]; decide)] at hT; exact hT) _ _ _ hS hP (lv_sub hl [0, 1, 2] rfl)
        · refine lv_aload_n hx hb dX6_held_26 rfl (lv_at hl 2 rfl) ?_
          refine gX6 F hP.main 8 (by decide) wFL_X6_28 (fun _ h9 => h9) (v := .ref (ad 8)) rfl dX6_held_27 ?_
          refine lv_iload_n hx hb dX6_held_30 rfl (lv_at hl 0 rfl) ?_
          refine xiald hx hb hE.1.1 (hP.arr 8 (by decide) (by decide)) 0 rfl (k := i) rfl (show _ < 80 by omega) (by decide) dX6_held_31 ?_
          refine lv_goto (tgt := 36) hx hb dX6_held_32 (by decide) ?_
          refine lv_iadd hx hb dX6_held_36 ?_
          refine lv_istore_n (lv' := [(1, .int (x1 + ((thr τ 0) 8 i))), (2, .int (nI i)), (0, .ref (ad 30))]) hx hb dX6_held_37 rfl hl (by decide) rfl (fun ls hl => ?_)
          refine lv_iinc (v := (nI (i + 1))) (lv' := [(2, .int (nI (i + 1))), (1, .int (x1 + ((thr τ 0) 8 i))), (0, .ref (ad 30))]) hx hb dX6_held_38 hl (k := 1) rfl (nI_1 _) (by decide) rfl (fun ls hl => ?_)
          refine lv_goto (tgt := 9) hx hb dX6_held_41 (by decide) ?_
          exact ih9 (x1 + ((thr τ 0) 8 i)) (i + 1) (by omega) (by omega) (by rw [itr_step hi, show mHT1 (thr τ 0) i x1 = x1 + ((thr τ 0) 8 i) from if_pos (by rw [b2i_1.mp c_23_4])] at hT; exact hT) _ _ _ hS hP (lv_sub hl [0, 1, 2] rfl)
  exact L9 (n + 1) 0 0 (by omega) (by omega) rfl _ _ _ hS hP (lv_sub hl [0, 1, 2] rfl)

