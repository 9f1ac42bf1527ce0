theorem thr_thr {τ : SG} {a b : Int32} : thr (thr τ a) b = thr τ b := by
  funext f i
  simp only [thr, up]
  split <;> rfl
theorem b3 {x y : Int32} (h : x - y = 0) : x = y := by rw [← Int32.sub_add_cancel x y, h, Int32.zero_add]
theorem rem100 {x : Int32} {r : Nat} (hr : r < 12) (h : x = nI r ∨ x = 100 + nI r) : x - x / 100 * 100 = nI r := by
  rcases h with rfl | rfl
  · exact (by decide +kernel : ∀ r, r < 12 → nI r - nI r / 100 * 100 = nI r) r hr
  · exact (by decide +kernel : ∀ r, r < 12 → (100 + nI r) - (100 + nI r) / 100 * 100 = nI r) r hr
theorem nI_ne1 {j : Nat} (h : j < 4) : ¬ nI j = -1 := (by decide : ∀ j, j < 4 → ¬ nI j = -1) j h
theorem nI_ne1' {j : Nat} (h : j < 6) : ¬ nI j = -1 := (by decide : ∀ j, j < 6 → ¬ nI j = -1) j h
def cm_setPrice (τ : SG) (hh vv : Int32) (v : Int32) (τ' : SG) : Prop := (¬ (hh = -1 ∨ (∃ j, j < 4 ∧ hh = nI j)) ∧ τ' = thr τ 1) ∨ ((hh = -1 ∨ (∃ j, j < 4 ∧ hh = nI j)) ∧ inB vv 0 10000 = false ∧ τ' = thr τ 2) ∨ (hh = -1 ∧ inB vv 0 10000 = true ∧ v = thr τ 0 1 0 ∧ τ' = up (thr τ 0) 1 0 vv) ∨ (∃ h, h < 4 ∧ hh = nI h ∧ inB vv 0 10000 = true ∧ v = thr τ 0 0 h ∧ τ' = up (thr τ 0) 0 h vv)
set_option maxHeartbeats 4000000 in
set_option maxRecDepth 100000 in
theorem kR_setPrice (l : Launch) (G : GE) (A : Nat → Prop) (ad : Nat → Nat) (τ : SG) (hh vv : Int32)  : KM l G A yX6_setPrice cX6_setPrice 4 (some .int) (rmL 3 0 0) [.ref (ad 30), .int hh, .int vv] (PM G A ad τ) (fun v H => ∃ x τ', v = some (.int x) ∧ PM G A ad τ' H ∧ cm_setPrice τ hh vv x τ') (fun _ _ => False) := by
  refine KM.of (by decide) (Nat.le_of_ble_eq_true rfl) ?_
  intro p e s m args below meth c F hP ls hl
  have hx := F.1.1
  have hb := F.1.2.1
  have hown := F.1.2.2.2.1
  have hts := F.1.2.2.2.2
  have hr := F.2.1
  have hlocks := F.2.2.1
  have hE := F.2.2.2.2.2.1
  have hA := F.2.2.2.2.2.2
  have hS : va_S A s.heap s.heap [] := va_S.rf
  have hl : lv_has ls 4 [(0, .ref (ad 30)), (1, .int hh), (2, .int vv)] := hl
  have hP := hP
  refine lv_aload_n hx hb dX6_setPrice_0 rfl (lv_at hl 0 rfl) ?_
  refine lv_iload_n hx hb dX6_setPrice_1 rfl (lv_at hl 1 rfl) ?_
  refine lv_iconst (v := (-1)) hx hb dX6_setPrice_2 (by decide) ?_
  refine lv_icmp_eq (tgt := 17) hx hb dX6_setPrice_3 (by decide) (fun c_3_1 => ?_) (fun c_3_1 => ?_)
  · refine lv_iload_n hx hb dX6_setPrice_17 rfl (lv_at hl 2 rfl) ?_
    refine lv_iconst (v := 0) hx hb dX6_setPrice_18 (by decide) ?_
    refine lv_sipush (v := 10000) hx hb dX6_setPrice_19 (by decide) ?_
    refine kcallS (n := 3) F (kM_in l G (fun q => s.heap.size ≤ q) vv 0 10000) wML_X6_84 wST_X6_in wIN_X6 wCO_X6_in (by decide) rfl ⟨by decide, by decide⟩ hS (fun q h => hA q (Nat.le_trans hS.1 h)) (fun q h => h) trivial rfl hl.1 (Nat.le_of_ble_eq_true rfl) dX6_setPrice_22 ⟨by decide, by decide⟩ (fun E ce q9 H1 locs1 hx9 _ _ _ _ _ => hx9.elim) (fun v H1 locs1 hv hk hS => ?_)
    have hP := hP.old hk
    subst hv
    refine lv_if_ne (tgt := 32) hx hb dX6_setPrice_25 (by decide) (fun c_25_2 => ?_) (fun c_25_2 => ?_)
    · have hin := b2i_1.mp c_25_2
      refine lv_iconst (v := 0) hx hb dX6_setPrice_32 (by decide) ?_
      refine pX6 F hS hP.main hP.omain 27 (by decide) wFL_X6_81 (fun _ h9 => h9) rfl rfl rfl (by simp) dX6_setPrice_33 (fun H1 locs1 he1 z1 oq1 hS => ?_)
      have hP : PM G A ad (thr τ 0) H1 := hP.p27 he1 oq1
      refine lv_aload_n hx hb dX6_setPrice_36 rfl (lv_at hl 0 rfl) ?_
      refine gX6 F hP.main 27 (by decide) wFL_X6_81 (fun _ h9 => h9) (v := .int 0) (by simp [thr, up]) dX6_setPrice_37 ?_
      refine lv_if_le (tgt := 45) hx hb dX6_setPrice_40 (by decide) (fun c_40_3 => ?_) (fun c_40_3 => ?_)
      · refine lv_iload_n hx hb dX6_setPrice_45 rfl (lv_at hl 1 rfl) ?_
        refine lv_iconst (v := (-1)) hx hb dX6_setPrice_46 (by decide) ?_
        refine lv_icmp_ne (tgt := 57) hx hb dX6_setPrice_47 (by decide) (fun c_47_4 => ?_) (fun c_47_4 => ?_)
        · exact absurd c_3_1 c_47_4
        · refine lv_aload_n hx hb dX6_setPrice_50 rfl (lv_at hl 0 rfl) ?_
          refine gX6 F hP.main 1 (by decide) wFL_X6_77 (fun _ h9 => h9) (v := .int ((thr τ 0) 1 0)) rfl dX6_setPrice_51 ?_
          refine lv_goto (tgt := 63) hx hb dX6_setPrice_54 (by decide) ?_
          refine lv_istore_n (lv' := [(3, .int ((thr τ 0) 1 0)), (0, .ref (ad 30)), (1, .int hh), (2, .int vv)]) hx hb dX6_setPrice_63 rfl hl (by decide) rfl (fun ls hl => ?_)
          refine lv_iload_n hx hb dX6_setPrice_64 rfl (lv_at hl 2 rfl) ?_
          refine lv_iconst (v := (-1)) hx hb dX6_setPrice_65 (by decide) ?_
          refine lv_icmp_ne (tgt := 77) hx hb dX6_setPrice_66 (by decide) (fun c_66_5 => ?_) (fun c_66_5 => ?_)
          · exact absurd c_3_1 c_66_5
          · refine lv_aload_n hx hb dX6_setPrice_69 rfl (lv_at hl 1 rfl) ?_
            refine lv_iload_n hx hb dX6_setPrice_70 rfl (lv_at hl 3 rfl) ?_
            refine pX6 F hS hP.main hP.omain 1 (by decide) wFL_X6_77 (fun _ h9 => h9) rfl rfl rfl (by simp) dX6_setPrice_71 (fun H1 locs1 he1 z1 oq1 hS => ?_)
            have hP := hP.p1 he1 oq1
            refine lv_goto (tgt := 84) hx hb dX6_setPrice_74 (by decide) ?_
            refine lv_iload_n hx hb dX6_setPrice_84 rfl (lv_at hl 0 rfl) ?_
            exact kiret hx hb hr hlocks hS (by decide) (by decide) dX6_setPrice_85 (⟨_, _, rfl, hP, Or.inr (Or.inr (Or.inl (⟨c_3_1, hin, rfl, rfl⟩)))⟩)
      · exact absurd c_40_3 (by decide)
    · have hin := b2i_0.mp c_25_2
      refine lv_iconst (v := 2) hx hb dX6_setPrice_28 (by decide) ?_
      refine lv_goto (tgt := 33) hx hb dX6_setPrice_29 (by decide) ?_
      refine pX6 F hS hP.main hP.omain 27 (by decide) wFL_X6_81 (fun _ h9 => h9) rfl rfl rfl (by simp) dX6_setPrice_33 (fun H1 locs1 he1 z1 oq1 hS => ?_)
      have hP : PM G A ad (thr τ 2) H1 := hP.p27 he1 oq1
      refine lv_aload_n hx hb dX6_setPrice_36 rfl (lv_at hl 0 rfl) ?_
      refine gX6 F hP.main 27 (by decide) wFL_X6_81 (fun _ h9 => h9) (v := .int 2) (by simp [thr, up]) dX6_setPrice_37 ?_
      refine lv_if_le (tgt := 45) hx hb dX6_setPrice_40 (by decide) (fun c_40_6 => ?_) (fun c_40_6 => ?_)
      · exact absurd c_40_6 (by decide)
      · refine lv_iconst (v := 0) hx hb dX6_setPrice_43 (by decide) ?_
        exact kiret hx hb hr hlocks hS (by decide) (by decide) dX6_setPrice_44 (⟨_, _, rfl, hP, Or.inr (Or.inl (⟨Or.inl c_3_1, hin, rfl⟩))⟩)
  · refine lv_iload_n hx hb dX6_setPrice_6 rfl (lv_at hl 1 rfl) ?_
    refine kcallS (n := 1) F (kM_isHouse l G (fun q => s.heap.size ≤ q) hh) wML_X6_97 wST_X6_isHouse wIN_X6 wCO_X6_isHouse (by decide) rfl ⟨by decide, by decide⟩ hS (fun q h => hA q (Nat.le_trans hS.1 h)) (fun q h => h) trivial rfl hl.1 (Nat.le_of_ble_eq_true rfl) dX6_setPrice_7 ⟨by decide, by decide⟩ (fun E ce q9 H1 locs1 hx9 _ _ _ _ _ => hx9.elim) (fun v H1 locs1 hv hk hS => ?_)
    have hP := hP.old hk
    subst hv
    refine lv_if_ne (tgt := 17) hx hb dX6_setPrice_10 (by decide) (fun c_10_7 => ?_) (fun c_10_7 => ?_)
    · obtain ⟨h, hh9, rfl⟩ := in_ex (n := 4) rfl (by decide) (b2i_1.mp c_10_7)
      refine lv_iload_n hx hb dX6_setPrice_17 rfl (lv_at hl 2 rfl) ?_
      refine lv_iconst (v := 0) hx hb dX6_setPrice_18 (by decide) ?_
      refine lv_sipush (v := 10000) hx hb dX6_setPrice_19 (by decide) ?_
      refine kcallS (n := 3) F (kM_in l G (fun q => H1.size ≤ q) vv 0 10000) wML_X6_84 wST_X6_in wIN_X6 wCO_X6_in (by decide) rfl ⟨by decide, by decide⟩ hS (fun q h => hA q (Nat.le_trans hS.1 h)) (fun q h => h) trivial rfl hl.1 (Nat.le_of_ble_eq_true rfl) dX6_setPrice_22 ⟨by decide, by decide⟩ (fun E ce q9 H1 locs1 hx9 _ _ _ _ _ => hx9.elim) (fun v H1 locs1 hv hk hS => ?_)
      have hP := hP.old hk
      subst hv
      refine lv_if_ne (tgt := 32) hx hb dX6_setPrice_25 (by decide) (fun c_25_8 => ?_) (fun c_25_8 => ?_)
      · have hin := b2i_1.mp c_25_8
        refine lv_iconst (v := 0) hx hb dX6_setPrice_32 (by decide) ?_
        refine pX6 F hS hP.main hP.omain 27 (by decide) wFL_X6_81 (fun _ h9 => h9) rfl rfl rfl (by simp) dX6_setPrice_33 (fun H1 locs1 he1 z1 oq1 hS => ?_)
        have hP : PM G A ad (thr τ 0) H1 := hP.p27 he1 oq1
        refine lv_aload_n hx hb dX6_setPrice_36 rfl (lv_at hl 0 rfl) ?_
        refine gX6 F hP.main 27 (by decide) wFL_X6_81 (fun _ h9 => h9) (v := .int 0) (by simp [thr, up]) dX6_setPrice_37 ?_
        refine lv_if_le (tgt := 45) hx hb dX6_setPrice_40 (by decide) (fun c_40_9 => ?_) (fun c_40_9 => ?_)
        · refine lv_iload_n hx hb dX6_setPrice_45 rfl (lv_at hl 1 rfl) ?_
          refine lv_iconst (v := (-1)) hx hb dX6_setPrice_46 (by decide) ?_
          refine lv_icmp_ne (tgt := 57) hx hb dX6_setPrice_47 (by decide) (fun c_47_10 => ?_) (fun c_47_10 => ?_)
          · refine lv_aload_n hx hb dX6_setPrice_57 rfl (lv_at hl 0 rfl) ?_
            refine gX6 F hP.main 0 (by decide) wFL_X6_7 (fun _ h9 => h9) (v := .ref (ad 0)) rfl dX6_setPrice_58 ?_
            refine lv_iload_n hx hb dX6_setPrice_61 rfl (lv_at hl 1 rfl) ?_
            refine xiald hx hb hE.1.1 (hP.arr 0 (by decide) (by decide)) 0 rfl (k := h) rfl (show _ < 4 by omega) (by decide) dX6_setPrice_62 ?_
            refine lv_istore_n (lv' := [(3, .int ((thr τ 0) 0 h)), (0, .ref (ad 30)), (1, .int (nI h)), (2, .int vv)]) hx hb dX6_setPrice_63 rfl hl (by decide) rfl (fun ls hl => ?_)
            refine lv_iload_n hx hb dX6_setPrice_64 rfl (lv_at hl 2 rfl) ?_
            refine lv_iconst (v := (-1)) hx hb dX6_setPrice_65 (by decide) ?_
            refine lv_icmp_ne (tgt := 77) hx hb dX6_setPrice_66 (by decide) (fun c_66_11 => ?_) (fun c_66_11 => ?_)
            · refine lv_aload_n hx hb dX6_setPrice_77 rfl (lv_at hl 1 rfl) ?_
              refine gX6 F hP.main 0 (by decide) wFL_X6_7 (fun _ h9 => h9) (v := .ref (ad 0)) rfl dX6_setPrice_78 ?_
              refine lv_iload_n hx hb dX6_setPrice_81 rfl (lv_at hl 2 rfl) ?_
              refine lv_iload_n hx hb dX6_setPrice_82 rfl (lv_at hl 3 rfl) ?_
              refine xiast hx hb hE.1.1 hS (hP.arr 0 (by decide) (by decide)) (hP.oarr 0 (by decide)) 0 rfl (k := h) rfl (show _ < 4 by omega) (by decide) dX6_setPrice_83 (fun H1 locs1 he1 z1 oq1 hS => ?_)
              have hP := hP.parr 0 h (by decide) (by decide) he1 oq1
              refine lv_iload_n hx hb dX6_setPrice_84 rfl (lv_at hl 0 rfl) ?_
              exact kiret hx hb hr hlocks hS (by decide) (by decide) dX6_setPrice_85 (⟨_, _, rfl, hP, Or.inr (Or.inr (Or.inr (⟨h, hh9, rfl, hin, rfl, rfl⟩)))⟩)
            · exact absurd c_66_11 (nI_ne1 hh9)
          · exact absurd c_47_10 (nI_ne1 hh9)
        · exact absurd c_40_9 (by decide)
      · have hin := b2i_0.mp c_25_8
        refine lv_iconst (v := 2) hx hb dX6_setPrice_28 (by decide) ?_
        refine lv_goto (tgt := 33) hx hb dX6_setPrice_29 (by decide) ?_
        refine pX6 F hS hP.main hP.omain 27 (by decide) wFL_X6_81 (fun _ h9 => h9) rfl rfl rfl (by simp) dX6_setPrice_33 (fun H1 locs1 he1 z1 oq1 hS => ?_)
        have hP : PM G A ad (thr τ 2) H1 := hP.p27 he1 oq1
        refine lv_aload_n hx hb dX6_setPrice_36 rfl (lv_at hl 0 rfl) ?_
        refine gX6 F hP.main 27 (by decide) wFL_X6_81 (fun _ h9 => h9) (v := .int 2) (by simp [thr, up]) dX6_setPrice_37 ?_
        refine lv_if_le (tgt := 45) hx hb dX6_setPrice_40 (by decide) (fun c_40_12 => ?_) (fun c_40_12 => ?_)
        · exact absurd c_40_12 (by decide)
        · refine lv_iconst (v := 0) hx hb dX6_setPrice_43 (by decide) ?_
          exact kiret hx hb hr hlocks hS (by decide) (by decide) dX6_setPrice_44 (⟨_, _, rfl, hP, Or.inr (Or.inl (⟨Or.inr ⟨h, hh9, rfl⟩, hin, rfl⟩))⟩)
    · have no_hh := in_no (n := 4) rfl (by decide) (b2i_0.mp c_10_7)
      refine lv_iconst (v := 1) hx hb dX6_setPrice_13 (by decide) ?_
      refine lv_goto (tgt := 33) hx hb dX6_setPrice_14 (by decide) ?_
      refine pX6 F hS hP.main hP.omain 27 (by decide) wFL_X6_81 (fun _ h9 => h9) rfl rfl rfl (by simp) dX6_setPrice_33 (fun H1 locs1 he1 z1 oq1 hS => ?_)
      have hP : PM G A ad (thr τ 1) H1 := hP.p27 he1 oq1
      refine lv_aload_n hx hb dX6_setPrice_36 rfl (lv_at hl 0 rfl) ?_
      refine gX6 F hP.main 27 (by decide) wFL_X6_81 (fun _ h9 => h9) (v := .int 1) (by simp [thr, up]) dX6_setPrice_37 ?_
      refine lv_if_le (tgt := 45) hx hb dX6_setPrice_40 (by decide) (fun c_40_13 => ?_) (fun c_40_13 => ?_)
      · exact absurd c_40_13 (by decide)
      · refine lv_iconst (v := 0) hx hb dX6_setPrice_43 (by decide) ?_
        exact kiret hx hb hr hlocks hS (by decide) (by decide) dX6_setPrice_44 (⟨_, _, rfl, hP, Or.inl (⟨fun z => z.elim c_3_1 no_hh, rfl⟩)⟩)

def cm_buy (τ : SG) (n : Nat) (hh : Int32) (v : Int32) (τ' : SG) : Prop := (¬ (hh = -1 ∨ (∃ j, j < 4 ∧ hh = nI j)) ∧ τ' = thr τ 1) ∨ ((hh = -1 ∨ (∃ j, j < 4 ∧ hh = nI j)) ∧ n = 80 ∧ τ' = thr τ 2) ∨ (hh = -1 ∧ n < 80 ∧ v = nI n ∧ τ' = mMake (thr τ 0) n 1 (-1) (-1) (thr τ 0 1 0)) ∨ (∃ h, h < 4 ∧ hh = nI h ∧ n < 80 ∧ v = nI n ∧ τ' = mMake (thr τ 0) n 0 (nI h) (-1) (thr τ 0 0 h))
set_option maxHeartbeats 4000000 in
set_option maxRecDepth 100000 in
theorem kR_buy (l : Launch) (G : GE) (A : Nat → Prop) (ad : Nat → Nat) (τ : SG) (hh : Int32) (n : Nat) (hn : τ 3 0 = nI n) (hn8 : n ≤ 80) : KM l G A yX6_buy cX6_buy 2 (some .int) (rmL 3 0 0) [.ref (ad 30), .int hh] (PM G A ad τ) (fun v H => ∃ x τ', v = some (.int x) ∧ PM G A ad τ' H ∧ cm_buy τ n hh x τ') (fun _ _ => False) := by
  refine KM.of (by decide) (Nat.le_of_ble_eq_true rfl) ?_
  intro p e s m args below meth c F hP ls hl
  have hx := F.1.1
  have hb := F.1.2.1
  have hown := F.1.2.2.2.1
  have hts := F.1.2.2.2.2
  have hr := F.2.1
  have hlocks := F.2.2.1
  have hE := F.2.2.2.2.2.1
  have hA := F.2.2.2.2.2.2
  have hS : va_S A s.heap s.heap [] := va_S.rf
  have hl : lv_has ls 2 [(0, .ref (ad 30)), (1, .int hh)] := hl
  have hP := hP
  refine lv_aload_n hx hb dX6_buy_0 rfl (lv_at hl 0 rfl) ?_
  refine lv_iload_n hx hb dX6_buy_1 rfl (lv_at hl 1 rfl) ?_
  refine lv_iconst (v := (-1)) hx hb dX6_buy_2 (by decide) ?_
  refine lv_icmp_eq (tgt := 17) hx hb dX6_buy_3 (by decide) (fun c_3_1 => ?_) (fun c_3_1 => ?_)
  · refine lv_aload_n hx hb dX6_buy_17 rfl (lv_at hl 0 rfl) ?_
    refine gX6 F hP.main 3 (by decide) wFL_X6_88 (fun _ h9 => h9) (v := .int (nI n)) (by simp [up, thr, hn]) dX6_buy_18 ?_
    refine lv_bipush (v := 80) hx hb dX6_buy_21 (by decide) ?_
    refine lv_icmp_ne (tgt := 30) hx hb dX6_buy_23 (by decide) (fun c_23_2 => ?_) (fun c_23_2 => ?_)
    · have h80 : n < 80 := Nat.lt_of_le_of_ne hn8 (fun z => c_23_2 (by rw [z]; rfl))
      refine lv_iconst (v := 0) hx hb dX6_buy_30 (by decide) ?_
      refine pX6 F hS hP.main hP.omain 27 (by decide) wFL_X6_81 (fun _ h9 => h9) rfl rfl rfl (by simp) dX6_buy_31 (fun H1 locs1 he1 z1 oq1 hS => ?_)
      have hP : PM G A ad (thr τ 0) H1 := hP.p27 he1 oq1
      refine lv_aload_n hx hb dX6_buy_34 rfl (lv_at hl 0 rfl) ?_
      refine gX6 F hP.main 27 (by decide) wFL_X6_81 (fun _ h9 => h9) (v := .int 0) (by simp [thr, up]) dX6_buy_35 ?_
      refine lv_if_le (tgt := 43) hx hb dX6_buy_38 (by decide) (fun c_38_3 => ?_) (fun c_38_3 => ?_)
      · refine lv_iload_n hx hb dX6_buy_43 rfl (lv_at hl 1 rfl) ?_
        refine lv_iconst (v := (-1)) hx hb dX6_buy_44 (by decide) ?_
        refine lv_icmp_ne (tgt := 62) hx hb dX6_buy_45 (by decide) (fun c_45_4 => ?_) (fun c_45_4 => ?_)
        · exact absurd c_3_1 c_45_4
        · refine lv_aload_n hx hb dX6_buy_48 rfl (lv_at hl 0 rfl) ?_
          refine lv_iconst (v := 1) hx hb dX6_buy_49 (by decide) ?_
          refine lv_iconst (v := (-1)) hx hb dX6_buy_50 (by decide) ?_
          refine lv_iconst (v := (-1)) hx hb dX6_buy_51 (by decide) ?_
          refine lv_aload_n hx hb dX6_buy_52 rfl (lv_at hl 0 rfl) ?_
          refine gX6 F hP.main 1 (by decide) wFL_X6_77 (fun _ h9 => h9) (v := .int ((thr τ 0) 1 0)) rfl dX6_buy_53 ?_
          refine kcallV (n := 4) F (kM_make l G A ad (thr τ 0) n (by simp [thr, up, hn]) h80 1 (-1) (-1) ((thr τ 0) 1 0)) wML_X6_104 wIM_X6_make wSE_X6_X6_make wIN_X6 wCO_X6_make (by decide) rfl ⟨by decide, by decide⟩ (frec F hP.main _ rfl) hS (fun _ h => h) (fun q h => hA q (Nat.le_trans hS.1 h)) hP rfl hl.1 (Nat.le_of_ble_eq_true rfl) dX6_buy_56 ⟨by decide, by decide⟩ (fun E ce q9 H1 locs1 hx9 _ _ _ _ _ => hx9.elim) (fun v H1 locs1 hv hk hS => ?_)
          obtain ⟨rfl, hP⟩ := hv
          refine lv_goto (tgt := 75) hx hb dX6_buy_59 (by decide) ?_
          exact kiret hx hb hr hlocks hS (by decide) (by decide) dX6_buy_75 (⟨_, _, rfl, hP, Or.inr (Or.inr (Or.inl (⟨c_3_1, h80, rfl, rfl⟩)))⟩)
      · exact absurd c_38_3 (by decide)
    · have h80 : n = 80 := nIe (by omega) (by decide) c_23_2
      refine lv_iconst (v := 2) hx hb dX6_buy_26 (by decide) ?_
      refine lv_goto (tgt := 31) hx hb dX6_buy_27 (by decide) ?_
      refine pX6 F hS hP.main hP.omain 27 (by decide) wFL_X6_81 (fun _ h9 => h9) rfl rfl rfl (by simp) dX6_buy_31 (fun H1 locs1 he1 z1 oq1 hS => ?_)
      have hP : PM G A ad (thr τ 2) H1 := hP.p27 he1 oq1
      refine lv_aload_n hx hb dX6_buy_34 rfl (lv_at hl 0 rfl) ?_
      refine gX6 F hP.main 27 (by decide) wFL_X6_81 (fun _ h9 => h9) (v := .int 2) (by simp [thr, up]) dX6_buy_35 ?_
      refine lv_if_le (tgt := 43) hx hb dX6_buy_38 (by decide) (fun c_38_5 => ?_) (fun c_38_5 => ?_)
      · exact absurd c_38_5 (by decide)
      · refine lv_iconst (v := 0) hx hb dX6_buy_41 (by decide) ?_
        exact kiret hx hb hr hlocks hS (by decide) (by decide) dX6_buy_42 (⟨_, _, rfl, hP, Or.inr (Or.inl (⟨Or.inl c_3_1, h80, rfl⟩))⟩)
  · refine lv_iload_n hx hb dX6_buy_6 rfl (lv_at hl 1 rfl) ?_
    refine kcallS (n := 1) F (kM_isHouse l G (fun q => s.heap.size ≤ q) hh) wML_X6_97 wST_X6_isHouse wIN_X6 wCO_X6_isHouse (by decide) rfl ⟨by decide, by decide⟩ hS (fun q h => hA q (Nat.le_trans hS.1 h)) (fun q h => h) trivial rfl hl.1 (Nat.le_of_ble_eq_true rfl) dX6_buy_7 ⟨by decide, by decide⟩ (fun E ce q9 H1 locs1 hx9 _ _ _ _ _ => hx9.elim) (fun v H1 locs1 hv hk hS => ?_)
    have hP := hP.old hk
    subst hv
    refine lv_if_ne (tgt := 17) hx hb dX6_buy_10 (by decide) (fun c_10_6 => ?_) (fun c_10_6 => ?_)
    · obtain ⟨h, hh9, rfl⟩ := in_ex (n := 4) rfl (by decide) (b2i_1.mp c_10_6)
      refine lv_aload_n hx hb dX6_buy_17 rfl (lv_at hl 0 rfl) ?_
      refine gX6 F hP.main 3 (by decide) wFL_X6_88 (fun _ h9 => h9) (v := .int (nI n)) (by simp [up, thr, hn]) dX6_buy_18 ?_
      refine lv_bipush (v := 80) hx hb dX6_buy_21 (by decide) ?_
      refine lv_icmp_ne (tgt := 30) hx hb dX6_buy_23 (by decide) (fun c_23_7 => ?_) (fun c_23_7 => ?_)
      · have h80 : n < 80 := Nat.lt_of_le_of_ne hn8 (fun z => c_23_7 (by rw [z]; rfl))
        refine lv_iconst (v := 0) hx hb dX6_buy_30 (by decide) ?_
        refine pX6 F hS hP.main hP.omain 27 (by decide) wFL_X6_81 (fun _ h9 => h9) rfl rfl rfl (by simp) dX6_buy_31 (fun H1 locs1 he1 z1 oq1 hS => ?_)
        have hP : PM G A ad (thr τ 0) H1 := hP.p27 he1 oq1
        refine lv_aload_n hx hb dX6_buy_34 rfl (lv_at hl 0 rfl) ?_
        refine gX6 F hP.main 27 (by decide) wFL_X6_81 (fun _ h9 => h9) (v := .int 0) (by simp [thr, up]) dX6_buy_35 ?_
        refine lv_if_le (tgt := 43) hx hb dX6_buy_38 (by decide) (fun c_38_8 => ?_) (fun c_38_8 => ?_)
        · refine lv_iload_n hx hb dX6_buy_43 rfl (lv_at hl 1 rfl) ?_
          refine lv_iconst (v := (-1)) hx hb dX6_buy_44 (by decide) ?_
          refine lv_icmp_ne (tgt := 62) hx hb dX6_buy_45 (by decide) (fun c_45_9 => ?_) (fun c_45_9 => ?_)
          · refine lv_aload_n hx hb dX6_buy_62 rfl (lv_at hl 0 rfl) ?_
            refine lv_iconst (v := 0) hx hb dX6_buy_63 (by decide) ?_
            refine lv_iload_n hx hb dX6_buy_64 rfl (lv_at hl 1 rfl) ?_
            refine lv_iconst (v := (-1)) hx hb dX6_buy_65 (by decide) ?_
            refine lv_aload_n hx hb dX6_buy_66 rfl (lv_at hl 0 rfl) ?_
            refine gX6 F hP.main 0 (by decide) wFL_X6_7 (fun _ h9 => h9) (v := .ref (ad 0)) rfl dX6_buy_67 ?_
            refine lv_iload_n hx hb dX6_buy_70 rfl (lv_at hl 1 rfl) ?_
            refine xiald hx hb hE.1.1 (hP.arr 0 (by decide) (by decide)) 0 rfl (k := h) rfl (show _ < 4 by omega) (by decide) dX6_buy_71 ?_
            refine kcallV (n := 4) F (kM_make l G A ad (thr τ 0) n (by simp [thr, up, hn]) h80 0 (nI h) (-1) ((thr τ 0) 0 h)) wML_X6_104 wIM_X6_make wSE_X6_X6_make wIN_X6 wCO_X6_make (by decide) rfl ⟨by decide, by decide⟩ (frec F hP.main _ rfl) hS (fun _ h => h) (fun q h => hA q (Nat.le_trans hS.1 h)) hP rfl hl.1 (Nat.le_of_ble_eq_true rfl) dX6_buy_72 ⟨by decide, by decide⟩ (fun E ce q9 H1 locs1 hx9 _ _ _ _ _ => hx9.elim) (fun v H1 locs1 hv hk hS => ?_)
            obtain ⟨rfl, hP⟩ := hv
            exact kiret hx hb hr hlocks hS (by decide) (by decide) dX6_buy_75 (⟨_, _, rfl, hP, Or.inr (Or.inr (Or.inr (⟨h, hh9, rfl, h80, rfl, rfl⟩)))⟩)
          · exact absurd c_45_9 (nI_ne1 hh9)
        · exact absurd c_38_8 (by decide)
      · have h80 : n = 80 := nIe (by omega) (by decide) c_23_7
        refine lv_iconst (v := 2) hx hb dX6_buy_26 (by decide) ?_
        refine lv_goto (tgt := 31) hx hb dX6_buy_27 (by decide) ?_
        refine pX6 F hS hP.main hP.omain 27 (by decide) wFL_X6_81 (fun _ h9 => h9) rfl rfl rfl (by simp) dX6_buy_31 (fun H1 locs1 he1 z1 oq1 hS => ?_)
        have hP : PM G A ad (thr τ 2) H1 := hP.p27 he1 oq1
        refine lv_aload_n hx hb dX6_buy_34 rfl (lv_at hl 0 rfl) ?_
        refine gX6 F hP.main 27 (by decide) wFL_X6_81 (fun _ h9 => h9) (v := .int 2) (by simp [thr, up]) dX6_buy_35 ?_
        refine lv_if_le (tgt := 43) hx hb dX6_buy_38 (by decide) (fun c_38_10 => ?_) (fun c_38_10 => ?_)
        · exact absurd c_38_10 (by decide)
        · refine lv_iconst (v := 0) hx hb dX6_buy_41 (by decide) ?_
          exact kiret hx hb hr hlocks hS (by decide) (by decide) dX6_buy_42 (⟨_, _, rfl, hP, Or.inr (Or.inl (⟨Or.inr ⟨h, hh9, rfl⟩, h80, rfl⟩))⟩)
    · have no_hh := in_no (n := 4) rfl (by decide) (b2i_0.mp c_10_6)
      refine lv_iconst (v := 1) hx hb dX6_buy_13 (by decide) ?_
      refine lv_goto (tgt := 31) hx hb dX6_buy_14 (by decide) ?_
      refine pX6 F hS hP.main hP.omain 27 (by decide) wFL_X6_81 (fun _ h9 => h9) rfl rfl rfl (by simp) dX6_buy_31 (fun H1 locs1 he1 z1 oq1 hS => ?_)
      have hP : PM G A ad (thr τ 1) H1 := hP.p27 he1 oq1
      refine lv_aload_n hx hb dX6_buy_34 rfl (lv_at hl 0 rfl) ?_
      refine gX6 F hP.main 27 (by decide) wFL_X6_81 (fun _ h9 => h9) (v := .int 1) (by simp [thr, up]) dX6_buy_35 ?_
      refine lv_if_le (tgt := 43) hx hb dX6_buy_38 (by decide) (fun c_38_11 => ?_) (fun c_38_11 => ?_)
      · exact absurd c_38_11 (by decide)
      · refine lv_iconst (v := 0) hx hb dX6_buy_41 (by decide) ?_
        exact kiret hx hb hr hlocks hS (by decide) (by decide) dX6_buy_42 (⟨_, _, rfl, hP, Or.inl (⟨fun z => z.elim c_3_1 no_hh, rfl⟩)⟩)

def cm_admitM (τ : SG) (n : Nat) (vm : Int32) (v : Int32) (τ' : SG) : Prop := (¬ (∃ j, j < 6 ∧ vm = nI j) ∧ τ' = thr τ 1) ∨ (∃ k, k < 6 ∧ vm = nI k ∧ (fBel (thr τ 0 2 k) (thr τ 0 26 0) = false ∨ ¬ (cntF (mHas (thr τ 0) (nI k) 2) 0 n = 0) ∨ n = 80) ∧ τ' = thr τ 2) ∨ (∃ k, k < 6 ∧ vm = nI k ∧ fBel (thr τ 0 2 k) (thr τ 0 26 0) = true ∧ cntF (mHas (thr τ 0) (nI k) 2) 0 n = 0 ∧ n < 80 ∧ v = nI n ∧ τ' = mMake (thr τ 0) n 2 (-1) (nI k) 0)
set_option maxHeartbeats 4000000 in
set_option maxRecDepth 100000 in
theorem kR_admitM (l : Launch) (G : GE) (A : Nat → Prop) (ad : Nat → Nat) (τ : SG) (vm : Int32) (n : Nat) (hn : τ 3 0 = nI n) (hn8 : n ≤ 80) : KM l G A yX6_admit cX6_admit 4 (some .int) (rmL 3 0 0) [.ref (ad 30), .int vm, .int 0] (PM G A ad τ) (fun v H => ∃ x τ', v = some (.int x) ∧ PM G A ad τ' H ∧ cm_admitM τ n vm x τ') (fun _ _ => False) := by
  refine KM.of (by decide) (Nat.le_of_ble_eq_true rfl) ?_
  intro p e s m args below meth c F hP ls hl
  have hx := F.1.1
  have hb := F.1.2.1
  have hown := F.1.2.2.2.1
  have hts := F.1.2.2.2.2
  have hr := F.2.1
  have hlocks := F.2.2.1
  have hE := F.2.2.2.2.2.1
  have hA := F.2.2.2.2.2.2
  have hS : va_S A s.heap s.heap [] := va_S.rf
  have hl : lv_has ls 4 [(0, .ref (ad 30)), (1, .int vm), (2, .int 0)] := hl
  have hP := hP
  refine lv_aload_n hx hb dX6_admit_0 rfl (lv_at hl 0 rfl) ?_
  refine lv_iload_n hx hb dX6_admit_1 rfl (lv_at hl 1 rfl) ?_
  refine kcallS (n := 1) F (kM_isMember l G (fun q => s.heap.size ≤ q) vm) wML_X6_111 wST_X6_isMember wIN_X6 wCO_X6_isMember (by decide) rfl ⟨by decide, by decide⟩ hS (fun q h => hA q (Nat.le_trans hS.1 h)) (fun q h => h) trivial rfl hl.1 (Nat.le_of_ble_eq_true rfl) dX6_admit_2 ⟨by decide, by decide⟩ (fun E ce q9 H1 locs1 hx9 _ _ _ _ _ => hx9.elim) (fun v H1 locs1 hv hk hS => ?_)
  have hP := hP.old hk
  subst hv
  refine lv_if_eq (tgt := 12) hx hb dX6_admit_5 (by decide) (fun c_5_1 => ?_) (fun c_5_1 => ?_)
  · have no_vm := in_no (n := 6) rfl (by decide) (b2i_0.mp c_5_1)
    refine lv_iconst (v := 1) hx hb dX6_admit_12 (by decide) ?_
    refine pX6 F hS hP.main hP.omain 27 (by decide) wFL_X6_81 (fun _ h9 => h9) rfl rfl rfl (by simp) dX6_admit_13 (fun H1 locs1 he1 z1 oq1 hS => ?_)
    have hP : PM G A ad (thr τ 1) H1 := hP.p27 he1 oq1
    refine lv_aload_n hx hb dX6_admit_16 rfl (lv_at hl 0 rfl) ?_
    refine gX6 F hP.main 27 (by decide) wFL_X6_81 (fun _ h9 => h9) (v := .int 1) (by simp [thr, up]) dX6_admit_17 ?_
    refine lv_if_ne (tgt := 99) hx hb dX6_admit_20 (by decide) (fun c_20_2 => ?_) (fun c_20_2 => ?_)
    · refine lv_aload_n hx hb dX6_admit_99 rfl (lv_at hl 0 rfl) ?_
      refine gX6 F hP.main 27 (by decide) wFL_X6_81 (fun _ h9 => h9) (v := .int 1) (by simp [thr, up]) dX6_admit_100 ?_
      refine lv_if_le (tgt := 108) hx hb dX6_admit_103 (by decide) (fun c_103_3 => ?_) (fun c_103_3 => ?_)
      · exact absurd c_103_3 (by decide)
      · refine lv_iconst (v := 0) hx hb dX6_admit_106 (by decide) ?_
        exact kiret hx hb hr hlocks hS (by decide) (by decide) dX6_admit_107 (⟨_, _, rfl, hP, Or.inl (⟨no_vm, rfl⟩)⟩)
    · exact absurd c_20_2 (by decide)
  · obtain ⟨k, hm9, rfl⟩ := in_ex (n := 6) rfl (by decide) (b2i_1.mp c_5_1)
    refine lv_iconst (v := 0) hx hb dX6_admit_8 (by decide) ?_
    refine lv_goto (tgt := 13) hx hb dX6_admit_9 (by decide) ?_
    refine pX6 F hS hP.main hP.omain 27 (by decide) wFL_X6_81 (fun _ h9 => h9) rfl rfl rfl (by simp) dX6_admit_13 (fun H1 locs1 he1 z1 oq1 hS => ?_)
    have hP : PM G A ad (thr τ 0) H1 := hP.p27 he1 oq1
    refine lv_aload_n hx hb dX6_admit_16 rfl (lv_at hl 0 rfl) ?_
    refine gX6 F hP.main 27 (by decide) wFL_X6_81 (fun _ h9 => h9) (v := .int 0) (by simp [thr, up]) dX6_admit_17 ?_
    refine lv_if_ne (tgt := 99) hx hb dX6_admit_20 (by decide) (fun c_20_4 => ?_) (fun c_20_4 => ?_)
    · exact absurd c_20_4 (by decide)
    · refine lv_iload_n hx hb dX6_admit_23 rfl (lv_at hl 2 rfl) ?_
      refine lv_if_eq (tgt := 54) hx hb dX6_admit_24 (by decide) (fun c_24_5 => ?_) (fun c_24_5 => ?_)
      · refine lv_aload_n hx hb dX6_admit_54 rfl (lv_at hl 0 rfl) ?_
        refine lv_iload_n hx hb dX6_admit_55 rfl (lv_at hl 1 rfl) ?_
        refine lv_iconst (v := 2) hx hb dX6_admit_56 (by decide) ?_
        refine kcallV (n := 2) F (kM_has l G (fun q => H1.size ≤ q) A ad (thr τ 0) (nI k) 2 n (by simp [thr, up, hn]) hn8) wML_X6_114 wIM_X6_has wSE_X6_X6_has wIN_X6 wCO_X6_has (by decide) rfl ⟨by decide, by decide⟩ (frec F hP.main _ rfl) hS (fun q h => hA q (Nat.le_trans hS.1 h)) (fun q h => h) hP rfl hl.1 (Nat.le_of_ble_eq_true rfl) dX6_admit_57 ⟨by decide, by decide⟩ (fun E ce q9 H1 locs1 hx9 _ _ _ _ _ => hx9.elim) (fun v H1 locs1 hv hk hS => ?_)
        have hP := hP.old hk
        subst hv
        refine lv_if_ne (tgt := 67) hx hb dX6_admit_60 (by decide) (fun c_60_6 => ?_) (fun c_60_6 => ?_)
        · have hcan : ¬ (cntF (mHas (thr τ 0) (nI k) 2) 0 n = 0) := fun z => c_60_6 (by rw [z]; rfl)
          refine lv_iconst (v := 0) hx hb dX6_admit_67 (by decide) ?_
          refine lv_istore_n (lv' := [(3, .int 0), (0, .ref (ad 30)), (1, .int (nI k)), (2, .int 0)]) hx hb dX6_admit_68 rfl hl (by decide) rfl (fun ls hl => ?_)
          refine lv_aload_n hx hb dX6_admit_69 rfl (lv_at hl 1 rfl) ?_
          refine lv_aload_n hx hb dX6_admit_70 rfl (lv_at hl 1 rfl) ?_
          refine lv_iload_n hx hb dX6_admit_71 rfl (lv_at hl 2 rfl) ?_
          refine kcallV (n := 1) F (kM_isValid l G (fun q => H1.size ≤ q) A ad (thr τ 0) k (by omega)) wML_X6_118 wIM_X6_isValid wSE_X6_X6_isValid wIN_X6 wCO_X6_isValid (by decide) rfl ⟨by decide, by decide⟩ (frec F hP.main _ rfl) hS (fun q h => hA q (Nat.le_trans hS.1 h)) (fun q h => h) hP rfl hl.1 (Nat.le_of_ble_eq_true rfl) dX6_admit_72 ⟨by decide, by decide⟩ (fun E ce q9 H1 locs1 hx9 _ _ _ _ _ => hx9.elim) (fun v H1 locs1 hv hk hS => ?_)
          have hP := hP.old hk
          subst hv
          refine lv_if_eq (tgt := 91) hx hb dX6_admit_75 (by decide) (fun c_75_7 => ?_) (fun c_75_7 => ?_)
          · refine lv_iconst (v := 2) hx hb dX6_admit_91 (by decide) ?_
            refine lv_goto (tgt := 96) hx hb dX6_admit_92 (by decide) ?_
            refine pX6 F hS hP.main hP.omain 27 (by decide) wFL_X6_81 (fun _ h9 => h9) rfl rfl rfl (by simp) dX6_admit_96 (fun H1 locs1 he1 z1 oq1 hS => ?_)
            have hP : PM G A ad (thr τ 2) H1 := by have h := hP.p27 he1 oq1; exact thr_thr ▸ h
            refine lv_aload_n hx hb dX6_admit_99 rfl (lv_at hl 1 rfl) ?_
            refine gX6 F hP.main 27 (by decide) wFL_X6_81 (fun _ h9 => h9) (v := .int 2) (by simp [thr, up]) dX6_admit_100 ?_
            refine lv_if_le (tgt := 108) hx hb dX6_admit_103 (by decide) (fun c_103_8 => ?_) (fun c_103_8 => ?_)
            · exact absurd c_103_8 (by decide)
            · refine lv_iconst (v := 0) hx hb dX6_admit_106 (by decide) ?_
              exact kiret hx hb hr hlocks hS (by decide) (by decide) dX6_admit_107 (⟨_, _, rfl, hP, Or.inr (Or.inl (⟨k, hm9, rfl, Or.inl (b2i_0.mp c_75_7), rfl⟩))⟩)
          · refine lv_iload_n hx hb dX6_admit_78 rfl (lv_at hl 0 rfl) ?_
            refine lv_if_eq (tgt := 91) hx hb dX6_admit_79 (by decide) (fun c_79_9 => ?_) (fun c_79_9 => ?_)
            · refine lv_iconst (v := 2) hx hb dX6_admit_91 (by decide) ?_
              refine lv_goto (tgt := 96) hx hb dX6_admit_92 (by decide) ?_
              refine pX6 F hS hP.main hP.omain 27 (by decide) wFL_X6_81 (fun _ h9 => h9) rfl rfl rfl (by simp) dX6_admit_96 (fun H1 locs1 he1 z1 oq1 hS => ?_)
              have hP : PM G A ad (thr τ 2) H1 := by have h := hP.p27 he1 oq1; exact thr_thr ▸ h
              refine lv_aload_n hx hb dX6_admit_99 rfl (lv_at hl 1 rfl) ?_
              refine gX6 F hP.main 27 (by decide) wFL_X6_81 (fun _ h9 => h9) (v := .int 2) (by simp [thr, up]) dX6_admit_100 ?_
              refine lv_if_le (tgt := 108) hx hb dX6_admit_103 (by decide) (fun c_103_10 => ?_) (fun c_103_10 => ?_)
              · exact absurd c_103_10 (by decide)
              · refine lv_iconst (v := 0) hx hb dX6_admit_106 (by decide) ?_
                exact kiret hx hb hr hlocks hS (by decide) (by decide) dX6_admit_107 (⟨_, _, rfl, hP, Or.inr (Or.inl (⟨k, hm9, rfl, Or.inr (Or.inl hcan), rfl⟩))⟩)
            · exact absurd c_79_9 (by decide)
        · have hcan : cntF (mHas (thr τ 0) (nI k) 2) 0 n = 0 := nIe (by have := cntF_le (mHas (thr τ 0) (nI k) 2) n 0; omega) (by decide) c_60_6
          refine lv_iconst (v := 1) hx hb dX6_admit_63 (by decide) ?_
          refine lv_goto (tgt := 68) hx hb dX6_admit_64 (by decide) ?_
          refine lv_istore_n (lv' := [(3, .int 1), (0, .ref (ad 30)), (1, .int (nI k)), (2, .int 0)]) hx hb dX6_admit_68 rfl hl (by decide) rfl (fun ls hl => ?_)
          refine lv_aload_n hx hb dX6_admit_69 rfl (lv_at hl 1 rfl) ?_
          refine lv_aload_n hx hb dX6_admit_70 rfl (lv_at hl 1 rfl) ?_
          refine lv_iload_n hx hb dX6_admit_71 rfl (lv_at hl 2 rfl) ?_
          refine kcallV (n := 1) F (kM_isValid l G (fun q => H1.size ≤ q) A ad (thr τ 0) k (by omega)) wML_X6_118 wIM_X6_isValid wSE_X6_X6_isValid wIN_X6 wCO_X6_isValid (by decide) rfl ⟨by decide, by decide⟩ (frec F hP.main _ rfl) hS (fun q h => hA q (Nat.le_trans hS.1 h)) (fun q h => h) hP rfl hl.1 (Nat.le_of_ble_eq_true rfl) dX6_admit_72 ⟨by decide, by decide⟩ (fun E ce q9 H1 locs1 hx9 _ _ _ _ _ => hx9.elim) (fun v H1 locs1 hv hk hS => ?_)
          have hP := hP.old hk
          subst hv
          refine lv_if_eq (tgt := 91) hx hb dX6_admit_75 (by decide) (fun c_75_11 => ?_) (fun c_75_11 => ?_)
          · refine lv_iconst (v := 2) hx hb dX6_admit_91 (by decide) ?_
            refine lv_goto (tgt := 96) hx hb dX6_admit_92 (by decide) ?_
            refine pX6 F hS hP.main hP.omain 27 (by decide) wFL_X6_81 (fun _ h9 => h9) rfl rfl rfl (by simp) dX6_admit_96 (fun H1 locs1 he1 z1 oq1 hS => ?_)
            have hP : PM G A ad (thr τ 2) H1 := by have h := hP.p27 he1 oq1; exact thr_thr ▸ h
            refine lv_aload_n hx hb dX6_admit_99 rfl (lv_at hl 1 rfl) ?_
            refine gX6 F hP.main 27 (by decide) wFL_X6_81 (fun _ h9 => h9) (v := .int 2) (by simp [thr, up]) dX6_admit_100 ?_
            refine lv_if_le (tgt := 108) hx hb dX6_admit_103 (by decide) (fun c_103_12 => ?_) (fun c_103_12 => ?_)
            · exact absurd c_103_12 (by decide)
            · refine lv_iconst (v := 0) hx hb dX6_admit_106 (by decide) ?_
              exact kiret hx hb hr hlocks hS (by decide) (by decide) dX6_admit_107 (⟨_, _, rfl, hP, Or.inr (Or.inl (⟨k, hm9, rfl, Or.inl (b2i_0.mp c_75_11), rfl⟩))⟩)
          · refine lv_iload_n hx hb dX6_admit_78 rfl (lv_at hl 0 rfl) ?_
            refine lv_if_eq (tgt := 91) hx hb dX6_admit_79 (by decide) (fun c_79_13 => ?_) (fun c_79_13 => ?_)
            · exact absurd c_79_13 (by decide)
            · refine lv_aload_n hx hb dX6_admit_82 rfl (lv_at hl 1 rfl) ?_
              refine gX6 F hP.main 3 (by decide) wFL_X6_88 (fun _ h9 => h9) (v := .int (nI n)) (by simp [up, thr, hn]) dX6_admit_83 ?_
              refine lv_bipush (v := 80) hx hb dX6_admit_86 (by decide) ?_
              refine lv_icmp_ne (tgt := 95) hx hb dX6_admit_88 (by decide) (fun c_88_14 => ?_) (fun c_88_14 => ?_)
              · have h80 : n < 80 := Nat.lt_of_le_of_ne hn8 (fun z => c_88_14 (by rw [z]; rfl))
                refine lv_iconst (v := 0) hx hb dX6_admit_95 (by decide) ?_
                refine pX6 F hS hP.main hP.omain 27 (by decide) wFL_X6_81 (fun _ h9 => h9) rfl rfl rfl (by simp) dX6_admit_96 (fun H1 locs1 he1 z1 oq1 hS => ?_)
                have hP : PM G A ad (thr τ 0) H1 := by have h := hP.p27 he1 oq1; exact thr_thr ▸ h
                refine lv_aload_n hx hb dX6_admit_99 rfl (lv_at hl 1 rfl) ?_
                refine gX6 F hP.main 27 (by decide) wFL_X6_81 (fun _ h9 => h9) (v := .int 0) (by simp [thr, up]) dX6_admit_100 ?_
                refine lv_if_le (tgt := 108) hx hb dX6_admit_103 (by decide) (fun c_103_15 => ?_) (fun c_103_15 => ?_)
                · refine lv_aload_n hx hb dX6_admit_108 rfl (lv_at hl 1 rfl) ?_
                  refine lv_iload_n hx hb dX6_admit_109 rfl (lv_at hl 3 rfl) ?_
                  refine lv_if_eq (tgt := 117) hx hb dX6_admit_110 (by decide) (fun c_110_16 => ?_) (fun c_110_16 => ?_)
                  · refine lv_iconst (v := 2) hx hb dX6_admit_117 (by decide) ?_
                    refine lv_iconst (v := (-1)) hx hb dX6_admit_118 (by decide) ?_
                    refine lv_iload_n hx hb dX6_admit_119 rfl (lv_at hl 2 rfl) ?_
                    refine lv_iload_n hx hb dX6_admit_120 rfl (lv_at hl 3 rfl) ?_
                    refine lv_if_eq (tgt := 133) hx hb dX6_admit_121 (by decide) (fun c_121_17 => ?_) (fun c_121_17 => ?_)
                    · refine lv_iconst (v := 0) hx hb dX6_admit_133 (by decide) ?_
                      refine kcallV (n := 4) F (kM_make l G A ad (thr τ 0) n (by simp [thr, up, hn]) h80 2 (-1) (nI k) 0) wML_X6_104 wIM_X6_make wSE_X6_X6_make wIN_X6 wCO_X6_make (by decide) rfl ⟨by decide, by decide⟩ (frec F hP.main _ rfl) hS (fun _ h => h) (fun q h => hA q (Nat.le_trans hS.1 h)) hP rfl hl.1 (Nat.le_of_ble_eq_true rfl) dX6_admit_134 ⟨by decide, by decide⟩ (fun E ce q9 H1 locs1 hx9 _ _ _ _ _ => hx9.elim) (fun v H1 locs1 hv hk hS => ?_)
                      obtain ⟨rfl, hP⟩ := hv
                      exact kiret hx hb hr hlocks hS (by decide) (by decide) dX6_admit_137 (⟨_, _, rfl, hP, Or.inr (Or.inr (⟨k, hm9, rfl, b2i_1.mp c_75_11, hcan, h80, rfl, rfl⟩))⟩)
                    · exact absurd c_121_17 (by decide)
                  · exact absurd c_110_16 (by decide)
                · exact absurd c_103_15 (by decide)
              · have h80 : n = 80 := nIe (by omega) (by decide) c_88_14
                refine lv_iconst (v := 2) hx hb dX6_admit_91 (by decide) ?_
                refine lv_goto (tgt := 96) hx hb dX6_admit_92 (by decide) ?_
                refine pX6 F hS hP.main hP.omain 27 (by decide) wFL_X6_81 (fun _ h9 => h9) rfl rfl rfl (by simp) dX6_admit_96 (fun H1 locs1 he1 z1 oq1 hS => ?_)
                have hP : PM G A ad (thr τ 2) H1 := by have h := hP.p27 he1 oq1; exact thr_thr ▸ h
                refine lv_aload_n hx hb dX6_admit_99 rfl (lv_at hl 1 rfl) ?_
                refine gX6 F hP.main 27 (by decide) wFL_X6_81 (fun _ h9 => h9) (v := .int 2) (by simp [thr, up]) dX6_admit_100 ?_
                refine lv_if_le (tgt := 108) hx hb dX6_admit_103 (by decide) (fun c_103_18 => ?_) (fun c_103_18 => ?_)
                · exact absurd c_103_18 (by decide)
                · refine lv_iconst (v := 0) hx hb dX6_admit_106 (by decide) ?_
                  exact kiret hx hb hr hlocks hS (by decide) (by decide) dX6_admit_107 (⟨_, _, rfl, hP, Or.inr (Or.inl (⟨k, hm9, rfl, Or.inr (Or.inr h80), rfl⟩))⟩)
      · exact absurd c_24_5 (by decide)

def cm_admitG (τ : SG) (n : Nat) (vm : Int32) (v : Int32) (τ' : SG) : Prop := (¬ (∃ j, j < 6 ∧ vm = nI j) ∧ τ' = thr τ 1) ∨ (∃ k, k < 6 ∧ vm = nI k ∧ (fBel (thr τ 0 2 k) (thr τ 0 26 0) = false ∨ ¬ (cntF (mHas (thr τ 0) (nI k) 2) 0 n ≠ 0 ∧ cntF (mHas (thr τ 0) (nI k) 3) 0 n < 2) ∨ n = 80) ∧ τ' = thr τ 2) ∨ (∃ k, k < 6 ∧ vm = nI k ∧ fBel (thr τ 0 2 k) (thr τ 0 26 0) = true ∧ (cntF (mHas (thr τ 0) (nI k) 2) 0 n ≠ 0 ∧ cntF (mHas (thr τ 0) (nI k) 3) 0 n < 2) ∧ n < 80 ∧ v = nI n ∧ τ' = mMake (thr τ 0) n 3 (-1) (nI k) (thr τ 0 1 0 / 2))
set_option maxHeartbeats 4000000 in
set_option maxRecDepth 100000 in
theorem kR_admitG (l : Launch) (G : GE) (A : Nat → Prop) (ad : Nat → Nat) (τ : SG) (vm : Int32) (n : Nat) (hn : τ 3 0 = nI n) (hn8 : n ≤ 80) : KM l G A yX6_admit cX6_admit 4 (some .int) (rmL 3 0 0) [.ref (ad 30), .int vm, .int 1] (PM G A ad τ) (fun v H => ∃ x τ', v = some (.int x) ∧ PM G A ad τ' H ∧ cm_admitG τ n vm x τ') (fun _ _ => False) := by
  refine KM.of (by decide) (Nat.le_of_ble_eq_true rfl) ?_
  intro p e s m args below meth c F hP ls hl
  have hx := F.1.1
  have hb := F.1.2.1
  have hown := F.1.2.2.2.1
  have hts := F.1.2.2.2.2
  have hr := F.2.1
  have hlocks := F.2.2.1
  have hE := F.2.2.2.2.2.1
  have hA := F.2.2.2.2.2.2
  have hS : va_S A s.heap s.heap [] := va_S.rf
  have hl : lv_has ls 4 [(0, .ref (ad 30)), (1, .int vm), (2, .int 1)] := hl
  have hP := hP
  refine lv_aload_n hx hb dX6_admit_0 rfl (lv_at hl 0 rfl) ?_
  refine lv_iload_n hx hb dX6_admit_1 rfl (lv_at hl 1 rfl) ?_
  refine kcallS (n := 1) F (kM_isMember l G (fun q => s.heap.size ≤ q) vm) wML_X6_111 wST_X6_isMember wIN_X6 wCO_X6_isMember (by decide) rfl ⟨by decide, by decide⟩ hS (fun q h => hA q (Nat.le_trans hS.1 h)) (fun q h => h) trivial rfl hl.1 (Nat.le_of_ble_eq_true rfl) dX6_admit_2 ⟨by decide, by decide⟩ (fun E ce q9 H1 locs1 hx9 _ _ _ _ _ => hx9.elim) (fun v H1 locs1 hv hk hS => ?_)
  have hP := hP.old hk
  subst hv
  refine lv_if_eq (tgt := 12) hx hb dX6_admit_5 (by decide) (fun c_5_1 => ?_) (fun c_5_1 => ?_)
  · have no_vm := in_no (n := 6) rfl (by decide) (b2i_0.mp c_5_1)
    refine lv_iconst (v := 1) hx hb dX6_admit_12 (by decide) ?_
    refine pX6 F hS hP.main hP.omain 27 (by decide) wFL_X6_81 (fun _ h9 => h9) rfl rfl rfl (by simp) dX6_admit_13 (fun H1 locs1 he1 z1 oq1 hS => ?_)
    have hP : PM G A ad (thr τ 1) H1 := hP.p27 he1 oq1
    refine lv_aload_n hx hb dX6_admit_16 rfl (lv_at hl 0 rfl) ?_
    refine gX6 F hP.main 27 (by decide) wFL_X6_81 (fun _ h9 => h9) (v := .int 1) (by simp [thr, up]) dX6_admit_17 ?_
    refine lv_if_ne (tgt := 99) hx hb dX6_admit_20 (by decide) (fun c_20_2 => ?_) (fun c_20_2 => ?_)
    · refine lv_aload_n hx hb dX6_admit_99 rfl (lv_at hl 0 rfl) ?_
      refine gX6 F hP.main 27 (by decide) wFL_X6_81 (fun _ h9 => h9) (v := .int 1) (by simp [thr, up]) dX6_admit_100 ?_
      refine lv_if_le (tgt := 108) hx hb dX6_admit_103 (by decide) (fun c_103_3 => ?_) (fun c_103_3 => ?_)
      · exact absurd c_103_3 (by decide)
      · refine lv_iconst (v := 0) hx hb dX6_admit_106 (by decide) ?_
        exact kiret hx hb hr hlocks hS (by decide) (by decide) dX6_admit_107 (⟨_, _, rfl, hP, Or.inl (⟨no_vm, rfl⟩)⟩)
    · exact absurd c_20_2 (by decide)
  · obtain ⟨k, hm9, rfl⟩ := in_ex (n := 6) rfl (by decide) (b2i_1.mp c_5_1)
    refine lv_iconst (v := 0) hx hb dX6_admit_8 (by decide) ?_
    refine lv_goto (tgt := 13) hx hb dX6_admit_9 (by decide) ?_
    refine pX6 F hS hP.main hP.omain 27 (by decide) wFL_X6_81 (fun _ h9 => h9) rfl rfl rfl (by simp) dX6_admit_13 (fun H1 locs1 he1 z1 oq1 hS => ?_)
    have hP : PM G A ad (thr τ 0) H1 := hP.p27 he1 oq1
    refine lv_aload_n hx hb dX6_admit_16 rfl (lv_at hl 0 rfl) ?_
    refine gX6 F hP.main 27 (by decide) wFL_X6_81 (fun _ h9 => h9) (v := .int 0) (by simp [thr, up]) dX6_admit_17 ?_
    refine lv_if_ne (tgt := 99) hx hb dX6_admit_20 (by decide) (fun c_20_4 => ?_) (fun c_20_4 => ?_)
    · exact absurd c_20_4 (by decide)
    · refine lv_iload_n hx hb dX6_admit_23 rfl (lv_at hl 2 rfl) ?_
      refine lv_if_eq (tgt := 54) hx hb dX6_admit_24 (by decide) (fun c_24_5 => ?_) (fun c_24_5 => ?_)
      · exact absurd c_24_5 (by decide)
      · refine lv_aload_n hx hb dX6_admit_27 rfl (lv_at hl 0 rfl) ?_
        refine lv_iload_n hx hb dX6_admit_28 rfl (lv_at hl 1 rfl) ?_
        refine lv_iconst (v := 2) hx hb dX6_admit_29 (by decide) ?_
        refine kcallV (n := 2) F (kM_has l G (fun q => H1.size ≤ q) A ad (thr τ 0) (nI k) 2 n (by simp [thr, up, hn]) hn8) wML_X6_114 wIM_X6_has wSE_X6_X6_has wIN_X6 wCO_X6_has (by decide) rfl ⟨by decide, by decide⟩ (frec F hP.main _ rfl) hS (fun q h => hA q (Nat.le_trans hS.1 h)) (fun q h => h) hP rfl hl.1 (Nat.le_of_ble_eq_true rfl) dX6_admit_30 ⟨by decide, by decide⟩ (fun E ce q9 H1 locs1 hx9 _ _ _ _ _ => hx9.elim) (fun v H1 locs1 hv hk hS => ?_)
        have hP := hP.old hk
        subst hv
        refine lv_if_le (tgt := 50) hx hb dX6_admit_33 (by decide) (fun c_33_6 => ?_) (fun c_33_6 => ?_)
        · have hcan : ¬ (cntF (mHas (thr τ 0) (nI k) 2) 0 n ≠ 0 ∧ cntF (mHas (thr τ 0) (nI k) 3) 0 n < 2) := fun z => z.1 (nI_le0 (by have := cntF_le (mHas (thr τ 0) (nI k) 2) n 0; omega) c_33_6)
          refine lv_iconst (v := 0) hx hb dX6_admit_50 (by decide) ?_
          refine lv_goto (tgt := 68) hx hb dX6_admit_51 (by decide) ?_
          refine lv_istore_n (lv' := [(3, .int 0), (0, .ref (ad 30)), (1, .int (nI k)), (2, .int 1)]) hx hb dX6_admit_68 rfl hl (by decide) rfl (fun ls hl => ?_)
          refine lv_aload_n hx hb dX6_admit_69 rfl (lv_at hl 1 rfl) ?_
          refine lv_aload_n hx hb dX6_admit_70 rfl (lv_at hl 1 rfl) ?_
          refine lv_iload_n hx hb dX6_admit_71 rfl (lv_at hl 2 rfl) ?_
          refine kcallV (n := 1) F (kM_isValid l G (fun q => H1.size ≤ q) A ad (thr τ 0) k (by omega)) wML_X6_118 wIM_X6_isValid wSE_X6_X6_isValid wIN_X6 wCO_X6_isValid (by decide) rfl ⟨by decide, by decide⟩ (frec F hP.main _ rfl) hS (fun q h => hA q (Nat.le_trans hS.1 h)) (fun q h => h) hP rfl hl.1 (Nat.le_of_ble_eq_true rfl) dX6_admit_72 ⟨by decide, by decide⟩ (fun E ce q9 H1 locs1 hx9 _ _ _ _ _ => hx9.elim) (fun v H1 locs1 hv hk hS => ?_)
          have hP := hP.old hk
          subst hv
          refine lv_if_eq (tgt := 91) hx hb dX6_admit_75 (by decide) (fun c_75_7 => ?_) (fun c_75_7 => ?_)
          · refine lv_iconst (v := 2) hx hb dX6_admit_91 (by decide) ?_
            refine lv_goto (tgt := 96) hx hb dX6_admit_92 (by decide) ?_
            refine pX6 F hS hP.main hP.omain 27 (by decide) wFL_X6_81 (fun _ h9 => h9) rfl rfl rfl (by simp) dX6_admit_96 (fun H1 locs1 he1 z1 oq1 hS => ?_)
            have hP : PM G A ad (thr τ 2) H1 := by have h := hP.p27 he1 oq1; exact thr_thr ▸ h
            refine lv_aload_n hx hb dX6_admit_99 rfl (lv_at hl 1 rfl) ?_
            refine gX6 F hP.main 27 (by decide) wFL_X6_81 (fun _ h9 => h9) (v := .int 2) (by simp [thr, up]) dX6_admit_100 ?_
            refine lv_if_le (tgt := 108) hx hb dX6_admit_103 (by decide) (fun c_103_8 => ?_) (fun c_103_8 => ?_)
            · exact absurd c_103_8 (by decide)
            · refine lv_iconst (v := 0) hx hb dX6_admit_106 (by decide) ?_
              exact kiret hx hb hr hlocks hS (by decide) (by decide) dX6_admit_107 (⟨_, _, rfl, hP, Or.inr (Or.inl (⟨k, hm9, rfl, Or.inl (b2i_0.mp c_75_7), rfl⟩))⟩)
          · refine lv_iload_n hx hb dX6_admit_78 rfl (lv_at hl 0 rfl) ?_
            refine lv_if_eq (tgt := 91) hx hb dX6_admit_79 (by decide) (fun c_79_9 => ?_) (fun c_79_9 => ?_)
            · refine lv_iconst (v := 2) hx hb dX6_admit_91 (by decide) ?_
              refine lv_goto (tgt := 96) hx hb dX6_admit_92 (by decide) ?_
              refine pX6 F hS hP.main hP.omain 27 (by decide) wFL_X6_81 (fun _ h9 => h9) rfl rfl rfl (by simp) dX6_admit_96 (fun H1 locs1 he1 z1 oq1 hS => ?_)
              have hP : PM G A ad (thr τ 2) H1 := by have h := hP.p27 he1 oq1; exact thr_thr ▸ h
              refine lv_aload_n hx hb dX6_admit_99 rfl (lv_at hl 1 rfl) ?_
              refine gX6 F hP.main 27 (by decide) wFL_X6_81 (fun _ h9 => h9) (v := .int 2) (by simp [thr, up]) dX6_admit_100 ?_
              refine lv_if_le (tgt := 108) hx hb dX6_admit_103 (by decide) (fun c_103_10 => ?_) (fun c_103_10 => ?_)
              · exact absurd c_103_10 (by decide)
              · refine lv_iconst (v := 0) hx hb dX6_admit_106 (by decide) ?_
                exact kiret hx hb hr hlocks hS (by decide) (by decide) dX6_admit_107 (⟨_, _, rfl, hP, Or.inr (Or.inl (⟨k, hm9, rfl, Or.inr (Or.inl hcan), rfl⟩))⟩)
            · exact absurd c_79_9 (by decide)
        · have hc2 : cntF (mHas (thr τ 0) (nI k) 2) 0 n ≠ 0 := nI_gt0 c_33_6
          refine lv_aload_n hx hb dX6_admit_36 rfl (lv_at hl 0 rfl) ?_
          refine lv_iload_n hx hb dX6_admit_37 rfl (lv_at hl 1 rfl) ?_
          refine lv_iconst (v := 3) hx hb dX6_admit_38 (by decide) ?_
          refine kcallV (n := 2) F (kM_has l G (fun q => H1.size ≤ q) A ad (thr τ 0) (nI k) 3 n (by simp [thr, up, hn]) hn8) wML_X6_114 wIM_X6_has wSE_X6_X6_has wIN_X6 wCO_X6_has (by decide) rfl ⟨by decide, by decide⟩ (frec F hP.main _ rfl) hS (fun q h => hA q (Nat.le_trans hS.1 h)) (fun q h => h) hP rfl hl.1 (Nat.le_of_ble_eq_true rfl) dX6_admit_39 ⟨by decide, by decide⟩ (fun E ce q9 H1 locs1 hx9 _ _ _ _ _ => hx9.elim) (fun v H1 locs1 hv hk hS => ?_)
          have hP := hP.old hk
          subst hv
          refine lv_iconst (v := 2) hx hb dX6_admit_42 (by decide) ?_
          refine lv_icmp_ge (tgt := 50) hx hb dX6_admit_43 (by decide) (fun c_43_11 => ?_) (fun c_43_11 => ?_)
          · have hcan : ¬ (cntF (mHas (thr τ 0) (nI k) 2) 0 n ≠ 0 ∧ cntF (mHas (thr τ 0) (nI k) 3) 0 n < 2) := fun z => by have := (nI_leI (a := 2) (by decide) (by have := cntF_le (mHas (thr τ 0) (nI k) 3) n 0; omega)).mp c_43_11; omega
            refine lv_iconst (v := 0) hx hb dX6_admit_50 (by decide) ?_
            refine lv_goto (tgt := 68) hx hb dX6_admit_51 (by decide) ?_
            refine lv_istore_n (lv' := [(3, .int 0), (0, .ref (ad 30)), (1, .int (nI k)), (2, .int 1)]) hx hb dX6_admit_68 rfl hl (by decide) rfl (fun ls hl => ?_)
            refine lv_aload_n hx hb dX6_admit_69 rfl (lv_at hl 1 rfl) ?_
            refine lv_aload_n hx hb dX6_admit_70 rfl (lv_at hl 1 rfl) ?_
            refine lv_iload_n hx hb dX6_admit_71 rfl (lv_at hl 2 rfl) ?_
            refine kcallV (n := 1) F (kM_isValid l G (fun q => H1.size ≤ q) A ad (thr τ 0) k (by omega)) wML_X6_118 wIM_X6_isValid wSE_X6_X6_isValid wIN_X6 wCO_X6_isValid (by decide) rfl ⟨by decide, by decide⟩ (frec F hP.main _ rfl) hS (fun q h => hA q (Nat.le_trans hS.1 h)) (fun q h => h) hP rfl hl.1 (Nat.le_of_ble_eq_true rfl) dX6_admit_72 ⟨by decide, by decide⟩ (fun E ce q9 H1 locs1 hx9 _ _ _ _ _ => hx9.elim) (fun v H1 locs1 hv hk hS => ?_)
            have hP := hP.old hk
            subst hv
            refine lv_if_eq (tgt := 91) hx hb dX6_admit_75 (by decide) (fun c_75_12 => ?_) (fun c_75_12 => ?_)
            · refine lv_iconst (v := 2) hx hb dX6_admit_91 (by decide) ?_
              refine lv_goto (tgt := 96) hx hb dX6_admit_92 (by decide) ?_
              refine pX6 F hS hP.main hP.omain 27 (by decide) wFL_X6_81 (fun _ h9 => h9) rfl rfl rfl (by simp) dX6_admit_96 (fun H1 locs1 he1 z1 oq1 hS => ?_)
              have hP : PM G A ad (thr τ 2) H1 := by have h := hP.p27 he1 oq1; exact thr_thr ▸ h
              refine lv_aload_n hx hb dX6_admit_99 rfl (lv_at hl 1 rfl) ?_
              refine gX6 F hP.main 27 (by decide) wFL_X6_81 (fun _ h9 => h9) (v := .int 2) (by simp [thr, up]) dX6_admit_100 ?_
              refine lv_if_le (tgt := 108) hx hb dX6_admit_103 (by decide) (fun c_103_13 => ?_) (fun c_103_13 => ?_)
              · exact absurd c_103_13 (by decide)
              · refine lv_iconst (v := 0) hx hb dX6_admit_106 (by decide) ?_
                exact kiret hx hb hr hlocks hS (by decide) (by decide) dX6_admit_107 (⟨_, _, rfl, hP, Or.inr (Or.inl (⟨k, hm9, rfl, Or.inl (b2i_0.mp c_75_12), rfl⟩))⟩)
            · refine lv_iload_n hx hb dX6_admit_78 rfl (lv_at hl 0 rfl) ?_
              refine lv_if_eq (tgt := 91) hx hb dX6_admit_79 (by decide) (fun c_79_14 => ?_) (fun c_79_14 => ?_)
              · refine lv_iconst (v := 2) hx hb dX6_admit_91 (by decide) ?_
                refine lv_goto (tgt := 96) hx hb dX6_admit_92 (by decide) ?_
                refine pX6 F hS hP.main hP.omain 27 (by decide) wFL_X6_81 (fun _ h9 => h9) rfl rfl rfl (by simp) dX6_admit_96 (fun H1 locs1 he1 z1 oq1 hS => ?_)
                have hP : PM G A ad (thr τ 2) H1 := by have h := hP.p27 he1 oq1; exact thr_thr ▸ h
                refine lv_aload_n hx hb dX6_admit_99 rfl (lv_at hl 1 rfl) ?_
                refine gX6 F hP.main 27 (by decide) wFL_X6_81 (fun _ h9 => h9) (v := .int 2) (by simp [thr, up]) dX6_admit_100 ?_
                refine lv_if_le (tgt := 108) hx hb dX6_admit_103 (by decide) (fun c_103_15 => ?_) (fun c_103_15 => ?_)
                · exact absurd c_103_15 (by decide)
                · refine lv_iconst (v := 0) hx hb dX6_admit_106 (by decide) ?_
                  exact kiret hx hb hr hlocks hS (by decide) (by decide) dX6_admit_107 (⟨_, _, rfl, hP, Or.inr (Or.inl (⟨k, hm9, rfl, Or.inr (Or.inl hcan), rfl⟩))⟩)
              · exact absurd c_79_14 (by decide)
          · have hcan : cntF (mHas (thr τ 0) (nI k) 2) 0 n ≠ 0 ∧ cntF (mHas (thr τ 0) (nI k) 3) 0 n < 2 := ⟨hc2, Nat.lt_of_not_le (fun z => c_43_11 ((nI_leI (a := 2) (by decide) (by have := cntF_le (mHas (thr τ 0) (nI k) 3) n 0; omega)).mpr z))⟩
            refine lv_iconst (v := 1) hx hb dX6_admit_46 (by decide) ?_
            refine lv_goto (tgt := 68) hx hb dX6_admit_47 (by decide) ?_
            refine lv_istore_n (lv' := [(3, .int 1), (0, .ref (ad 30)), (1, .int (nI k)), (2, .int 1)]) hx hb dX6_admit_68 rfl hl (by decide) rfl (fun ls hl => ?_)
            refine lv_aload_n hx hb dX6_admit_69 rfl (lv_at hl 1 rfl) ?_
            refine lv_aload_n hx hb dX6_admit_70 rfl (lv_at hl 1 rfl) ?_
            refine lv_iload_n hx hb dX6_admit_71 rfl (lv_at hl 2 rfl) ?_
            refine kcallV (n := 1) F (kM_isValid l G (fun q => H1.size ≤ q) A ad (thr τ 0) k (by omega)) wML_X6_118 wIM_X6_isValid wSE_X6_X6_isValid wIN_X6 wCO_X6_isValid (by decide) rfl ⟨by decide, by decide⟩ (frec F hP.main _ rfl) hS (fun q h => hA q (Nat.le_trans hS.1 h)) (fun q h => h) hP rfl hl.1 (Nat.le_of_ble_eq_true rfl) dX6_admit_72 ⟨by decide, by decide⟩ (fun E ce q9 H1 locs1 hx9 _ _ _ _ _ => hx9.elim) (fun v H1 locs1 hv hk hS => ?_)
            have hP := hP.old hk
            subst hv
            refine lv_if_eq (tgt := 91) hx hb dX6_admit_75 (by decide) (fun c_75_16 => ?_) (fun c_75_16 => ?_)
            · refine lv_iconst (v := 2) hx hb dX6_admit_91 (by decide) ?_
              refine lv_goto (tgt := 96) hx hb dX6_admit_92 (by decide) ?_
              refine pX6 F hS hP.main hP.omain 27 (by decide) wFL_X6_81 (fun _ h9 => h9) rfl rfl rfl (by simp) dX6_admit_96 (fun H1 locs1 he1 z1 oq1 hS => ?_)
              have hP : PM G A ad (thr τ 2) H1 := by have h := hP.p27 he1 oq1; exact thr_thr ▸ h
              refine lv_aload_n hx hb dX6_admit_99 rfl (lv_at hl 1 rfl) ?_
              refine gX6 F hP.main 27 (by decide) wFL_X6_81 (fun _ h9 => h9) (v := .int 2) (by simp [thr, up]) dX6_admit_100 ?_
              refine lv_if_le (tgt := 108) hx hb dX6_admit_103 (by decide) (fun c_103_17 => ?_) (fun c_103_17 => ?_)
              · exact absurd c_103_17 (by decide)
              · refine lv_iconst (v := 0) hx hb dX6_admit_106 (by decide) ?_
                exact kiret hx hb hr hlocks hS (by decide) (by decide) dX6_admit_107 (⟨_, _, rfl, hP, Or.inr (Or.inl (⟨k, hm9, rfl, Or.inl (b2i_0.mp c_75_16), rfl⟩))⟩)
            · refine lv_iload_n hx hb dX6_admit_78 rfl (lv_at hl 0 rfl) ?_
              refine lv_if_eq (tgt := 91) hx hb dX6_admit_79 (by decide) (fun c_79_18 => ?_) (fun c_79_18 => ?_)
              · exact absurd c_79_18 (by decide)
              · refine lv_aload_n hx hb dX6_admit_82 rfl (lv_at hl 1 rfl) ?_
                refine gX6 F hP.main 3 (by decide) wFL_X6_88 (fun _ h9 => h9) (v := .int (nI n)) (by simp [up, thr, hn]) dX6_admit_83 ?_
                refine lv_bipush (v := 80) hx hb dX6_admit_86 (by decide) ?_
                refine lv_icmp_ne (tgt := 95) hx hb dX6_admit_88 (by decide) (fun c_88_19 => ?_) (fun c_88_19 => ?_)
                · have h80 : n < 80 := Nat.lt_of_le_of_ne hn8 (fun z => c_88_19 (by rw [z]; rfl))
                  refine lv_iconst (v := 0) hx hb dX6_admit_95 (by decide) ?_
                  refine pX6 F hS hP.main hP.omain 27 (by decide) wFL_X6_81 (fun _ h9 => h9) rfl rfl rfl (by simp) dX6_admit_96 (fun H1 locs1 he1 z1 oq1 hS => ?_)
                  have hP : PM G A ad (thr τ 0) H1 := by have h := hP.p27 he1 oq1; exact thr_thr ▸ h
                  refine lv_aload_n hx hb dX6_admit_99 rfl (lv_at hl 1 rfl) ?_
                  refine gX6 F hP.main 27 (by decide) wFL_X6_81 (fun _ h9 => h9) (v := .int 0) (by simp [thr, up]) dX6_admit_100 ?_
                  refine lv_if_le (tgt := 108) hx hb dX6_admit_103 (by decide) (fun c_103_20 => ?_) (fun c_103_20 => ?_)
                  · refine lv_aload_n hx hb dX6_admit_108 rfl (lv_at hl 1 rfl) ?_
                    refine lv_iload_n hx hb dX6_admit_109 rfl (lv_at hl 3 rfl) ?_
                    refine lv_if_eq (tgt := 117) hx hb dX6_admit_110 (by decide) (fun c_110_21 => ?_) (fun c_110_21 => ?_)
                    · exact absurd c_110_21 (by decide)
                    · refine lv_iconst (v := 3) hx hb dX6_admit_113 (by decide) ?_
                      refine lv_goto (tgt := 118) hx hb dX6_admit_114 (by decide) ?_
                      refine lv_iconst (v := (-1)) hx hb dX6_admit_118 (by decide) ?_
                      refine lv_iload_n hx hb dX6_admit_119 rfl (lv_at hl 2 rfl) ?_
                      refine lv_iload_n hx hb dX6_admit_120 rfl (lv_at hl 3 rfl) ?_
                      refine lv_if_eq (tgt := 133) hx hb dX6_admit_121 (by decide) (fun c_121_22 => ?_) (fun c_121_22 => ?_)
                      · exact absurd c_121_22 (by decide)
                      · refine lv_aload_n hx hb dX6_admit_124 rfl (lv_at hl 1 rfl) ?_
                        refine gX6 F hP.main 1 (by decide) wFL_X6_77 (fun _ h9 => h9) (v := .int ((thr τ 0) 1 0)) rfl dX6_admit_125 ?_
                        refine lv_iconst (v := 2) hx hb dX6_admit_128 (by decide) ?_
                        refine lv_idiv hx hb dX6_admit_129 (by decide) ?_
                        refine lv_goto (tgt := 134) hx hb dX6_admit_130 (by decide) ?_
                        refine kcallV (n := 4) F (kM_make l G A ad (thr τ 0) n (by simp [thr, up, hn]) h80 3 (-1) (nI k) (((thr τ 0) 1 0) / 2)) wML_X6_104 wIM_X6_make wSE_X6_X6_make wIN_X6 wCO_X6_make (by decide) rfl ⟨by decide, by decide⟩ (frec F hP.main _ rfl) hS (fun _ h => h) (fun q h => hA q (Nat.le_trans hS.1 h)) hP rfl hl.1 (Nat.le_of_ble_eq_true rfl) dX6_admit_134 ⟨by decide, by decide⟩ (fun E ce q9 H1 locs1 hx9 _ _ _ _ _ => hx9.elim) (fun v H1 locs1 hv hk hS => ?_)
                        obtain ⟨rfl, hP⟩ := hv
                        exact kiret hx hb hr hlocks hS (by decide) (by decide) dX6_admit_137 (⟨_, _, rfl, hP, Or.inr (Or.inr (⟨k, hm9, rfl, b2i_1.mp c_75_16, hcan, h80, rfl, rfl⟩))⟩)
                  · exact absurd c_103_20 (by decide)
                · have h80 : n = 80 := nIe (by omega) (by decide) c_88_19
                  refine lv_iconst (v := 2) hx hb dX6_admit_91 (by decide) ?_
                  refine lv_goto (tgt := 96) hx hb dX6_admit_92 (by decide) ?_
                  refine pX6 F hS hP.main hP.omain 27 (by decide) wFL_X6_81 (fun _ h9 => h9) rfl rfl rfl (by simp) dX6_admit_96 (fun H1 locs1 he1 z1 oq1 hS => ?_)
                  have hP : PM G A ad (thr τ 2) H1 := by have h := hP.p27 he1 oq1; exact thr_thr ▸ h
                  refine lv_aload_n hx hb dX6_admit_99 rfl (lv_at hl 1 rfl) ?_
                  refine gX6 F hP.main 27 (by decide) wFL_X6_81 (fun _ h9 => h9) (v := .int 2) (by simp [thr, up]) dX6_admit_100 ?_
                  refine lv_if_le (tgt := 108) hx hb dX6_admit_103 (by decide) (fun c_103_23 => ?_) (fun c_103_23 => ?_)
                  · exact absurd c_103_23 (by decide)
                  · refine lv_iconst (v := 0) hx hb dX6_admit_106 (by decide) ?_
                    exact kiret hx hb hr hlocks hS (by decide) (by decide) dX6_admit_107 (⟨_, _, rfl, hP, Or.inr (Or.inl (⟨k, hm9, rfl, Or.inr (Or.inr h80), rfl⟩))⟩)

def cm_giveBack (τ : SG) (n : Nat) (vt : Int32) (v : Int32) (τ' : SG) : Prop := (¬ (∃ j, j < n ∧ vt = nI j) ∧ τ' = thr τ 1) ∨ (∃ t, t < n ∧ vt = nI t ∧ ¬ (mNow τ t = true ∧ τ 13 t = 0 ∧ τ 10 t = -1) ∧ τ' = thr τ 2) ∨ (∃ t, t < n ∧ vt = nI t ∧ (mNow τ t = true ∧ τ 13 t = 0 ∧ τ 10 t = -1) ∧ (∃ r, r < 12 ∧ (mFor τ t (nI (r / 3)) = true ∧ τ 15 r = 0)) ∧ τ' = thr τ 2) ∨ (∃ t, t < n ∧ vt = nI t ∧ (mNow τ t = true ∧ τ 13 t = 0 ∧ τ 10 t = -1) ∧ (∀ r, r < 12 → ¬ (mFor τ t (nI (r / 3)) = true ∧ τ 15 r = 0)) ∧ v = thr τ 0 8 t ∧ τ' = up (up (thr τ 0) 9 t 1) 25 0 (thr τ 0 25 0 - thr τ 0 8 t))
set_option maxHeartbeats 4000000 in
set_option maxRecDepth 100000 in
theorem kR_giveBack (l : Launch) (G : GE) (A : Nat → Prop) (ad : Nat → Nat) (τ : SG) (vt : Int32) (n : Nat) (hn : τ 3 0 = nI n) (hn8 : n ≤ 80) : KM l G A yX6_giveBack cX6_giveBack 3 (some .int) (rmL 3 0 0) [.ref (ad 30), .int vt] (PM G A ad τ) (fun v H => ∃ x τ', v = some (.int x) ∧ PM G A ad τ' H ∧ cm_giveBack τ n vt x τ') (fun _ _ => False) := by
  refine KM.of (by decide) (Nat.le_of_ble_eq_true rfl) ?_
  intro p e s m args below meth c F hP ls hl
  have hx := F.1.1
  have hb := F.1.2.1
  have hown := F.1.2.2.2.1
  have hts := F.1.2.2.2.2
  have hr := F.2.1
  have hlocks := F.2.2.1
  have hE := F.2.2.2.2.2.1
  have hA := F.2.2.2.2.2.2
  have hS : va_S A s.heap s.heap [] := va_S.rf
  have hl : lv_has ls 3 [(0, .ref (ad 30)), (1, .int vt)] := hl
  have hP := hP
  refine lv_aload_n hx hb dX6_giveBack_0 rfl (lv_at hl 0 rfl) ?_
  refine lv_aload_n hx hb dX6_giveBack_1 rfl (lv_at hl 0 rfl) ?_
  refine lv_iload_n hx hb dX6_giveBack_2 rfl (lv_at hl 1 rfl) ?_
  refine kcallV (n := 1) F (kM_isTicket l G (fun q => s.heap.size ≤ q) A ad τ vt) wML_X6_121 wIM_X6_isTicket wSE_X6_X6_isTicket wIN_X6 wCO_X6_isTicket (by decide) rfl ⟨by decide, by decide⟩ (frec F hP.main _ rfl) hS (fun q h => hA q (Nat.le_trans hS.1 h)) (fun q h => h) hP rfl hl.1 (Nat.le_of_ble_eq_true rfl) dX6_giveBack_3 ⟨by decide, by decide⟩ (fun E ce q9 H1 locs1 hx9 _ _ _ _ _ => hx9.elim) (fun v H1 locs1 hv hk hS => ?_)
  have hP := hP.old hk
  subst hv
  refine lv_if_ne (tgt := 13) hx hb dX6_giveBack_6 (by decide) (fun c_6_1 => ?_) (fun c_6_1 => ?_)
  · obtain ⟨t, ht, rfl⟩ := in_ex (n := n) (by rw [hn]; exact m1p) (by omega) (b2i_1.mp c_6_1)
    refine lv_aload_n hx hb dX6_giveBack_13 rfl (lv_at hl 0 rfl) ?_
    refine lv_iload_n hx hb dX6_giveBack_14 rfl (lv_at hl 1 rfl) ?_
    refine kcallV (n := 1) F (kM_isNow l G (fun q => H1.size ≤ q) A ad τ t (by omega)) wML_X6_108 wIM_X6_isNow wSE_X6_X6_isNow wIN_X6 wCO_X6_isNow (by decide) rfl ⟨by decide, by decide⟩ (frec F hP.main _ rfl) hS (fun q h => hA q (Nat.le_trans hS.1 h)) (fun q h => h) hP rfl hl.1 (Nat.le_of_ble_eq_true rfl) dX6_giveBack_15 ⟨by decide, by decide⟩ (fun E ce q9 H1 locs1 hx9 _ _ _ _ _ => hx9.elim) (fun v H1 locs1 hv hk hS => ?_)
    have hP := hP.old hk
    subst hv
    refine lv_if_eq (tgt := 40) hx hb dX6_giveBack_18 (by decide) (fun c_18_2 => ?_) (fun c_18_2 => ?_)
    · refine lv_iconst (v := 2) hx hb dX6_giveBack_40 (by decide) ?_
      refine lv_goto (tgt := 45) hx hb dX6_giveBack_41 (by decide) ?_
      refine pX6 F hS hP.main hP.omain 27 (by decide) wFL_X6_81 (fun _ h9 => h9) rfl rfl rfl (by simp) dX6_giveBack_45 (fun H1 locs1 he1 z1 oq1 hS => ?_)
      have hP : PM G A ad (thr τ 2) H1 := hP.p27 he1 oq1
      refine lv_iconst (v := 0) hx hb dX6_giveBack_48 (by decide) ?_
      refine lv_istore_n (lv' := [(2, .int 0), (0, .ref (ad 30)), (1, .int (nI t))]) hx hb dX6_giveBack_49 rfl hl (by decide) rfl (fun ls hl => ?_)
      refine lv_iload_n hx hb dX6_giveBack_50 rfl (lv_at hl 0 rfl) ?_
      refine lv_bipush (v := 12) hx hb dX6_giveBack_51 (by decide) ?_
      refine lv_icmp_ge (tgt := 98) hx hb dX6_giveBack_53 (by decide) (fun c_53_3 => ?_) (fun c_53_3 => ?_)
      · exact absurd c_53_3 (by decide)
      · refine lv_aload_n hx hb dX6_giveBack_56 rfl (lv_at hl 1 rfl) ?_
        refine gX6 F hP.main 27 (by decide) wFL_X6_81 (fun _ h9 => h9) (v := .int 2) (by simp [thr, up]) dX6_giveBack_57 ?_
        refine lv_if_ne (tgt := 98) hx hb dX6_giveBack_60 (by decide) (fun c_60_4 => ?_) (fun c_60_4 => ?_)
        · refine lv_aload_n hx hb dX6_giveBack_98 rfl (lv_at hl 1 rfl) ?_
          refine gX6 F hP.main 27 (by decide) wFL_X6_81 (fun _ h9 => h9) (v := .int 2) (by simp [thr, up]) dX6_giveBack_99 ?_
          refine lv_if_le (tgt := 107) hx hb dX6_giveBack_102 (by decide) (fun c_102_5 => ?_) (fun c_102_5 => ?_)
          · exact absurd c_102_5 (by decide)
          · refine lv_iconst (v := 0) hx hb dX6_giveBack_105 (by decide) ?_
            exact kiret hx hb hr hlocks hS (by decide) (by decide) dX6_giveBack_106 (⟨_, _, rfl, hP, Or.inr (Or.inl (⟨t, ht, rfl, fun z => by rw [b2i_0.mp c_18_2] at z; exact absurd z.1 (by decide), rfl⟩))⟩)
        · exact absurd c_60_4 (by decide)
    · refine lv_aload_n hx hb dX6_giveBack_21 rfl (lv_at hl 0 rfl) ?_
      refine gX6 F hP.main 13 (by decide) wFL_X6_41 (fun _ h9 => h9) (v := .ref (ad 13)) rfl dX6_giveBack_22 ?_
      refine lv_iload_n hx hb dX6_giveBack_25 rfl (lv_at hl 1 rfl) ?_
      refine xiald hx hb hE.1.1 (hP.arr 13 (by decide) (by decide)) 0 rfl (k := t) rfl (show _ < 80 by omega) (by decide) dX6_giveBack_26 ?_
      refine lv_if_ne (tgt := 40) hx hb dX6_giveBack_27 (by decide) (fun c_27_6 => ?_) (fun c_27_6 => ?_)
      · refine lv_iconst (v := 2) hx hb dX6_giveBack_40 (by decide) ?_
        refine lv_goto (tgt := 45) hx hb dX6_giveBack_41 (by decide) ?_
        refine pX6 F hS hP.main hP.omain 27 (by decide) wFL_X6_81 (fun _ h9 => h9) rfl rfl rfl (by simp) dX6_giveBack_45 (fun H1 locs1 he1 z1 oq1 hS => ?_)
        have hP : PM G A ad (thr τ 2) H1 := hP.p27 he1 oq1
        refine lv_iconst (v := 0) hx hb dX6_giveBack_48 (by decide) ?_
        refine lv_istore_n (lv' := [(2, .int 0), (0, .ref (ad 30)), (1, .int (nI t))]) hx hb dX6_giveBack_49 rfl hl (by decide) rfl (fun ls hl => ?_)
        refine lv_iload_n hx hb dX6_giveBack_50 rfl (lv_at hl 0 rfl) ?_
        refine lv_bipush (v := 12) hx hb dX6_giveBack_51 (by decide) ?_
        refine lv_icmp_ge (tgt := 98) hx hb dX6_giveBack_53 (by decide) (fun c_53_7 => ?_) (fun c_53_7 => ?_)
        · exact absurd c_53_7 (by decide)
        · refine lv_aload_n hx hb dX6_giveBack_56 rfl (lv_at hl 1 rfl) ?_
          refine gX6 F hP.main 27 (by decide) wFL_X6_81 (fun _ h9 => h9) (v := .int 2) (by simp [thr, up]) dX6_giveBack_57 ?_
          refine lv_if_ne (tgt := 98) hx hb dX6_giveBack_60 (by decide) (fun c_60_8 => ?_) (fun c_60_8 => ?_)
          · refine lv_aload_n hx hb dX6_giveBack_98 rfl (lv_at hl 1 rfl) ?_
            refine gX6 F hP.main 27 (by decide) wFL_X6_81 (fun _ h9 => h9) (v := .int 2) (by simp [thr, up]) dX6_giveBack_99 ?_
            refine lv_if_le (tgt := 107) hx hb dX6_giveBack_102 (by decide) (fun c_102_9 => ?_) (fun c_102_9 => ?_)
            · exact absurd c_102_9 (by decide)
            · refine lv_iconst (v := 0) hx hb dX6_giveBack_105 (by decide) ?_
              exact kiret hx hb hr hlocks hS (by decide) (by decide) dX6_giveBack_106 (⟨_, _, rfl, hP, Or.inr (Or.inl (⟨t, ht, rfl, fun z => c_27_6 z.2.1, rfl⟩))⟩)
          · exact absurd c_60_8 (by decide)
      · refine lv_aload_n hx hb dX6_giveBack_30 rfl (lv_at hl 0 rfl) ?_
        refine gX6 F hP.main 10 (by decide) wFL_X6_35 (fun _ h9 => h9) (v := .ref (ad 10)) rfl dX6_giveBack_31 ?_
        refine lv_iload_n hx hb dX6_giveBack_34 rfl (lv_at hl 1 rfl) ?_
        refine xiald hx hb hE.1.1 (hP.arr 10 (by decide) (by decide)) 0 rfl (k := t) rfl (show _ < 80 by omega) (by decide) dX6_giveBack_35 ?_
        refine lv_iconst (v := (-1)) hx hb dX6_giveBack_36 (by decide) ?_
        refine lv_icmp_eq (tgt := 44) hx hb dX6_giveBack_37 (by decide) (fun c_37_10 => ?_) (fun c_37_10 => ?_)
        · refine lv_iconst (v := 0) hx hb dX6_giveBack_44 (by decide) ?_
          refine pX6 F hS hP.main hP.omain 27 (by decide) wFL_X6_81 (fun _ h9 => h9) rfl rfl rfl (by simp) dX6_giveBack_45 (fun H1 locs1 he1 z1 oq1 hS => ?_)
          have hP : PM G A ad (thr τ 0) H1 := hP.p27 he1 oq1
          refine lv_iconst (v := 0) hx hb dX6_giveBack_48 (by decide) ?_
          refine lv_istore_n (lv' := [(2, .int 0), (0, .ref (ad 30)), (1, .int (nI t))]) hx hb dX6_giveBack_49 rfl hl (by decide) rfl (fun ls hl => ?_)
          have L50 : ∀ (n9 : Nat) (k9 : Int32) (i : Nat) (h1 : i ≤ 12) (h2 : 12 < i + n9) (h3 : (k9 = 0 ∧ ∀ r, r < i → ¬ (mFor τ t (nI (r / 3)) = true ∧ τ 15 r = 0)) ∨ (k9 = 2 ∧ ∃ r, r < 12 ∧ (mFor τ t (nI (r / 3)) = true ∧ τ 15 r = 0))) (H : Heap) (locs : List Loc) (ls : Array Slot), va_S A s.heap H locs → PM G A ad (thr τ k9) H → lv_has ls 3 [(2, .int (nI i)), (0, .ref (ad 30)), (1, .int (nI t))] → W p l e (rmL 3 0 0) s m args below meth c H locs 0 0 (KE below A (fun v H => ∃ x τ', v = some (.int x) ∧ PM G A ad τ' H ∧ cm_giveBack τ n (nI t) x τ') (fun _ _ => False) args s (rmL 3 0 0)) (F0 m 50 ls []) := by
            intro n9
            induction n9 with
            | zero =>
              intro k9 i h1 h2 h3 H locs ls hS hP hl
              exact absurd True.intro (by omega)
            | succ n9 ih50 =>
              intro k9 i h1 h2 h3 H locs ls hS hP hl
              refine lv_iload_n hx hb dX6_giveBack_50 rfl (lv_at hl 0 rfl) ?_
              refine lv_bipush (v := 12) hx hb dX6_giveBack_51 (by decide) ?_
              refine lv_icmp_ge (tgt := 98) hx hb dX6_giveBack_53 (by decide) (fun c_53_11 => ?_) (fun c_53_11 => ?_)
              · have ei := nI_eqle (n := 12) h1 (by decide) c_53_11
                refine lv_aload_n hx hb dX6_giveBack_98 rfl (lv_at hl 1 rfl) ?_
                refine gX6 F hP.main 27 (by decide) wFL_X6_81 (fun _ h9 => h9) (v := .int k9) (by simp [thr, up]) dX6_giveBack_99 ?_
                refine lv_if_le (tgt := 107) hx hb dX6_giveBack_102 (by decide) (fun c_102_12 => ?_) (fun c_102_12 => ?_)
                · have h30 := h3.resolve_right (fun z => by rw [z.1] at c_102_12; exact absurd c_102_12 (by decide))
                  obtain rfl : k9 = 0 := h30.1
                  have h3n := h30.2
                  rw [ei] at h3n
                  refine lv_aload_n hx hb dX6_giveBack_107 rfl (lv_at hl 1 rfl) ?_
                  refine gX6 F hP.main 9 (by decide) wFL_X6_31 (fun _ h9 => h9) (v := .ref (ad 9)) rfl dX6_giveBack_108 ?_
                  refine lv_iload_n hx hb dX6_giveBack_111 rfl (lv_at hl 2 rfl) ?_
                  refine lv_iconst (v := 1) hx hb dX6_giveBack_112 (by decide) ?_
                  refine xzast hx hb hE.1.1 hS (hP.arr 9 (by decide) (by decide)) (hP.oarr 9 (by decide)) 1 rfl (k := t) rfl (show _ < 80 by omega) (by decide) (Or.inr rfl) dX6_giveBack_113 (fun H1 locs1 he1 z1 oq1 hS => ?_)
                  have hP := hP.parr 9 t (by decide) (by decide) he1 oq1
                  refine lv_aload_n hx hb dX6_giveBack_114 rfl (lv_at hl 1 rfl) ?_
                  refine lv_dup hx hb dX6_giveBack_115 rfl ?_
                  refine gX6 F hP.main 25 (by decide) wFL_X6_101 (fun _ h9 => h9) (v := .int ((thr τ 0) 25 0)) (by simp [up]) dX6_giveBack_116 ?_
                  refine lv_aload_n hx hb dX6_giveBack_119 rfl (lv_at hl 1 rfl) ?_
                  refine gX6 F hP.main 8 (by decide) wFL_X6_28 (fun _ h9 => h9) (v := .ref (ad 8)) rfl dX6_giveBack_120 ?_
                  refine lv_iload_n hx hb dX6_giveBack_123 rfl (lv_at hl 2 rfl) ?_
                  refine xiald hx hb hE.1.1 (hP.arr 8 (by decide) (by decide)) 0 rfl (k := t) rfl (show _ < 80 by omega) (by decide) dX6_giveBack_124 ?_
                  rw [show (up (thr τ 0) 9 t 1) 8 t = (thr τ 0) 8 t from by simp [up]]
                  refine lv_isub hx hb dX6_giveBack_125 ?_
                  refine pX6 F hS hP.main hP.omain 25 (by decide) wFL_X6_101 (fun _ h9 => h9) rfl rfl rfl (by simp) dX6_giveBack_126 (fun H1 locs1 he1 z1 oq1 hS => ?_)
                  have hP := hP.p25 he1 oq1
                  refine lv_aload_n hx hb dX6_giveBack_129 rfl (lv_at hl 1 rfl) ?_
                  refine gX6 F hP.main 8 (by decide) wFL_X6_28 (fun _ h9 => h9) (v := .ref (ad 8)) rfl dX6_giveBack_130 ?_
                  refine lv_iload_n hx hb dX6_giveBack_133 rfl (lv_at hl 2 rfl) ?_
                  refine xiald hx hb hE.1.1 (hP.arr 8 (by decide) (by decide)) 0 rfl (k := t) rfl (show _ < 80 by omega) (by decide) dX6_giveBack_134 ?_
                  rw [show (up (up (thr τ 0) 9 t 1) 25 0 (((thr τ 0) 25 0) - ((thr τ 0) 8 t))) 8 t = (thr τ 0) 8 t from by simp [up]]
                  exact kiret hx hb hr hlocks hS (by decide) (by decide) dX6_giveBack_135 (⟨_, _, rfl, hP, Or.inr (Or.inr (Or.inr (⟨t, ht, rfl, ⟨b2i_1.mp c_18_2, c_27_6, c_37_10⟩, h3n, rfl, rfl⟩)))⟩)
                · have h31 := h3.resolve_left (fun z => by rw [z.1] at c_102_12; exact absurd (by decide) c_102_12)
                  obtain rfl : k9 = 2 := h31.1
                  have h3x := h31.2
                  refine lv_iconst (v := 0) hx hb dX6_giveBack_105 (by decide) ?_
                  exact kiret hx hb hr hlocks hS (by decide) (by decide) dX6_giveBack_106 (⟨_, _, rfl, hP, Or.inr (Or.inr (Or.inl (⟨t, ht, rfl, ⟨b2i_1.mp c_18_2, c_27_6, c_37_10⟩, h3x, rfl⟩)))⟩)
              · have hi := nI_lt' (n := 12) h1 (by decide) c_53_11
                refine lv_aload_n hx hb dX6_giveBack_56 rfl (lv_at hl 1 rfl) ?_
                refine gX6 F hP.main 27 (by decide) wFL_X6_81 (fun _ h9 => h9) (v := .int k9) (by simp [thr, up]) dX6_giveBack_57 ?_
                refine lv_if_ne (tgt := 98) hx hb dX6_giveBack_60 (by decide) (fun c_60_13 => ?_) (fun c_60_13 => ?_)
                · have h3x := (h3.resolve_left (fun z => c_60_13 z.1)).2
                  obtain rfl : k9 = 2 := (h3.resolve_left (fun z => c_60_13 z.1)).1
                  refine lv_aload_n hx hb dX6_giveBack_98 rfl (lv_at hl 1 rfl) ?_
                  refine gX6 F hP.main 27 (by decide) wFL_X6_81 (fun _ h9 => h9) (v := .int (2)) (by simp [thr, up]) dX6_giveBack_99 ?_
                  refine lv_if_le (tgt := 107) hx hb dX6_giveBack_102 (by decide) (fun c_102_14 => ?_) (fun c_102_14 => ?_)
                  · exact absurd c_102_14 (by decide)
                  · refine lv_iconst (v := 0) hx hb dX6_giveBack_105 (by decide) ?_
                    exact kiret hx hb hr hlocks hS (by decide) (by decide) dX6_giveBack_106 (⟨_, _, rfl, hP, Or.inr (Or.inr (Or.inl (⟨t, ht, rfl, ⟨b2i_1.mp c_18_2, c_27_6, c_37_10⟩, h3x, rfl⟩)))⟩)
                · have h3a := (h3.resolve_right (fun z => absurd (z.1.symm.trans c_60_13) (by decide))).2
                  obtain rfl : k9 = 0 := c_60_13
                  refine lv_aload_n hx hb dX6_giveBack_63 rfl (lv_at hl 1 rfl) ?_
                  refine lv_aload_n hx hb dX6_giveBack_64 rfl (lv_at hl 1 rfl) ?_
                  refine lv_iload_n hx hb dX6_giveBack_65 rfl (lv_at hl 2 rfl) ?_
                  refine lv_iload_n hx hb dX6_giveBack_66 rfl (lv_at hl 0 rfl) ?_
                  refine lv_iconst (v := 3) hx hb dX6_giveBack_67 (by decide) ?_
                  refine lv_idiv hx hb dX6_giveBack_68 (by decide) ?_
                  refine W.eq (g2 := F0 m 69 ls [.int (nI (i / 3)), .int (nI t), .ref (ad 30), .ref (ad 30)]) (congrArg (fun z => F0 m 69 ls [.int z, .int (nI t), .ref (ad 30), .ref (ad 30)]) (r3 i hi)) ?_
                  refine kcallV (n := 2) F (kM_isFor l G (fun q => H.size ≤ q) A ad (thr τ 0) t (by omega) (nI (i / 3))) wML_X6_124 wIM_X6_isFor wSE_X6_X6_isFor wIN_X6 wCO_X6_isFor (by decide) rfl ⟨by decide, by decide⟩ (frec F hP.main _ rfl) hS (fun q h => hA q (Nat.le_trans hS.1 h)) (fun q h => h) hP rfl hl.1 (Nat.le_of_ble_eq_true rfl) dX6_giveBack_69 ⟨by decide, by decide⟩ (fun E ce q9 H1 locs1 hx9 _ _ _ _ _ => hx9.elim) (fun v H1 locs1 hv hk hS => ?_)
                  have hP := hP.old hk
                  subst hv
                  refine lv_if_eq (tgt := 88) hx hb dX6_giveBack_72 (by decide) (fun c_72_15 => ?_) (fun c_72_15 => ?_)
                  · refine lv_iconst (v := 0) hx hb dX6_giveBack_88 (by decide) ?_
                    refine pX6 F hS hP.main hP.omain 27 (by decide) wFL_X6_81 (fun _ h9 => h9) rfl rfl rfl (by simp) dX6_giveBack_89 (fun H1 locs1 he1 z1 oq1 hS => ?_)
                    have hP : PM G A ad (thr τ 0) H1 := by have h := hP.p27 he1 oq1; exact thr_thr ▸ h
                    refine lv_iinc (v := (nI (i + 1))) (lv' := [(2, .int (nI (i + 1))), (0, .ref (ad 30)), (1, .int (nI t))]) hx hb dX6_giveBack_92 hl (k := 0) rfl (nI_1 _) (by decide) rfl (fun ls hl => ?_)
                    refine lv_goto (tgt := 50) hx hb dX6_giveBack_95 (by decide) ?_
                    exact ih50 0 (i + 1) (by omega) (by omega) (Or.inl ⟨rfl, fun r hr => (Nat.lt_succ_iff_lt_or_eq.mp hr).elim (h3a r) (fun q => by subst q; exact (fun z => by have z1 := z.1; have z2 := b2i_0.mp c_72_15; simp only [mFor, thr_o (show (4 : Nat) ≠ 27 by decide), thr_o (show (5 : Nat) ≠ 27 by decide)] at z1 z2; rw [z1] at z2; cases z2))⟩) _ _ _ hS hP (lv_sub hl [0, 1, 2] rfl)
                  · refine lv_aload_n hx hb dX6_giveBack_75 rfl (lv_at hl 1 rfl) ?_
                    refine gX6 F hP.main 15 (by decide) wFL_X6_47 (fun _ h9 => h9) (v := .ref (ad 15)) rfl dX6_giveBack_76 ?_
                    refine lv_iload_n hx hb dX6_giveBack_79 rfl (lv_at hl 0 rfl) ?_
                    refine xzald hx hb hE.1.1 (hP.arr 15 (by decide) (by decide)) 1 rfl (k := i) rfl (show _ < 12 by omega) (by decide) dX6_giveBack_80 ?_
                    refine lv_if_ne (tgt := 88) hx hb dX6_giveBack_81 (by decide) (fun c_81_16 => ?_) (fun c_81_16 => ?_)
                    · refine lv_iconst (v := 0) hx hb dX6_giveBack_88 (by decide) ?_
                      refine pX6 F hS hP.main hP.omain 27 (by decide) wFL_X6_81 (fun _ h9 => h9) rfl rfl rfl (by simp) dX6_giveBack_89 (fun H1 locs1 he1 z1 oq1 hS => ?_)
                      have hP : PM G A ad (thr τ 0) H1 := by have h := hP.p27 he1 oq1; exact thr_thr ▸ h
                      refine lv_iinc (v := (nI (i + 1))) (lv' := [(2, .int (nI (i + 1))), (0, .ref (ad 30)), (1, .int (nI t))]) hx hb dX6_giveBack_92 hl (k := 0) rfl (nI_1 _) (by decide) rfl (fun ls hl => ?_)
                      refine lv_goto (tgt := 50) hx hb dX6_giveBack_95 (by decide) ?_
                      exact ih50 0 (i + 1) (by omega) (by omega) (Or.inl ⟨rfl, fun r hr => (Nat.lt_succ_iff_lt_or_eq.mp hr).elim (h3a r) (fun q => by subst q; exact (fun z => c_81_16 (by rw [thr_o (by decide)]; exact z.2)))⟩) _ _ _ hS hP (lv_sub hl [0, 1, 2] rfl)
                    · refine lv_iconst (v := 2) hx hb dX6_giveBack_84 (by decide) ?_
                      refine lv_goto (tgt := 89) hx hb dX6_giveBack_85 (by decide) ?_
                      refine pX6 F hS hP.main hP.omain 27 (by decide) wFL_X6_81 (fun _ h9 => h9) rfl rfl rfl (by simp) dX6_giveBack_89 (fun H1 locs1 he1 z1 oq1 hS => ?_)
                      have hP : PM G A ad (thr τ 2) H1 := by have h := hP.p27 he1 oq1; exact thr_thr ▸ h
                      refine lv_iinc (v := (nI (i + 1))) (lv' := [(2, .int (nI (i + 1))), (0, .ref (ad 30)), (1, .int (nI t))]) hx hb dX6_giveBack_92 hl (k := 0) rfl (nI_1 _) (by decide) rfl (fun ls hl => ?_)
                      refine lv_goto (tgt := 50) hx hb dX6_giveBack_95 (by decide) ?_
                      exact ih50 2 (i + 1) (by omega) (by omega) (Or.inr ⟨rfl, ⟨i, hi, by have z2 := b2i_1.mp c_72_15; simp only [mFor, thr_o (show (4 : Nat) ≠ 27 by decide), thr_o (show (5 : Nat) ≠ 27 by decide)] at z2 ⊢; exact z2, by have z3 := c_81_16; rw [thr_o (by decide)] at z3; exact z3⟩⟩) _ _ _ hS hP (lv_sub hl [0, 1, 2] rfl)
          exact L50 13 0 0 (by omega) (by omega) (Or.inl ⟨rfl, fun r hr => absurd hr (Nat.not_lt_zero r)⟩) _ _ _ hS hP (lv_sub hl [0, 1, 2] rfl)
        · refine lv_iconst (v := 2) hx hb dX6_giveBack_40 (by decide) ?_
          refine lv_goto (tgt := 45) hx hb dX6_giveBack_41 (by decide) ?_
          refine pX6 F hS hP.main hP.omain 27 (by decide) wFL_X6_81 (fun _ h9 => h9) rfl rfl rfl (by simp) dX6_giveBack_45 (fun H1 locs1 he1 z1 oq1 hS => ?_)
          have hP : PM G A ad (thr τ 2) H1 := hP.p27 he1 oq1
          refine lv_iconst (v := 0) hx hb dX6_giveBack_48 (by decide) ?_
          refine lv_istore_n (lv' := [(2, .int 0), (0, .ref (ad 30)), (1, .int (nI t))]) hx hb dX6_giveBack_49 rfl hl (by decide) rfl (fun ls hl => ?_)
          refine lv_iload_n hx hb dX6_giveBack_50 rfl (lv_at hl 0 rfl) ?_
          refine lv_bipush (v := 12) hx hb dX6_giveBack_51 (by decide) ?_
          refine lv_icmp_ge (tgt := 98) hx hb dX6_giveBack_53 (by decide) (fun c_53_17 => ?_) (fun c_53_17 => ?_)
          · exact absurd c_53_17 (by decide)
          · refine lv_aload_n hx hb dX6_giveBack_56 rfl (lv_at hl 1 rfl) ?_
            refine gX6 F hP.main 27 (by decide) wFL_X6_81 (fun _ h9 => h9) (v := .int 2) (by simp [thr, up]) dX6_giveBack_57 ?_
            refine lv_if_ne (tgt := 98) hx hb dX6_giveBack_60 (by decide) (fun c_60_18 => ?_) (fun c_60_18 => ?_)
            · refine lv_aload_n hx hb dX6_giveBack_98 rfl (lv_at hl 1 rfl) ?_
              refine gX6 F hP.main 27 (by decide) wFL_X6_81 (fun _ h9 => h9) (v := .int 2) (by simp [thr, up]) dX6_giveBack_99 ?_
              refine lv_if_le (tgt := 107) hx hb dX6_giveBack_102 (by decide) (fun c_102_19 => ?_) (fun c_102_19 => ?_)
              · exact absurd c_102_19 (by decide)
              · refine lv_iconst (v := 0) hx hb dX6_giveBack_105 (by decide) ?_
                exact kiret hx hb hr hlocks hS (by decide) (by decide) dX6_giveBack_106 (⟨_, _, rfl, hP, Or.inr (Or.inl (⟨t, ht, rfl, fun z => c_37_10 z.2.2, rfl⟩))⟩)
            · exact absurd c_60_18 (by decide)
  · have no_vt := in_no (n := n) (by rw [hn]; exact m1p) (by omega) (b2i_0.mp c_6_1)
    refine lv_iconst (v := 1) hx hb dX6_giveBack_9 (by decide) ?_
    refine lv_goto (tgt := 45) hx hb dX6_giveBack_10 (by decide) ?_
    refine pX6 F hS hP.main hP.omain 27 (by decide) wFL_X6_81 (fun _ h9 => h9) rfl rfl rfl (by simp) dX6_giveBack_45 (fun H1 locs1 he1 z1 oq1 hS => ?_)
    have hP : PM G A ad (thr τ 1) H1 := hP.p27 he1 oq1
    refine lv_iconst (v := 0) hx hb dX6_giveBack_48 (by decide) ?_
    refine lv_istore_n (lv' := [(2, .int 0), (0, .ref (ad 30)), (1, .int vt)]) hx hb dX6_giveBack_49 rfl hl (by decide) rfl (fun ls hl => ?_)
    refine lv_iload_n hx hb dX6_giveBack_50 rfl (lv_at hl 0 rfl) ?_
    refine lv_bipush (v := 12) hx hb dX6_giveBack_51 (by decide) ?_
    refine lv_icmp_ge (tgt := 98) hx hb dX6_giveBack_53 (by decide) (fun c_53_20 => ?_) (fun c_53_20 => ?_)
    · exact absurd c_53_20 (by decide)
    · refine lv_aload_n hx hb dX6_giveBack_56 rfl (lv_at hl 1 rfl) ?_
      refine gX6 F hP.main 27 (by decide) wFL_X6_81 (fun _ h9 => h9) (v := .int 1) (by simp [thr, up]) dX6_giveBack_57 ?_
      refine lv_if_ne (tgt := 98) hx hb dX6_giveBack_60 (by decide) (fun c_60_21 => ?_) (fun c_60_21 => ?_)
      · refine lv_aload_n hx hb dX6_giveBack_98 rfl (lv_at hl 1 rfl) ?_
        refine gX6 F hP.main 27 (by decide) wFL_X6_81 (fun _ h9 => h9) (v := .int 1) (by simp [thr, up]) dX6_giveBack_99 ?_
        refine lv_if_le (tgt := 107) hx hb dX6_giveBack_102 (by decide) (fun c_102_22 => ?_) (fun c_102_22 => ?_)
        · exact absurd c_102_22 (by decide)
        · refine lv_iconst (v := 0) hx hb dX6_giveBack_105 (by decide) ?_
          exact kiret hx hb hr hlocks hS (by decide) (by decide) dX6_giveBack_106 (⟨_, _, rfl, hP, Or.inl (⟨no_vt, rfl⟩)⟩)
      · exact absurd c_60_21 (by decide)

def cm_join (τ : SG) (vm : Int32) (v : Int32) (τ' : SG) : Prop := (¬ (∃ j, j < 6 ∧ vm = nI j) ∧ τ' = thr τ 1) ∨ (∃ k, k < 6 ∧ vm = nI k ∧ fBel (τ 2 k) (τ 26 0) = true ∧ τ' = thr τ 2) ∨ (∃ k, k < 6 ∧ vm = nI k ∧ fBel (τ 2 k) (τ 26 0) = false ∧ v = (thr τ 0 26 0 + 30) - 1 ∧ τ' = up (up (thr τ 0) 2 k ((thr τ 0 26 0 + 30) - 1)) 25 0 (thr τ 0 25 0 + 6000))
set_option maxHeartbeats 4000000 in
set_option maxRecDepth 100000 in
theorem kR_join (l : Launch) (G : GE) (A : Nat → Prop) (ad : Nat → Nat) (τ : SG) (vm : Int32)  : KM l G A yX6_join cX6_join 2 (some .int) (rmL 3 0 0) [.ref (ad 30), .int vm] (PM G A ad τ) (fun v H => ∃ x τ', v = some (.int x) ∧ PM G A ad τ' H ∧ cm_join τ vm x τ') (fun _ _ => False) := by
  refine KM.of (by decide) (Nat.le_of_ble_eq_true rfl) ?_
  intro p e s m args below meth c F hP ls hl
  have hx := F.1.1
  have hb := F.1.2.1
  have hown := F.1.2.2.2.1
  have hts := F.1.2.2.2.2
  have hr := F.2.1
  have hlocks := F.2.2.1
  have hE := F.2.2.2.2.2.1
  have hA := F.2.2.2.2.2.2
  have hS : va_S A s.heap s.heap [] := va_S.rf
  have hl : lv_has ls 2 [(0, .ref (ad 30)), (1, .int vm)] := hl
  have hP := hP
  refine lv_aload_n hx hb dX6_join_0 rfl (lv_at hl 0 rfl) ?_
  refine lv_iload_n hx hb dX6_join_1 rfl (lv_at hl 1 rfl) ?_
  refine kcallS (n := 1) F (kM_isMember l G (fun q => s.heap.size ≤ q) vm) wML_X6_111 wST_X6_isMember wIN_X6 wCO_X6_isMember (by decide) rfl ⟨by decide, by decide⟩ hS (fun q h => hA q (Nat.le_trans hS.1 h)) (fun q h => h) trivial rfl hl.1 (Nat.le_of_ble_eq_true rfl) dX6_join_2 ⟨by decide, by decide⟩ (fun E ce q9 H1 locs1 hx9 _ _ _ _ _ => hx9.elim) (fun v H1 locs1 hv hk hS => ?_)
  have hP := hP.old hk
  subst hv
  refine lv_if_ne (tgt := 12) hx hb dX6_join_5 (by decide) (fun c_5_1 => ?_) (fun c_5_1 => ?_)
  · obtain ⟨k, hm9, rfl⟩ := in_ex (n := 6) rfl (by decide) (b2i_1.mp c_5_1)
    refine lv_aload_n hx hb dX6_join_12 rfl (lv_at hl 0 rfl) ?_
    refine lv_iload_n hx hb dX6_join_13 rfl (lv_at hl 1 rfl) ?_
    refine kcallV (n := 1) F (kM_isValid l G (fun q => H1.size ≤ q) A ad τ k (by omega)) wML_X6_118 wIM_X6_isValid wSE_X6_X6_isValid wIN_X6 wCO_X6_isValid (by decide) rfl ⟨by decide, by decide⟩ (frec F hP.main _ rfl) hS (fun q h => hA q (Nat.le_trans hS.1 h)) (fun q h => h) hP rfl hl.1 (Nat.le_of_ble_eq_true rfl) dX6_join_14 ⟨by decide, by decide⟩ (fun E ce q9 H1 locs1 hx9 _ _ _ _ _ => hx9.elim) (fun v H1 locs1 hv hk hS => ?_)
    have hP := hP.old hk
    subst hv
    refine lv_if_eq (tgt := 24) hx hb dX6_join_17 (by decide) (fun c_17_2 => ?_) (fun c_17_2 => ?_)
    · refine lv_iconst (v := 0) hx hb dX6_join_24 (by decide) ?_
      refine pX6 F hS hP.main hP.omain 27 (by decide) wFL_X6_81 (fun _ h9 => h9) rfl rfl rfl (by simp) dX6_join_25 (fun H1 locs1 he1 z1 oq1 hS => ?_)
      have hP : PM G A ad (thr τ 0) H1 := hP.p27 he1 oq1
      refine lv_aload_n hx hb dX6_join_28 rfl (lv_at hl 0 rfl) ?_
      refine gX6 F hP.main 27 (by decide) wFL_X6_81 (fun _ h9 => h9) (v := .int 0) (by simp [thr, up]) dX6_join_29 ?_
      refine lv_if_le (tgt := 37) hx hb dX6_join_32 (by decide) (fun c_32_3 => ?_) (fun c_32_3 => ?_)
      · refine lv_aload_n hx hb dX6_join_37 rfl (lv_at hl 0 rfl) ?_
        refine gX6 F hP.main 2 (by decide) wFL_X6_13 (fun _ h9 => h9) (v := .ref (ad 2)) rfl dX6_join_38 ?_
        refine lv_iload_n hx hb dX6_join_41 rfl (lv_at hl 1 rfl) ?_
        refine lv_aload_n hx hb dX6_join_42 rfl (lv_at hl 0 rfl) ?_
        refine gX6 F hP.main 26 (by decide) wFL_X6_94 (fun _ h9 => h9) (v := .int ((thr τ 0) 26 0)) rfl dX6_join_43 ?_
        refine lv_bipush (v := 30) hx hb dX6_join_46 (by decide) ?_
        refine lv_iadd hx hb dX6_join_48 ?_
        refine lv_iconst (v := 1) hx hb dX6_join_49 (by decide) ?_
        refine lv_isub hx hb dX6_join_50 ?_
        refine xiast hx hb hE.1.1 hS (hP.arr 2 (by decide) (by decide)) (hP.oarr 2 (by decide)) 0 rfl (k := k) rfl (show _ < 6 by omega) (by decide) dX6_join_51 (fun H1 locs1 he1 z1 oq1 hS => ?_)
        have hP := hP.parr 2 k (by decide) (by decide) he1 oq1
        refine lv_aload_n hx hb dX6_join_52 rfl (lv_at hl 0 rfl) ?_
        refine lv_dup hx hb dX6_join_53 rfl ?_
        refine gX6 F hP.main 25 (by decide) wFL_X6_101 (fun _ h9 => h9) (v := .int ((thr τ 0) 25 0)) (by simp [up]) dX6_join_54 ?_
        refine lv_sipush (v := 6000) hx hb dX6_join_57 (by decide) ?_
        refine lv_iadd hx hb dX6_join_60 ?_
        refine pX6 F hS hP.main hP.omain 25 (by decide) wFL_X6_101 (fun _ h9 => h9) rfl rfl rfl (by simp) dX6_join_61 (fun H1 locs1 he1 z1 oq1 hS => ?_)
        have hP := hP.p25 he1 oq1
        refine lv_aload_n hx hb dX6_join_64 rfl (lv_at hl 0 rfl) ?_
        refine gX6 F hP.main 2 (by decide) wFL_X6_13 (fun _ h9 => h9) (v := .ref (ad 2)) rfl dX6_join_65 ?_
        refine lv_iload_n hx hb dX6_join_68 rfl (lv_at hl 1 rfl) ?_
        refine xiald hx hb hE.1.1 (hP.arr 2 (by decide) (by decide)) 0 rfl (k := k) rfl (show _ < 6 by omega) (by decide) dX6_join_69 ?_
        rw [show (up (up (thr τ 0) 2 k ((((thr τ 0) 26 0) + 30) - 1)) 25 0 (((thr τ 0) 25 0) + 6000)) 2 k = (((thr τ 0) 26 0) + 30) - 1 from by simp [up]]
        exact kiret hx hb hr hlocks hS (by decide) (by decide) dX6_join_70 (⟨_, _, rfl, hP, Or.inr (Or.inr (⟨k, hm9, rfl, b2i_0.mp c_17_2, by simp [up], rfl⟩))⟩)
      · exact absurd c_32_3 (by decide)
    · refine lv_iconst (v := 2) hx hb dX6_join_20 (by decide) ?_
      refine lv_goto (tgt := 25) hx hb dX6_join_21 (by decide) ?_
      refine pX6 F hS hP.main hP.omain 27 (by decide) wFL_X6_81 (fun _ h9 => h9) rfl rfl rfl (by simp) dX6_join_25 (fun H1 locs1 he1 z1 oq1 hS => ?_)
      have hP : PM G A ad (thr τ 2) H1 := hP.p27 he1 oq1
      refine lv_aload_n hx hb dX6_join_28 rfl (lv_at hl 0 rfl) ?_
      refine gX6 F hP.main 27 (by decide) wFL_X6_81 (fun _ h9 => h9) (v := .int 2) (by simp [thr, up]) dX6_join_29 ?_
      refine lv_if_le (tgt := 37) hx hb dX6_join_32 (by decide) (fun c_32_4 => ?_) (fun c_32_4 => ?_)
      · exact absurd c_32_4 (by decide)
      · refine lv_iconst (v := 0) hx hb dX6_join_35 (by decide) ?_
        exact kiret hx hb hr hlocks hS (by decide) (by decide) dX6_join_36 (⟨_, _, rfl, hP, Or.inr (Or.inl (⟨k, hm9, rfl, b2i_1.mp c_17_2, rfl⟩))⟩)
  · have no_vm := in_no (n := 6) rfl (by decide) (b2i_0.mp c_5_1)
    refine lv_iconst (v := 1) hx hb dX6_join_8 (by decide) ?_
    refine lv_goto (tgt := 25) hx hb dX6_join_9 (by decide) ?_
    refine pX6 F hS hP.main hP.omain 27 (by decide) wFL_X6_81 (fun _ h9 => h9) rfl rfl rfl (by simp) dX6_join_25 (fun H1 locs1 he1 z1 oq1 hS => ?_)
    have hP : PM G A ad (thr τ 1) H1 := hP.p27 he1 oq1
    refine lv_aload_n hx hb dX6_join_28 rfl (lv_at hl 0 rfl) ?_
    refine gX6 F hP.main 27 (by decide) wFL_X6_81 (fun _ h9 => h9) (v := .int 1) (by simp [thr, up]) dX6_join_29 ?_
    refine lv_if_le (tgt := 37) hx hb dX6_join_32 (by decide) (fun c_32_5 => ?_) (fun c_32_5 => ?_)
    · exact absurd c_32_5 (by decide)
    · refine lv_iconst (v := 0) hx hb dX6_join_35 (by decide) ?_
      exact kiret hx hb hr hlocks hS (by decide) (by decide) dX6_join_36 (⟨_, _, rfl, hP, Or.inl (⟨no_vm, rfl⟩)⟩)

