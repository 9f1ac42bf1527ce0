theorem ch_and (k : Nat) (hk : k < 128) : ((nI k &&& 255).toUInt32 % 65536).toInt32 = nI k := (by decide +kernel : ∀ k, k < 128 → ((nI k &&& 255).toUInt32 % 65536).toInt32 = nI k) k hk
theorem ch_nar (k : Nat) (hk : k < 128) : narrow .char (.int (nI k)) = .int (nI k) := by
  have h : ((nI k).toUInt32 % 65536).toInt32 = nI k := (by decide +kernel : ∀ k, k < 128 → ((nI k).toUInt32 % 65536).toInt32 = nI k) k hk
  exact congrArg Value.int h
set_option maxHeartbeats 4000000 in
set_option maxRecDepth 100000 in
theorem cB_appI5 (l : Launch) (G : GE) (A1 : Nat → Prop) (aS aV n : Nat) (hAS : A1 aS) (hAV : A1 aV) (hne : aS ≠ aV) (f : Nat → Int32) (k : Nat) (hk0 : k ≤ 1000) (hk16 : n + dgn k ≤ 16) : KM l G A1 yJ5_append_c97b9 cJ5_append_c97b9 4 (some (.object "java/lang/AbstractStringBuilder")) (rmL 2 0 0) [.ref aS, .int (nI k)] (fun H => va_at G.1 mcl (aS, .inr (0, [.ref aV, .int 0, .int 0, .int (nI n)])) H ∧ va_at G.1 mcl (aV, .inl (G.2.1 7, 16, .inl f)) H) (fun v H => v = some (.ref aS) ∧ va_at G.1 mcl (aS, .inr (0, [.ref aV, .int 0, .int 0, .int (nI (n + dgn k))])) H ∧ va_at G.1 mcl (aV, .inl (G.2.1 7, 16, .inl (gch k (n + dgn k) f))) H) (fun _ _ => False) := by
  refine KM.of (by decide) (Nat.le_of_ble_eq_true rfl) ?_
  intro p e s m args below meth c F hP ls hl
  have hx := F.1.1
  have hb := F.1.2.1
  have hown := F.1.2.2.2.1
  have hts := F.1.2.2.2.2
  have hr := F.2.1
  have hlocks := F.2.2.1
  have hE := F.2.2.2.2.2.1
  have hA := F.2.2.2.2.2.2
  have hS : va_S A1 s.heap s.heap [] := va_S.rf
  have hl : lv_has ls 4 [(0, .ref aS), (1, .int (nI k))] := hl
  obtain ⟨hO, hV⟩ := hP
  have hk := hk0
  refine lv_aload_n hx hb dJ5_append_c97b9_0 rfl (lv_at hl 0 rfl) ?_
  refine gJ4 F hO 3 (by decide) wFL_J5_79 (fun _ h9 => h9) (v := .int (nI n)) rfl dJ5_append_c97b9_1 ?_
  refine lv_istore_n (lv' := [(2, .int (nI n)), (0, .ref aS), (1, .int (nI k))]) hx hb dJ5_append_c97b9_4 rfl hl (by decide) rfl (fun ls hl => ?_)
  refine lv_iload_n hx hb dJ5_append_c97b9_5 rfl (lv_at hl 0 rfl) ?_
  refine lv_iload_n hx hb dJ5_append_c97b9_6 rfl (lv_at hl 2 rfl) ?_
  refine kcallS (n := 1) F (cB_ss l G (fun q => s.heap.size ≤ q) k hk) wML_J5_245 wST_J6_stringSize_0f7a4 wIN_J6 wCO_J6_stringSize_0f7a4 (by decide) rfl ⟨by decide, by decide⟩ hS (fun q h => hA q (Nat.le_trans hS.1 h)) (fun q h => h) trivial rfl hl.1 (Nat.le_of_ble_eq_true rfl) dJ5_append_c97b9_7 ⟨by decide, by decide⟩ (fun E ce q9 H1 locs1 hx9 _ _ _ _ _ => hx9.elim) (fun v H1 locs1 hv hk hS => ?_)
  subst hv
  have hO := atO hO hk
  have hV := atO hV hk
  have hk := hk0
  refine lv_iadd hx hb dJ5_append_c97b9_10 ?_
  refine W.eq (g2 := F0 m 11 ls [.int (nI (n + dgn k))]) (congrArg (fun z => F0 m 11 ls [.int z]) (nI_add n (dgn k))) ?_
  refine lv_istore_n (lv' := [(3, .int (nI (n + dgn k))), (2, .int (nI n)), (0, .ref aS), (1, .int (nI k))]) hx hb dJ5_append_c97b9_11 rfl hl (by decide) rfl (fun ls hl => ?_)
  refine lv_aload_n hx hb dJ5_append_c97b9_12 rfl (lv_at hl 2 rfl) ?_
  refine lv_iload_n hx hb dJ5_append_c97b9_13 rfl (lv_at hl 0 rfl) ?_
  refine kcallVC (n := 1) (C9 := RJ4) F (cB_ensure l G (fun q => H1.size ≤ q) aS aV n f (n + dgn k) hk16) wML_J5_100 wIM_J5_ensureCapacityInternal_d00df hE.1.2.2.2.2.1.2 wIN_J5 wCO_J5_ensureCapacityInternal_d00df (by decide) rfl ⟨by decide, by decide⟩ (frec F hO _ rfl) hS (fun q h => hA q (Nat.le_trans hS.1 h)) (fun q h => h) ⟨hO, hV⟩ rfl hl.1 (Nat.le_of_ble_eq_true rfl) dJ5_append_c97b9_14 ⟨by decide, by decide⟩ (fun E ce q9 H1 locs1 hx9 _ _ _ _ _ => hx9.elim) (fun v H1 locs1 hv hk hS => ?_)
  subst hv
  have hO := atO hO hk
  have hV := atO hV hk
  refine lv_aload_n hx hb dJ5_append_c97b9_17 rfl (lv_at hl 2 rfl) ?_
  refine kcallVC (n := 0) (C9 := RJ4) F (cB_isLatin1 l G (fun q => H1.size ≤ q) aS aV n) wML_J5_83 wIM_J5_isLatin1_aae02 (hts _ wSE_J4_J5_isLatin1_aae02) wIN_J5 wCO_J5_isLatin1_aae02 (by decide) rfl ⟨by decide, by decide⟩ (frec F hO _ rfl) hS (fun q h => hA q (Nat.le_trans hS.1 h)) (fun q h => h) hO rfl hl.1 (Nat.le_of_ble_eq_true rfl) dJ5_append_c97b9_18 ⟨by decide, by decide⟩ (fun E ce q9 H1 locs1 hx9 _ _ _ _ _ => hx9.elim) (fun v H1 locs1 hv hk hS => ?_)
  subst hv
  have hO := atO hO hk
  have hV := atO hV hk
  refine lv_if_eq (tgt := 37) hx hb dJ5_append_c97b9_21 (by decide) (fun c_21_1 => ?_) (fun c_21_1 => ?_)
  · exact absurd c_21_1 (by decide)
  · refine lv_iload_n hx hb dJ5_append_c97b9_24 rfl (lv_at hl 3 rfl) ?_
    refine lv_iload_n hx hb dJ5_append_c97b9_25 rfl (lv_at hl 0 rfl) ?_
    refine lv_aload_n hx hb dJ5_append_c97b9_26 rfl (lv_at hl 2 rfl) ?_
    refine gJ4 F hO 0 (by decide) wFL_J5_15 (fun _ h9 => h9) (v := .ref aV) rfl dJ5_append_c97b9_27 ?_
    refine kcallS (n := 3) F (cB_gc l G (fun q => q = aV ∨ H1.size ≤ q) aV k (n + dgn k) f (Or.inl rfl) hk0 (by omega) hk16) wML_J5_248 wST_J6_getChars_ba4f3 wIN_J6 wCO_J6_getChars_ba4f3 (by decide) rfl ⟨by decide, by decide⟩ hS (fun q h => h.elim (fun e => e ▸ hAV) (fun h => hA q (Nat.le_trans hS.1 h))) (fun q h => Or.inr h) hV rfl hl.1 (Nat.le_of_ble_eq_true rfl) dJ5_append_c97b9_30 ⟨by decide, by decide⟩ (fun E ce q9 H1 locs1 hx9 _ _ _ _ _ => hx9.elim) (fun v H1 locs1 hv hk hS => ?_)
    obtain ⟨⟨z9, rfl⟩, hV⟩ := hv
    have hO := hO.kept (hk.2 _ hO.lt (fun z => z.elim hne (fun z => absurd z (Nat.not_le.mpr hO.lt))))
    refine lv_pop hx hb dJ5_append_c97b9_33 rfl ?_
    refine lv_goto (tgt := 48) hx hb dJ5_append_c97b9_34 (by decide) ?_
    refine lv_aload_n hx hb dJ5_append_c97b9_48 rfl (lv_at hl 2 rfl) ?_
    refine lv_iload_n hx hb dJ5_append_c97b9_49 rfl (lv_at hl 0 rfl) ?_
    refine pJ4 F hS hO hAS 3 (by decide) wFL_J5_79 (fun _ h9 => h9) rfl rfl rfl (by simp) dJ5_append_c97b9_50 (fun H_2 locs1 hO z1 oq1 hS => ?_)
    have hO : va_at G.1 mcl (aS, .inr (0, [.ref aV, .int 0, .int 0, .int (nI (n + dgn k))])) H_2 := hO
    have hV := hV.kept (oq1 _ (Ne.symm hne))
    refine lv_aload_n hx hb dJ5_append_c97b9_53 rfl (lv_at hl 2 rfl) ?_
    exact karet hx hb hr hlocks hS (by decide) (by decide) dJ5_append_c97b9_54 (⟨rfl, hO, hV⟩)

set_option maxHeartbeats 4000000 in
set_option maxRecDepth 100000 in
theorem cB_appI (l : Launch) (G : GE) (A1 : Nat → Prop) (aS aV n : Nat) (hAS : A1 aS) (hAV : A1 aV) (hne : aS ≠ aV) (f : Nat → Int32) (k : Nat) (hk0 : k ≤ 1000) (hk16 : n + dgn k ≤ 16) : KM l G A1 yJ4_append_bf812 cJ4_append_bf812 2 (some (.object "java/lang/StringBuilder")) (rmL 3 0 0) [.ref aS, .int (nI k)] (fun H => va_at G.1 mcl (aS, .inr (0, [.ref aV, .int 0, .int 0, .int (nI n)])) H ∧ va_at G.1 mcl (aV, .inl (G.2.1 7, 16, .inl f)) H) (fun v H => v = some (.ref aS) ∧ va_at G.1 mcl (aS, .inr (0, [.ref aV, .int 0, .int 0, .int (nI (n + dgn k))])) H ∧ va_at G.1 mcl (aV, .inl (G.2.1 7, 16, .inl (gch k (n + dgn k) f))) H) (fun _ _ => False) := by
  refine KM.of (by decide) (Nat.le_of_ble_eq_true rfl) ?_
  intro p e s m args below meth c F hP ls hl
  have hx := F.1.1
  have hb := F.1.2.1
  have hown := F.1.2.2.2.1
  have hts := F.1.2.2.2.2
  have hr := F.2.1
  have hlocks := F.2.2.1
  have hE := F.2.2.2.2.2.1
  have hA := F.2.2.2.2.2.2
  have hS : va_S A1 s.heap s.heap [] := va_S.rf
  have hl : lv_has ls 2 [(0, .ref aS), (1, .int (nI k))] := hl
  obtain ⟨hO, hV⟩ := hP
  refine lv_aload_n hx hb dJ4_append_bf812_0 rfl (lv_at hl 0 rfl) ?_
  refine lv_iload_n hx hb dJ4_append_bf812_1 rfl (lv_at hl 1 rfl) ?_
  refine kcallSU (n := 1) (C9 := RJ4) (hE.1.1.1 0 _ rfl).2 F (cB_appI5 l G A1 aS aV n hAS hAV hne f k hk0 hk16) wML_J4_53 wIM_J5_append_c97b9 wSM_J5_append_1087 wSU_J4 wIN_J5 wCO_J5_append_c97b9 (by decide) (by decide) rfl ⟨by decide, by decide⟩ (frec F hO _ rfl) hS (fun _ h => h) (fun q h => hA q (Nat.le_trans hS.1 h)) ⟨hO, hV⟩ rfl hl.1 (Nat.le_of_ble_eq_true rfl) dJ4_append_bf812_2 ⟨by decide, by decide⟩ (fun E ce q9 H1 locs1 hx9 _ _ _ _ _ => hx9.elim) (fun v H1 locs1 hv hk hS => ?_)
  obtain ⟨rfl, hv⟩ := hv
  refine lv_pop hx hb dJ4_append_bf812_5 rfl ?_
  refine lv_aload_n hx hb dJ4_append_bf812_6 rfl (lv_at hl 0 rfl) ?_
  exact karet hx hb hr hlocks hS (by decide) (by decide) dJ4_append_bf812_7 (⟨rfl, hv⟩)

set_option maxHeartbeats 4000000 in
set_option maxRecDepth 100000 in
theorem cJ_checkIndex3r (l : Launch) (G : GE) (A1 : Nat → Prop) (k cn tz : Nat) (hk : k < cn) (hc : cn < 2 ^ 31) : KM l G A1 yJ3_checkIndex_8e157 cJ3_checkIndex_8e157 3 (some .int) (rmL 1 0 0) [.int (nI k), .int (nI cn), .ref tz] (fun _ => True) (fun v _ => v = some (.int (nI k))) (fun _ _ => False) := by
  refine KM.of (by decide) (Nat.le_of_ble_eq_true rfl) ?_
  intro p e s m args below meth c F hP ls hl
  have hx := F.1.1
  have hb := F.1.2.1
  have hown := F.1.2.2.2.1
  have hts := F.1.2.2.2.2
  have hr := F.2.1
  have hlocks := F.2.2.1
  have hE := F.2.2.2.2.2.1
  have hA := F.2.2.2.2.2.2
  have hS : va_S A1 s.heap s.heap [] := va_S.rf
  have hl : lv_has ls 3 [(0, .int (nI k)), (1, .int (nI cn)), (2, .ref tz)] := hl
  have hP := hP
  refine lv_iload_n hx hb dJ3_checkIndex_8e157_0 rfl (lv_at hl 0 rfl) ?_
  refine lv_if_lt (tgt := 9) hx hb dJ3_checkIndex_8e157_1 (by decide) (fun c_1_1 => ?_) (fun c_1_1 => ?_)
  · exact absurd c_1_1 (nI_pos (by omega))
  · refine lv_iload_n hx hb dJ3_checkIndex_8e157_4 rfl (lv_at hl 0 rfl) ?_
    refine lv_iload_n hx hb dJ3_checkIndex_8e157_5 rfl (lv_at hl 1 rfl) ?_
    refine lv_icmp_lt (tgt := 16) hx hb dJ3_checkIndex_8e157_6 (by decide) (fun c_6_2 => ?_) (fun c_6_2 => ?_)
    · refine lv_iload_n hx hb dJ3_checkIndex_8e157_16 rfl (lv_at hl 0 rfl) ?_
      exact kiret hx hb hr hlocks hS (by decide) (by decide) dJ3_checkIndex_8e157_17 (rfl)
    · exact absurd (nI_lt hk hc) c_6_2

set_option maxHeartbeats 4000000 in
set_option maxRecDepth 100000 in
theorem cB_ci (l : Launch) (G : GE) (A1 : Nat → Prop) (k cn : Nat) (hk9 : k < cn) (hc : cn < 2 ^ 31) : KM l G A1 yJ0_checkIndex_df160 cJ0_checkIndex_df160 2 none (rmL 2 0 0) [.int (nI k), .int (nI cn)] (fun _ => True) (fun v _ => v = none) (fun _ _ => False) := by
  refine KM.of (by decide) (Nat.le_of_ble_eq_true rfl) ?_
  intro p e s m args below meth c F hP ls hl
  have hx := F.1.1
  have hb := F.1.2.1
  have hown := F.1.2.2.2.1
  have hts := F.1.2.2.2.2
  have hr := F.2.1
  have hlocks := F.2.2.1
  have hE := F.2.2.2.2.2.1
  have hA := F.2.2.2.2.2.2
  have hS : va_S A1 s.heap s.heap [] := va_S.rf
  have hl : lv_has ls 2 [(0, .int (nI k)), (1, .int (nI cn))] := hl
  have hP := hP
  refine lv_iload_n hx hb dJ0_checkIndex_df160_0 rfl (lv_at hl 0 rfl) ?_
  refine lv_iload_n hx hb dJ0_checkIndex_df160_1 rfl (lv_at hl 1 rfl) ?_
  rcases hE.2.2.2.1.2 with hz9 | ⟨t9, hz9⟩
  · refine va_gets hx hb hz9 hS hown (hts _ wFL_J0_1053) (fun _ h9 => h9) dJ0_checkIndex_df160_2 ?_
    refine kcallS (n := 3) F (cJ_checkIndex3 l G (fun q => s.heap.size ≤ q) k cn hk9 hc) wML_J0_1059 wST_J3_checkIndex_8e157 wIN_J3 wCO_J3_checkIndex_8e157 (by decide) rfl ⟨by decide, by decide⟩ hS (fun q h => hA q (Nat.le_trans hS.1 h)) (fun q h => h) trivial rfl hl.1 (Nat.le_of_ble_eq_true rfl) dJ0_checkIndex_df160_5 ⟨by decide, by decide⟩ (fun E ce q9 H1 locs1 hx9 _ _ _ _ _ => hx9.elim) (fun v H1 locs1 hv hk hS => ?_)
    subst hv
    refine lv_pop hx hb dJ0_checkIndex_df160_8 rfl ?_
    exact kvret hx hb hr hlocks hS (by decide) (by decide) dJ0_checkIndex_df160_9 (rfl)
  · refine va_gets hx hb hz9 hS hown (hts _ wFL_J0_1053) (fun _ h9 => h9) dJ0_checkIndex_df160_2 ?_
    refine kcallS (n := 3) F (cJ_checkIndex3r l G (fun q => s.heap.size ≤ q) k cn t9 hk9 hc) wML_J0_1059 wST_J3_checkIndex_8e157 wIN_J3 wCO_J3_checkIndex_8e157 (by decide) rfl ⟨by decide, by decide⟩ hS (fun q h => hA q (Nat.le_trans hS.1 h)) (fun q h => h) trivial rfl hl.1 (Nat.le_of_ble_eq_true rfl) dJ0_checkIndex_df160_5 ⟨by decide, by decide⟩ (fun E ce q9 H1 locs1 hx9 _ _ _ _ _ => hx9.elim) (fun v H1 locs1 hv hk hS => ?_)
    subst hv
    refine lv_pop hx hb dJ0_checkIndex_df160_8 rfl ?_
    exact kvret hx hb hr hlocks hS (by decide) (by decide) dJ0_checkIndex_df160_9 (rfl)

set_option maxHeartbeats 4000000 in
set_option maxRecDepth 100000 in
theorem cB_charAt5 (l : Launch) (G : GE) (A1 : Nat → Prop) (aS aV n : Nat) (f : Nat → Int32) (k ch : Nat) (hkn : k < n) (hn9 : n ≤ 16) (hf9 : f k = nI ch) (hch : ch < 128) : KM l G A1 yJ5_charAt_5068e cJ5_charAt_5068e 5 (some .char) (rmL 3 0 0) [.ref aS, .int (nI k)] (fun H => va_at G.1 mcl (aS, .inr (0, [.ref aV, .int 0, .int 0, .int (nI n)])) H ∧ va_at G.1 mcl (aV, .inl (G.2.1 7, 16, .inl f)) H) (fun v _ => v = some (.int (nI ch))) (fun _ _ => False) := by
  refine KM.of (by decide) (Nat.le_of_ble_eq_true rfl) ?_
  intro p e s m args below meth c F hP ls hl
  have hx := F.1.1
  have hb := F.1.2.1
  have hown := F.1.2.2.2.1
  have hts := F.1.2.2.2.2
  have hr := F.2.1
  have hlocks := F.2.2.1
  have hE := F.2.2.2.2.2.1
  have hA := F.2.2.2.2.2.2
  have hS : va_S A1 s.heap s.heap [] := va_S.rf
  have hl : lv_has ls 5 [(0, .ref aS), (1, .int (nI k))] := hl
  obtain ⟨hO, hV⟩ := hP
  refine lv_aload_n hx hb dJ5_charAt_5068e_0 rfl (lv_at hl 0 rfl) ?_
  refine gJ4 F hO 1 (by decide) wFL_J5_22 (fun _ h9 => h9) (v := .int 0) rfl dJ5_charAt_5068e_1 ?_
  refine lv_istore_n (lv' := [(2, .int 0), (0, .ref aS), (1, .int (nI k))]) hx hb dJ5_charAt_5068e_4 rfl hl (by decide) rfl (fun ls hl => ?_)
  refine lv_aload_n hx hb dJ5_charAt_5068e_5 rfl (lv_at hl 1 rfl) ?_
  refine gJ4 F hO 0 (by decide) wFL_J5_15 (fun _ h9 => h9) (v := .ref aV) rfl dJ5_charAt_5068e_6 ?_
  refine lv_astore_n (lv' := [(3, .ref aV), (2, .int 0), (0, .ref aS), (1, .int (nI k))]) hx hb dJ5_charAt_5068e_9 rfl hl (by decide) rfl (fun ls hl => ?_)
  refine lv_aload_n hx hb dJ5_charAt_5068e_10 rfl (lv_at hl 2 rfl) ?_
  refine gJ4 F hO 3 (by decide) wFL_J5_79 (fun _ h9 => h9) (v := .int (nI n)) rfl dJ5_charAt_5068e_11 ?_
  refine lv_aload_n hx hb dJ5_charAt_5068e_14 rfl (lv_at hl 0 rfl) ?_
  refine xalen hx hb hE.1.1 hV 7 rfl dJ5_charAt_5068e_15 ?_
  refine lv_iload_n hx hb dJ5_charAt_5068e_16 rfl (lv_at hl 1 rfl) ?_
  refine lv_ishr hx hb dJ5_charAt_5068e_17 ?_
  refine va_mmin hx hb (F.1.2.2.1.trans hl.1.symm) hown (hts _ wMM_J5_138) (hts _ wST_Math_min) (hts _ wINs_J9) (hts _ wCO_Math_min) (by decide) (Nat.le_of_ble_eq_true rfl) (by decide) (by decide) dJ5_charAt_5068e_18 ?_
  refine W.eq (g2 := F0 m 21 ls [.int (nI n)]) (congrArg (fun z => F0 m 21 ls [.int z]) (sb_min n hn9)) ?_
  refine lv_istore (lv' := [(4, .int (nI n)), (3, .ref aV), (2, .int 0), (0, .ref aS), (1, .int (nI k))]) hx hb dJ5_charAt_5068e_21 hl (by decide) rfl (fun ls hl => ?_)
  refine lv_iload_n hx hb dJ5_charAt_5068e_23 rfl (lv_at hl 4 rfl) ?_
  refine lv_iload hx hb dJ5_charAt_5068e_24 (lv_at hl 0 rfl) ?_
  refine kcallS (n := 2) F (cB_ci l G (fun q => s.heap.size ≤ q) k n hkn (by omega)) wML_J5_144 wST_J0_checkIndex_df160 wIN_J0 wCO_J0_checkIndex_df160 (by decide) rfl ⟨by decide, by decide⟩ hS (fun q h => hA q (Nat.le_trans hS.1 h)) (fun q h => h) trivial rfl hl.1 (Nat.le_of_ble_eq_true rfl) dJ5_charAt_5068e_26 ⟨by decide, by decide⟩ (fun E ce q9 H1 locs1 hx9 _ _ _ _ _ => hx9.elim) (fun v H1 locs1 hv hk hS => ?_)
  subst hv
  have hO := atO hO hk
  have hV := atO hV hk
  refine lv_iload_n hx hb dJ5_charAt_5068e_29 rfl (lv_at hl 2 rfl) ?_
  refine lv_if_ne (tgt := 42) hx hb dJ5_charAt_5068e_30 (by decide) (fun c_30_1 => ?_) (fun c_30_1 => ?_)
  · exact absurd rfl c_30_1
  · refine lv_aload_n hx hb dJ5_charAt_5068e_33 rfl (lv_at hl 1 rfl) ?_
    refine lv_iload_n hx hb dJ5_charAt_5068e_34 rfl (lv_at hl 4 rfl) ?_
    refine xbald hx hb hE.1.1 hV 7 rfl (k := k) rfl (by omega) (by decide) dJ5_charAt_5068e_35 ?_
    refine W.eq (g2 := F0 m 36 ls [.int (nI ch)]) (congrArg (fun z => F0 m 36 ls [.int z]) (hf9)) ?_
    refine lv_sipush (v := 255) hx hb dJ5_charAt_5068e_36 (by decide) ?_
    refine lv_iand hx hb dJ5_charAt_5068e_39 ?_
    refine lv_i2c hx hb dJ5_charAt_5068e_40 rfl ?_
    refine W.eq (g2 := F0 m 41 ls [.int (nI ch)]) (congrArg (fun z => F0 m 41 ls [.int z]) (ch_and ch hch)) ?_
    exact knret hx hb hr (ch_nar ch hch) hlocks hS (by decide) (by decide) dJ5_charAt_5068e_41 (rfl)

set_option maxHeartbeats 4000000 in
set_option maxRecDepth 100000 in
theorem cB_charAt (l : Launch) (G : GE) (A1 : Nat → Prop) (aS aV n : Nat) (f : Nat → Int32) (k ch : Nat) (hkn : k < n) (hn9 : n ≤ 16) (hf9 : f k = nI ch) (hch : ch < 128) : KM l G A1 yJ4_charAt_5068e cJ4_charAt_5068e 2 (some .char) (rmL 4 0 0) [.ref aS, .int (nI k)] (fun H => va_at G.1 mcl (aS, .inr (0, [.ref aV, .int 0, .int 0, .int (nI n)])) H ∧ va_at G.1 mcl (aV, .inl (G.2.1 7, 16, .inl f)) H) (fun v _ => v = some (.int (nI ch))) (fun _ _ => False) := by
  refine KM.of (by decide) (Nat.le_of_ble_eq_true rfl) ?_
  intro p e s m args below meth c F hP ls hl
  have hx := F.1.1
  have hb := F.1.2.1
  have hown := F.1.2.2.2.1
  have hts := F.1.2.2.2.2
  have hr := F.2.1
  have hlocks := F.2.2.1
  have hE := F.2.2.2.2.2.1
  have hA := F.2.2.2.2.2.2
  have hS : va_S A1 s.heap s.heap [] := va_S.rf
  have hl : lv_has ls 2 [(0, .ref aS), (1, .int (nI k))] := hl
  obtain ⟨hO, hV⟩ := hP
  refine lv_aload_n hx hb dJ4_charAt_5068e_0 rfl (lv_at hl 0 rfl) ?_
  refine lv_iload_n hx hb dJ4_charAt_5068e_1 rfl (lv_at hl 1 rfl) ?_
  refine kcallSU (n := 1) (C9 := RJ4) (hE.1.1.1 0 _ rfl).2 F (cB_charAt5 l G (fun q => s.heap.size ≤ q) aS aV n f k ch hkn hn9 hf9 hch) wML_J4_329 wIM_J5_charAt_5068e wSM_J5_charAt_1090 wSU_J4 wIN_J5 wCO_J5_charAt_5068e (by decide) (by decide) rfl ⟨by decide, by decide⟩ (frec F hO _ rfl) hS (fun q h => hA q (Nat.le_trans hS.1 h)) (fun q h => h) ⟨hO, hV⟩ rfl hl.1 (Nat.le_of_ble_eq_true rfl) dJ4_charAt_5068e_2 ⟨by decide, by decide⟩ (fun E ce q9 H1 locs1 hx9 _ _ _ _ _ => hx9.elim) (fun v H1 locs1 hv hk hS => ?_)
  subst hv
  exact knret hx hb hr (ch_nar ch hch) hlocks hS (by decide) (by decide) dJ4_charAt_5068e_5 (rfl)

