set_option maxHeartbeats 4000000 in
set_option maxRecDepth 100000 in
theorem cI_coll (l : Launch) (G : GE) (A1 : Nat → Prop) (a : Nat) (hA1 : A1 a) : KM l G A1 yJxa1e45_init_da8c8 cJxa1e45_init_da8c8 1 none (rmL 1 0 0) [.ref a] (fun H => va_at G.1 mcl (a, .inr (1, [.int 0, .null, .int 0])) H) (fun v H => v = none ∧ va_at G.1 mcl (a, .inr (1, [.int 0, .null, .int 0])) H) (fun _ _ => False) := by
  refine KM.of (by decide) (Nat.le_of_ble_eq_true rfl) ?_
  intro p e s m args below meth c F hP ls hl
  have hx := F.1.1
  have hb := F.1.2.1
  have hown := F.1.2.2.2.1
  have hts := F.1.2.2.2.2
  have hr := F.2.1
  have hlocks := F.2.2.1
  have hE := F.2.2.2.2.2.1
  have hA := F.2.2.2.2.2.2
  have hS : va_S A1 s.heap s.heap [] := va_S.rf
  have hl : lv_has ls 1 [(0, .ref a)] := hl
  have hO := hP
  refine lv_aload_n hx hb dJxa1e45_init_da8c8_0 rfl (lv_at hl 0 rfl) ?_
  refine W.objInit hx hb hown (hts _ wML_Jxa1e45_1) (hts _ wz_62) (hts _ wCO_obj) rfl (by rw [F.1.2.2.1]; exact hl.1) rfl dJxa1e45_init_da8c8_1 (Nat.le_of_ble_eq_true rfl) (Nat.le_of_ble_eq_true rfl) ?_
  refine W.eq (g2 := F0 m 4 ls []) rfl ?_
  exact kvret hx hb hr hlocks hS (by decide) (by decide) dJxa1e45_init_da8c8_4 (⟨rfl, hO⟩)

set_option maxHeartbeats 4000000 in
set_option maxRecDepth 100000 in
theorem cI_alist (l : Launch) (G : GE) (A1 : Nat → Prop) (a : Nat) (hA1 : A1 a) : KM l G A1 yJxc12de_init_da8c8 cJxc12de_init_da8c8 1 none (rmL 2 0 0) [.ref a] (fun H => va_at G.1 mcl (a, .inr (1, [.int 0, .null, .int 0])) H) (fun v H => v = none ∧ va_at G.1 mcl (a, .inr (1, [.int 0, .null, .int 0])) H) (fun _ _ => False) := by
  refine KM.of (by decide) (Nat.le_of_ble_eq_true rfl) ?_
  intro p e s m args below meth c F hP ls hl
  have hx := F.1.1
  have hb := F.1.2.1
  have hown := F.1.2.2.2.1
  have hts := F.1.2.2.2.2
  have hr := F.2.1
  have hlocks := F.2.2.1
  have hE := F.2.2.2.2.2.1
  have hA := F.2.2.2.2.2.2
  have hS : va_S A1 s.heap s.heap [] := va_S.rf
  have hl : lv_has ls 1 [(0, .ref a)] := hl
  have hO := hP
  refine lv_aload_n hx hb dJxc12de_init_da8c8_0 rfl (lv_at hl 0 rfl) ?_
  refine kcallI (n := 0) F (cI_coll l G A1 a hA1) wML_Jxc12de_1 wIM_Jxa1e45_init_da8c8 wIN_Jxa1e45 wCO_Jxa1e45_init_da8c8 rfl (by decide) rfl ⟨by decide, by decide⟩ hS (fun _ h => h) (fun q h => hA q (Nat.le_trans hS.1 h)) hO rfl hl.1 (Nat.le_of_ble_eq_true rfl) dJxc12de_init_da8c8_1 ⟨by decide, by decide⟩ (fun E ce q9 H1 locs1 hx9 _ _ _ _ _ => hx9.elim) (fun v H1 locs1 hv hk hS => ?_)
  obtain ⟨rfl, hO⟩ := hv
  refine lv_aload_n hx hb dJxc12de_init_da8c8_4 rfl (lv_at hl 0 rfl) ?_
  refine lv_iconst (v := 0) hx hb dJxc12de_init_da8c8_5 (by decide) ?_
  refine pJx4a65c F hS hO hA1 0 (by decide) wFL_Jxc12de_7 (fun _ h9 => h9) rfl rfl rfl (by simp) dJxc12de_init_da8c8_6 (fun H_1 locs1 hO z1 oq1 hS => ?_)
  have hO : va_at G.1 mcl (a, .inr (1, [.int 0, .null, .int 0])) H_1 := hO
  exact kvret hx hb hr hlocks hS (by decide) (by decide) dJxc12de_init_da8c8_9 (⟨rfl, hO⟩)

set_option maxHeartbeats 4000000 in
set_option maxRecDepth 100000 in
theorem cI_list (l : Launch) (G : GE) (A1 : Nat → Prop) (a : Nat) (hA1 : A1 a) : KM l G A1 yJx4a65c_init_da8c8 cJx4a65c_init_da8c8 1 none (rmL 3 0 0) [.ref a] (fun H => va_at G.1 mcl (a, .inr (1, [.int 0, .null, .int 0])) H) (fun v H => v = none ∧ va_at G.1 mcl (a, .inr (1, [.int 0, .ref G.2.2.1, .int 0])) H) (fun _ _ => False) := by
  refine KM.of (by decide) (Nat.le_of_ble_eq_true rfl) ?_
  intro p e s m args below meth c F hP ls hl
  have hx := F.1.1
  have hb := F.1.2.1
  have hown := F.1.2.2.2.1
  have hts := F.1.2.2.2.2
  have hr := F.2.1
  have hlocks := F.2.2.1
  have hE := F.2.2.2.2.2.1
  have hA := F.2.2.2.2.2.2
  have hS : va_S A1 s.heap s.heap [] := va_S.rf
  have hl : lv_has ls 1 [(0, .ref a)] := hl
  have hO := hP
  refine lv_aload_n hx hb dJx4a65c_init_da8c8_0 rfl (lv_at hl 0 rfl) ?_
  refine kcallI (n := 0) F (cI_alist l G A1 a hA1) wML_Jx4a65c_1 wIM_Jxc12de_init_da8c8 wIN_Jxc12de wCO_Jxc12de_init_da8c8 rfl (by decide) rfl ⟨by decide, by decide⟩ hS (fun _ h => h) (fun q h => hA q (Nat.le_trans hS.1 h)) hO rfl hl.1 (Nat.le_of_ble_eq_true rfl) dJx4a65c_init_da8c8_1 ⟨by decide, by decide⟩ (fun E ce q9 H1 locs1 hx9 _ _ _ _ _ => hx9.elim) (fun v H1 locs1 hv hk hS => ?_)
  obtain ⟨rfl, hO⟩ := hv
  refine lv_aload_n hx hb dJx4a65c_init_da8c8_4 rfl (lv_at hl 0 rfl) ?_
  refine va_gets hx hb hE.2.2.1.1 hS hown (hts _ wFL_Jx4a65c_39) (fun _ h9 => h9) dJx4a65c_init_da8c8_5 ?_
  refine pJx4a65c F hS hO hA1 1 (by decide) wFL_Jx4a65c_9 (fun _ h9 => h9) rfl rfl rfl (by simp) dJx4a65c_init_da8c8_8 (fun H_1 locs1 hO z1 oq1 hS => ?_)
  have hO : va_at G.1 mcl (a, .inr (1, [.int 0, .ref G.2.2.1, .int 0])) H_1 := hO
  exact kvret hx hb hr hlocks hS (by decide) (by decide) dJx4a65c_init_da8c8_11 (⟨rfl, hO⟩)

theorem r3 (r : Nat) (hr : r < 12) : nI r / 3 = nI (r / 3) := (by decide +kernel : ∀ r, r < 12 → nI r / 3 = nI (r / 3)) r hr
set_option maxHeartbeats 4000000 in
set_option maxRecDepth 100000 in
theorem cI_room (l : Launch) (G : GE) (A1 : Nat → Prop) (a : Nat) (hA1 : A1 a) (sz r : Nat) (hr9 : r < 12) : KM l G A1 yX1_init cX1_init 2 none (rmL 4 1 3) [.ref a, .int (nI r)] (fun H => H.size = sz ∧ va_at G.1 mcl (a, .inr (3, [.int 0, .int 0, .int 0, .int 0, .int 0, .null])) H) (fun v H => v = none ∧ ∃ q, sz ≤ q ∧ va_at G.1 mcl (a, .inr (3, [.int (nI r), .int (nI (r / 3)), .int 3, .int 0, .int 0, .ref q])) H ∧ va_at G.1 mcl (q, .inr (1, [.int 0, .ref G.2.2.1, .int 0])) H) (fun _ _ => False) := by
  refine KM.of (by decide) (Nat.le_of_ble_eq_true rfl) ?_
  intro p e s m args below meth c F hP ls hl
  have hx := F.1.1
  have hb := F.1.2.1
  have hown := F.1.2.2.2.1
  have hts := F.1.2.2.2.2
  have hr := F.2.1
  have hlocks := F.2.2.1
  have hE := F.2.2.2.2.2.1
  have hA := F.2.2.2.2.2.2
  have hS : va_S A1 s.heap s.heap [] := va_S.rf
  have hl : lv_has ls 2 [(0, .ref a), (1, .int (nI r))] := hl
  obtain ⟨hsz, hO⟩ := hP
  refine lv_aload_n hx hb dX1_init_0 rfl (lv_at hl 0 rfl) ?_
  refine W.objInit hx hb hown (hts _ wML_X1_3) (hts _ wz_62) (hts _ wCO_obj) rfl (by rw [F.1.2.2.1]; exact hl.1) rfl dX1_init_1 (Nat.le_of_ble_eq_true rfl) (Nat.le_of_ble_eq_true rfl) ?_
  refine W.eq (g2 := F0 m 4 ls []) rfl ?_
  refine lv_aload_n hx hb dX1_init_4 rfl (lv_at hl 0 rfl) ?_
  refine lv_iconst (v := 3) hx hb dX1_init_5 (by decide) ?_
  refine pX1 F hS hO hA1 2 (by decide) wFL_X1_9 (fun _ h9 => h9) rfl rfl rfl (by simp) dX1_init_6 (fun H_1 locs1 hO z1 oq1 hS => ?_)
  have hO : va_at G.1 mcl (a, .inr (3, [.int 0, .int 0, .int 3, .int 0, .int 0, .null])) H_1 := hO
  refine lv_aload_n hx hb dX1_init_9 rfl (lv_at hl 0 rfl) ?_
  have hS0 := hS
  refine xnew (ci := 1) (N := 3) hx hb hts inG_Jx4a65c tyJx4a65c tyJx4a65c_ok hown wCL_X1_15 wIS_Jx4a65c wIN_Jx4a65c hE.1.1 hS (show mcl[1]? = some (RJx4a65c, TJx4a65c, 3) from rfl) (fs := [.int 0, .null, .int 0]) (by decide) (Nat.le_of_ble_eq_true rfl) (Nat.le_of_ble_eq_true rfl) dX1_init_10 (fun HL hL z2 oq2 hS => ?_)
  have hqs := Nat.ne_of_lt hO.lt
  have hO := hO.kept (oq2 _ hO.lt)
  obtain ⟨q, eq9⟩ : ∃ q, q = H_1.size := ⟨_, rfl⟩
  rw [← eq9] at hL hqs ⊢
  have hq9 : s.heap.size ≤ q := by have := hS0.1; omega
  refine lv_dup hx hb dX1_init_13 rfl ?_
  refine kcallI (n := 0) F (cI_list l G (fun z => z = q ∨ HL.size ≤ z) q (Or.inl rfl)) wML_X1_17 wIM_Jx4a65c_init_da8c8 wIN_Jx4a65c wCO_Jx4a65c_init_da8c8 rfl (by decide) rfl ⟨by decide, by decide⟩ hS (fun z h => h.elim (fun e => hA z (e ▸ hq9)) (fun h => hA z (Nat.le_trans hS.1 h))) (fun z h => Or.inr h) hL rfl hl.1 (Nat.le_of_ble_eq_true rfl) dX1_init_14 ⟨by decide, by decide⟩ (fun E ce q9 H1 locs1 hx9 _ _ _ _ _ => hx9.elim) (fun v H1 locs1 hv hk hS => ?_)
  obtain ⟨rfl, hL⟩ := hv
  have hO := hO.kept (hk.2 _ hO.lt (fun z => z.elim hqs (fun z => absurd z (Nat.not_le.mpr hO.lt))))
  refine pfX1 F hS hO hA1 5 (by decide) wFL_X1_18 (fun _ h9 => h9) rfl rfl rfl rfl rfl (by simp) dX1_init_17 (fun H_2 locs1 hO z1 oq1 hS => ?_)
  have hO : va_at G.1 mcl (a, .inr (3, [.int 0, .int 0, .int 3, .int 0, .int 0, .ref q])) H_2 := hO
  have hL := hL.kept (oq1 _ (Ne.symm hqs))
  refine lv_aload_n hx hb dX1_init_20 rfl (lv_at hl 0 rfl) ?_
  refine lv_iload_n hx hb dX1_init_21 rfl (lv_at hl 1 rfl) ?_
  refine pfX1 F hS hO hA1 0 (by decide) wFL_X1_22 (fun _ h9 => h9) rfl rfl rfl rfl rfl (by simp) dX1_init_22 (fun H_3 locs1 hO z1 oq1 hS => ?_)
  have hO : va_at G.1 mcl (a, .inr (3, [.int (nI r), .int 0, .int 3, .int 0, .int 0, .ref q])) H_3 := hO
  have hL := hL.kept (oq1 _ (Ne.symm hqs))
  refine lv_aload_n hx hb dX1_init_25 rfl (lv_at hl 0 rfl) ?_
  refine lv_iload_n hx hb dX1_init_26 rfl (lv_at hl 1 rfl) ?_
  refine lv_iconst (v := 3) hx hb dX1_init_27 (by decide) ?_
  refine lv_idiv hx hb dX1_init_28 (by decide) ?_
  refine W.eq (g2 := F0 m 29 ls [.int (nI (r / 3)), .ref a]) (congrArg (fun z => F0 m 29 ls [.int z, .ref a]) (r3 r hr9)) ?_
  refine pfX1 F hS hO hA1 1 (by decide) wFL_X1_25 (fun _ h9 => h9) rfl rfl rfl rfl rfl (by simp) dX1_init_29 (fun H_4 locs1 hO z1 oq1 hS => ?_)
  have hO : va_at G.1 mcl (a, .inr (3, [.int (nI r), .int (nI (r / 3)), .int 3, .int 0, .int 0, .ref q])) H_4 := hO
  have hL := hL.kept (oq1 _ (Ne.symm hqs))
  exact kvret hx hb hr hlocks hS (by decide) (by decide) dX1_init_32 (⟨rfl, q, by omega, hO, hL⟩)

