set_option maxHeartbeats 4000000 in
set_option maxRecDepth 100000 in
theorem cI_coll (l : Launch) (G : GE) (A1 : Nat → Prop) (a : Nat) (hA1 : A1 a) : KM l G A1 yJxa1e45_init_da8c8 cJxa1e45_init_da8c8 1 none (rmL 1 0 0) [.ref a] (fun H => va_at G.1 mcl (a, .inr (1, [.int 0, .null, .int 0])) H) (fun v H => v = none ∧ va_at G.1 mcl (a, .inr (1, [.int 0, .null, .int 0])) H) (fun _ _ => False) := by
  refine KM.of (by decide) (Nat.le_of_ble_eq_true rfl) ?_
  intro p e s m args below meth c F hP ls hl
  have hx := F.1.1
  have hb := F.1.2.1
  have hown := F.1.2.2.2.1
  have hts := F.1.2.2.2.2
  have hr := F.2.1
  have hlocks := F.2.2.1
  have hE := F.2.2.2.2.2.1
  have hA := F.2.2.2.2.2.2
  have hS : va_S A1 s.heap s.heap [] := va_S.rf
  have hl : lv_has ls 1 [(0, .ref a)] := hl
  have hO := hP
  refine lv_aload_n hx hb dJxa1e45_init_da8c8_0 rfl (lv_at hl 0 rfl) ?_
  refine W.objInit hx hb hown (hts _ wML_Jxa1e45_1) (hts _ wz_81) (hts _ wCO_obj) rfl (by rw [F.1.2.2.1]; exact hl.1) rfl dJxa1e45_init_da8c8_1 (Nat.le_of_ble_eq_true rfl) (Nat.le_of_ble_eq_true rfl) ?_
  refine W.eq (g2 := F0 m 4 ls []) rfl ?_
  exact kvret hx hb hr hlocks hS (by decide) (by decide) dJxa1e45_init_da8c8_4 (⟨rfl, hO⟩)

set_option maxHeartbeats 4000000 in
set_option maxRecDepth 100000 in
theorem cI_alist (l : Launch) (G : GE) (A1 : Nat → Prop) (a : Nat) (hA1 : A1 a) : KM l G A1 yJxc12de_init_da8c8 cJxc12de_init_da8c8 1 none (rmL 2 0 0) [.ref a] (fun H => va_at G.1 mcl (a, .inr (1, [.int 0, .null, .int 0])) H) (fun v H => v = none ∧ va_at G.1 mcl (a, .inr (1, [.int 0, .null, .int 0])) H) (fun _ _ => False) := by
  refine KM.of (by decide) (Nat.le_of_ble_eq_true rfl) ?_
  intro p e s m args below meth c F hP ls hl
  have hx := F.1.1
  have hb := F.1.2.1
  have hown := F.1.2.2.2.1
  have hts := F.1.2.2.2.2
  have hr := F.2.1
  have hlocks := F.2.2.1
  have hE := F.2.2.2.2.2.1
  have hA := F.2.2.2.2.2.2
  have hS : va_S A1 s.heap s.heap [] := va_S.rf
  have hl : lv_has ls 1 [(0, .ref a)] := hl
  have hO := hP
  refine lv_aload_n hx hb dJxc12de_init_da8c8_0 rfl (lv_at hl 0 rfl) ?_
  refine kcallI (n := 0) F (cI_coll l G A1 a hA1) wML_Jxc12de_1 wIM_Jxa1e45_init_da8c8 wIN_Jxa1e45 wCO_Jxa1e45_init_da8c8 rfl (by decide) rfl ⟨by decide, by decide⟩ hS (fun _ h => h) (fun q h => hA q (Nat.le_trans hS.1 h)) hO rfl hl.1 (Nat.le_of_ble_eq_true rfl) dJxc12de_init_da8c8_1 ⟨by decide, by decide⟩ (fun E ce q9 H1 locs1 hx9 _ _ _ _ _ => hx9.elim) (fun v H1 locs1 hv hk hS => ?_)
  obtain ⟨rfl, hO⟩ := hv
  refine lv_aload_n hx hb dJxc12de_init_da8c8_4 rfl (lv_at hl 0 rfl) ?_
  refine lv_iconst (v := 0) hx hb dJxc12de_init_da8c8_5 (by decide) ?_
  refine pJx4a65c F hS hO hA1 0 (by decide) wFL_Jxc12de_7 (fun _ h9 => h9) rfl rfl rfl (by simp) dJxc12de_init_da8c8_6 (fun H_1 locs1 hO z1 oq1 hS => ?_)
  have hO : va_at G.1 mcl (a, .inr (1, [.int 0, .null, .int 0])) H_1 := hO
  exact kvret hx hb hr hlocks hS (by decide) (by decide) dJxc12de_init_da8c8_9 (⟨rfl, hO⟩)

set_option maxHeartbeats 4000000 in
set_option maxRecDepth 100000 in
theorem cI_list (l : Launch) (G : GE) (A1 : Nat → Prop) (a : Nat) (hA1 : A1 a) : KM l G A1 yJx4a65c_init_da8c8 cJx4a65c_init_da8c8 1 none (rmL 3 0 0) [.ref a] (fun H => va_at G.1 mcl (a, .inr (1, [.int 0, .null, .int 0])) H) (fun v H => v = none ∧ va_at G.1 mcl (a, .inr (1, [.int 0, .ref G.2.2.1, .int 0])) H) (fun _ _ => False) := by
  refine KM.of (by decide) (Nat.le_of_ble_eq_true rfl) ?_
  intro p e s m args below meth c F hP ls hl
  have hx := F.1.1
  have hb := F.1.2.1
  have hown := F.1.2.2.2.1
  have hts := F.1.2.2.2.2
  have hr := F.2.1
  have hlocks := F.2.2.1
  have hE := F.2.2.2.2.2.1
  have hA := F.2.2.2.2.2.2
  have hS : va_S A1 s.heap s.heap [] := va_S.rf
  have hl : lv_has ls 1 [(0, .ref a)] := hl
  have hO := hP
  refine lv_aload_n hx hb dJx4a65c_init_da8c8_0 rfl (lv_at hl 0 rfl) ?_
  refine kcallI (n := 0) F (cI_alist l G A1 a hA1) wML_Jx4a65c_1 wIM_Jxc12de_init_da8c8 wIN_Jxc12de wCO_Jxc12de_init_da8c8 rfl (by decide) rfl ⟨by decide, by decide⟩ hS (fun _ h => h) (fun q h => hA q (Nat.le_trans hS.1 h)) hO rfl hl.1 (Nat.le_of_ble_eq_true rfl) dJx4a65c_init_da8c8_1 ⟨by decide, by decide⟩ (fun E ce q9 H1 locs1 hx9 _ _ _ _ _ => hx9.elim) (fun v H1 locs1 hv hk hS => ?_)
  obtain ⟨rfl, hO⟩ := hv
  refine lv_aload_n hx hb dJx4a65c_init_da8c8_4 rfl (lv_at hl 0 rfl) ?_
  refine va_gets hx hb hE.2.2.1.1 hS hown (hts _ wFL_Jx4a65c_39) (fun _ h9 => h9) dJx4a65c_init_da8c8_5 ?_
  refine pJx4a65c F hS hO hA1 1 (by decide) wFL_Jx4a65c_9 (fun _ h9 => h9) rfl rfl rfl (by simp) dJx4a65c_init_da8c8_8 (fun H_1 locs1 hO z1 oq1 hS => ?_)
  have hO : va_at G.1 mcl (a, .inr (1, [.int 0, .ref G.2.2.1, .int 0])) H_1 := hO
  exact kvret hx hb hr hlocks hS (by decide) (by decide) dJx4a65c_init_da8c8_11 (⟨rfl, hO⟩)

