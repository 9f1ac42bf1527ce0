set_option maxHeartbeats 4000000 in
set_option maxRecDepth 100000 in
theorem cB_init5 (l : Launch) (G : GE) (A1 : Nat → Prop) (aS sz : Nat) (hAS : A1 aS) : KM l G A1 yJ5_init_d00df cJ5_init_d00df 2 none (rmL 2 1 16) [.ref aS, .int 16] (fun H => H.size = sz ∧ va_at G.1 mcl (aS, .inr (0, [.null, .int 0, .int 0, .int 0])) H) (fun v H => v = none ∧ ∃ aV, sz ≤ aV ∧ va_at G.1 mcl (aS, .inr (0, [.ref aV, .int 0, .int 0, .int (nI 0)])) H ∧ va_at G.1 mcl (aV, .inl (G.2.1 7, 16, .inl (fun _ => 0))) H) (fun _ _ => False) := by
  refine KM.of (by decide) (Nat.le_of_ble_eq_true rfl) ?_
  intro p e s m args below meth c F hP ls hl
  have hx := F.1.1
  have hb := F.1.2.1
  have hown := F.1.2.2.2.1
  have hts := F.1.2.2.2.2
  have hr := F.2.1
  have hlocks := F.2.2.1
  have hE := F.2.2.2.2.2.1
  have hA := F.2.2.2.2.2.2
  have hS : va_S A1 s.heap s.heap [] := va_S.rf
  have hl : lv_has ls 2 [(0, .ref aS), (1, .int 16)] := hl
  obtain ⟨hsz, hO⟩ := hP
  refine lv_aload_n hx hb dJ5_init_d00df_0 rfl (lv_at hl 0 rfl) ?_
  refine W.objInit hx hb hown (hts _ wML_J5_3) (hts _ wz_62) (hts _ wCO_obj) rfl (by rw [F.1.2.2.1]; exact hl.1) rfl dJ5_init_d00df_1 (Nat.le_of_ble_eq_true rfl) (Nat.le_of_ble_eq_true rfl) ?_
  refine W.eq (g2 := F0 m 4 ls []) rfl ?_
  refine xgcs F hS wFL_J5_18 dJ5_init_d00df_4 ?_
  refine lv_if_eq (tgt := 25) hx hb dJ5_init_d00df_7 (by decide) (fun c_7_1 => ?_) (fun c_7_1 => ?_)
  · exact absurd c_7_1 (by decide)
  · refine lv_aload_n hx hb dJ5_init_d00df_10 rfl (lv_at hl 0 rfl) ?_
    refine lv_iload_n hx hb dJ5_init_d00df_11 rfl (lv_at hl 1 rfl) ?_
    refine xnewa hx hb (atype := .byte) (ty := .byte) rfl (hts _ wAC_byte) hE.1.1 7 rfl (fun h => h) hS (a0 := (16, .inl (fun _ => 0))) rfl (n := 16) (N := 16) (by decide) (by decide) (by decide) (Nat.le_of_ble_eq_true rfl) (Nat.le_of_ble_eq_true rfl) dJ5_init_d00df_12 (fun H1 hV z1 oq1 hS => ?_)
    have hne := Nat.ne_of_lt hO.lt
    have hO := hO.kept (oq1 _ hO.lt)
    obtain ⟨aV, eV⟩ : ∃ a, a = s.heap.size := ⟨_, rfl⟩
    rw [← eV] at hV hne ⊢
    refine pJ4 F hS hO hAS 0 (by decide) wFL_J5_15 (fun _ h9 => h9) rfl rfl rfl (by simp) dJ5_init_d00df_14 (fun H_2 locs1 hO z1 oq1 hS => ?_)
    have hO : va_at G.1 mcl (aS, .inr (0, [.ref aV, .int 0, .int 0, .int 0])) H_2 := hO
    have hV := hV.kept (oq1 _ (Ne.symm hne))
    refine lv_aload_n hx hb dJ5_init_d00df_17 rfl (lv_at hl 0 rfl) ?_
    refine lv_iconst (v := 0) hx hb dJ5_init_d00df_18 (by decide) ?_
    refine pJ4 F hS hO hAS 1 (by decide) wFL_J5_22 (fun _ h9 => h9) rfl rfl rfl (by simp) dJ5_init_d00df_19 (fun H_3 locs1 hO z1 oq1 hS => ?_)
    have hO : va_at G.1 mcl (aS, .inr (0, [.ref aV, .int 0, .int 0, .int 0])) H_3 := hO
    have hV := hV.kept (oq1 _ (Ne.symm hne))
    refine lv_goto (tgt := 38) hx hb dJ5_init_d00df_22 (by decide) ?_
    exact kvret hx hb hr hlocks hS (by decide) (by decide) dJ5_init_d00df_38 (⟨rfl, aV, by omega, hO, hV⟩)

set_option maxHeartbeats 4000000 in
set_option maxRecDepth 100000 in
theorem cB_init (l : Launch) (G : GE) (A1 : Nat → Prop) (aS sz : Nat) (hAS : A1 aS) : KM l G A1 yJ4_init_da8c8 cJ4_init_da8c8 1 none (rmL 3 1 16) [.ref aS] (fun H => H.size = sz ∧ va_at G.1 mcl (aS, .inr (0, [.null, .int 0, .int 0, .int 0])) H) (fun v H => v = none ∧ ∃ aV, sz ≤ aV ∧ va_at G.1 mcl (aS, .inr (0, [.ref aV, .int 0, .int 0, .int (nI 0)])) H ∧ va_at G.1 mcl (aV, .inl (G.2.1 7, 16, .inl (fun _ => 0))) H) (fun _ _ => False) := by
  refine KM.of (by decide) (Nat.le_of_ble_eq_true rfl) ?_
  intro p e s m args below meth c F hP ls hl
  have hx := F.1.1
  have hb := F.1.2.1
  have hown := F.1.2.2.2.1
  have hts := F.1.2.2.2.2
  have hr := F.2.1
  have hlocks := F.2.2.1
  have hE := F.2.2.2.2.2.1
  have hA := F.2.2.2.2.2.2
  have hS : va_S A1 s.heap s.heap [] := va_S.rf
  have hl : lv_has ls 1 [(0, .ref aS)] := hl
  obtain ⟨hsz, hO⟩ := hP
  refine lv_aload_n hx hb dJ4_init_da8c8_0 rfl (lv_at hl 0 rfl) ?_
  refine lv_bipush (v := 16) hx hb dJ4_init_da8c8_1 (by decide) ?_
  refine kcallI (n := 1) F (cB_init5 l G A1 aS sz hAS) wML_J4_1 wIM_J5_init_d00df wIN_J5 wCO_J5_init_d00df rfl (by decide) rfl ⟨by decide, by decide⟩ hS (fun _ h => h) hA ⟨hsz, hO⟩ rfl hl.1 (Nat.le_of_ble_eq_true rfl) dJ4_init_da8c8_3 ⟨by decide, by decide⟩ (fun E ce q9 H1 locs1 hx9 _ _ _ _ _ => hx9.elim) (fun v H1 locs1 hv hk hS => ?_)
  obtain ⟨rfl, hv⟩ := hv
  exact kvret hx hb hr hlocks hS (by decide) (by decide) dJ4_init_da8c8_6 (⟨rfl, hv⟩)

