set_option maxHeartbeats 4000000 in
set_option maxRecDepth 100000 in
theorem hD_buy (l : Launch) (G : GE) (A : Nat → Prop) (hl9 : l.stackTraces = false) (a0 : Nat) (τ τ' : SG) (x : Int32) (nT nW N : Nat) (hh : Int32) (hcm : cm_buy τ nT hh x τ') : HM l G A yL_does cL_does 6 (some .int) [(0, 148, 149, 72), (0, 148, 154, 74), (0, 148, 159, 76)] (rmL 10 6 250) [.ref a0, .int 0, .int hh, .int 0, .int 0] (CST G A a0 τ nT nW N) (fun v H => v = some (.int (dres (τ' 27 0) x)) ∧ ∃ nT' nW', CST G A a0 τ' nT' nW' (N + 1) H) := by
  refine HM.of (by decide) (Nat.le_of_ble_eq_true rfl) ?_
  intro p e s m args below meth c F hP ls hl
  obtain ⟨ad, σ, qs, f, D, rfl, hPX, hR, hI⟩ := hP
  have h80 : nT ≤ 80 ∧ nW ≤ 12 ∧ f ≤ nT := ⟨hR.1.2.2.1, hR.1.2.2.2.2.2.1, hR.1.2.1⟩
  have hx := F.1.1
  have hb := F.1.2.1
  have hown := F.1.2.2.2.1
  have hts := F.1.2.2.2.2
  have hr := F.2.1
  have hlocks := F.2.2.1
  have hE := F.2.2.2.2.1
  have hN := F.2.2.2.2.2.1
  have hA := F.2.2.2.2.2.2
  have hS : va_S A s.heap s.heap [] := va_S.rf
  have hl : lv_has ls 6 [(0, .ref (ad 0 0)), (1, .int 0), (2, .int hh), (3, .int 0), (4, .int 0)] := hl
  refine lv_iload_n hx hb dL_does_0 rfl (lv_at hl 1 rfl) ?_
  refine lv_if_ne (tgt := 12) hx hb dL_does_1 (by decide) (fun c_1_1 => ?_) (fun c_1_1 => ?_)
  · exact absurd c_1_1 (by decide)
  · refine lv_aload_n hx hb dL_does_4 rfl (lv_at hl 0 rfl) ?_
    refine lv_iload_n hx hb dL_does_5 rfl (lv_at hl 2 rfl) ?_
    refine hcallV (n := 1) F.1 hE (kP_buy l G A ad σ qs nT nW hl9 hh h80.1) wML_L_36 wIM_X5_buy wSE_X5_X5_buy wIN_X5 wCO_X5_buy (by decide) rfl ⟨by decide, by decide⟩ (orec hE (hPX.main rfl) (show mcl[7]? = some (RX5, TX5, 8) from rfl)) hS (fun q h => h) (fun q h => hA q (Nat.le_trans hS.1 h)) hPX rfl hl.1 (Nat.le_of_ble_eq_true rfl) dL_does_6 ⟨by decide, by decide⟩ (fun E ce q9 H1 locs1 hx9 hk hS hc9 hv9 hf9 => ?_) (fun v H1 locs1 hv hk hS => ?_)
    · rcases sx_buy hR hI hx9 hcm with ⟨rfl, e27, ad', σ', qs', nT', nW', f', D', ea', hP2, hR2, hI2⟩ | ⟨rfl, e27, ad', σ', qs', nT', nW', f', D', ea', hP2, hR2, hI2⟩
      · refine vx_catch (own := RL) (name := xIO) F.1.2.2.2.1 [] ⟨0, 148, 149, 72⟩ [⟨0, 148, 154, 74⟩, ⟨0, 148, 159, 76⟩] (by rw [F.2.2.2.1]; rfl) (fun z hz => absurd hz List.not_mem_nil) (by decide) (by decide) (hts _ wCL_L_72) (va_Nw.use rfl (hE.1.2.1 (xIO, xIO) (by simp [nwCast]))) hc9 hv9 hf9 ?_
        refine W.eq (g2 := F0 m 149 ls [.ref q9]) rfl ?_
        refine lv_astore (lv' := [(5, .ref q9), (0, .ref (ad 0 0)), (1, .int 0), (2, .int hh), (3, .int 0), (4, .int 0)]) hx hb dL_does_149 hl (by decide) rfl (fun ls hl => ?_)
        refine lv_bipush (v := (-11)) hx hb dL_does_151 (by decide) ?_
        exact kiret hx hb hr hlocks hS (by decide) (by decide) dL_does_153 (⟨by rw [e27]; rfl, nT', nW', ad', σ', qs', f', D', ea', hP2, hR2, hI2⟩)
      · refine vx_catch (own := RL) (name := xIS) F.1.2.2.2.1 [⟨0, 148, 149, 72⟩, ⟨0, 148, 154, 74⟩] ⟨0, 148, 159, 76⟩ [] (by rw [F.2.2.2.1]; rfl) (fun z hz => by
          simp only [List.mem_cons, List.not_mem_nil, or_false] at hz
          rcases hz with rfl | rfl
          · exact Or.inr ⟨by decide, xIO, hts _ wCL_L_72, hN (xIS, xIO) (by simp [nwNot])⟩
          · exact Or.inr ⟨by decide, xIA, hts _ wCL_L_74, hN (xIS, xIA) (by simp [nwNot])⟩) (by decide) (by decide) (hts _ wCL_L_76) (va_Nw.use rfl (hE.1.2.1 (xIS, xIS) (by simp [nwCast]))) hc9 hv9 hf9 ?_
        refine W.eq (g2 := F0 m 159 ls [.ref q9]) rfl ?_
        refine lv_astore (lv' := [(5, .ref q9), (0, .ref (ad 0 0)), (1, .int 0), (2, .int hh), (3, .int 0), (4, .int 0)]) hx hb dL_does_159 hl (by decide) rfl (fun ls hl => ?_)
        refine lv_bipush (v := (-13)) hx hb dL_does_161 (by decide) ?_
        exact kiret hx hb hr hlocks hS (by decide) (by decide) dL_does_163 (⟨by rw [e27]; rfl, nT', nW', ad', σ', qs', f', D', ea', hP2, hR2, hI2⟩)
    · obtain ⟨e27, rfl, ad', σ', qs', nT', nW', f', D', ea', hP2, hR2, hI2⟩ := st_buy hR hI hv hcm
      refine lv_goto (tgt := 148) hx hb dL_does_9 (by decide) ?_
      exact kiret hx hb hr hlocks hS (by decide) (by decide) dL_does_148 (⟨by rw [e27]; rfl, nT', nW', ad', σ', qs', f', D', ea', hP2, hR2, hI2⟩)
set_option maxHeartbeats 4000000 in
set_option maxRecDepth 100000 in
theorem hD_admitM (l : Launch) (G : GE) (A : Nat → Prop) (hl9 : l.stackTraces = false) (a0 : Nat) (τ τ' : SG) (x : Int32) (nT nW N : Nat) (vm : Int32) (hcm : cm_admitM τ nT vm x τ') : HM l G A yL_does cL_does 6 (some .int) [(0, 148, 149, 72), (0, 148, 154, 74), (0, 148, 159, 76)] (rmL 10 6 250) [.ref a0, .int 1, .int vm, .int 0, .int 0] (CST G A a0 τ nT nW N) (fun v H => v = some (.int (dres (τ' 27 0) x)) ∧ ∃ nT' nW', CST G A a0 τ' nT' nW' (N + 1) H) := by
  refine HM.of (by decide) (Nat.le_of_ble_eq_true rfl) ?_
  intro p e s m args below meth c F hP ls hl
  obtain ⟨ad, σ, qs, f, D, rfl, hPX, hR, hI⟩ := hP
  have h80 : nT ≤ 80 ∧ nW ≤ 12 ∧ f ≤ nT := ⟨hR.1.2.2.1, hR.1.2.2.2.2.2.1, hR.1.2.1⟩
  have hx := F.1.1
  have hb := F.1.2.1
  have hown := F.1.2.2.2.1
  have hts := F.1.2.2.2.2
  have hr := F.2.1
  have hlocks := F.2.2.1
  have hE := F.2.2.2.2.1
  have hN := F.2.2.2.2.2.1
  have hA := F.2.2.2.2.2.2
  have hS : va_S A s.heap s.heap [] := va_S.rf
  have hl : lv_has ls 6 [(0, .ref (ad 0 0)), (1, .int 1), (2, .int vm), (3, .int 0), (4, .int 0)] := hl
  refine lv_iload_n hx hb dL_does_0 rfl (lv_at hl 1 rfl) ?_
  refine lv_if_ne (tgt := 12) hx hb dL_does_1 (by decide) (fun c_1_1 => ?_) (fun c_1_1 => ?_)
  · refine lv_iload_n hx hb dL_does_12 rfl (lv_at hl 1 rfl) ?_
    refine lv_iconst (v := 1) hx hb dL_does_13 (by decide) ?_
    refine lv_icmp_ne (tgt := 35) hx hb dL_does_14 (by decide) (fun c_14_2 => ?_) (fun c_14_2 => ?_)
    · exact absurd c_14_2 (by decide)
    · refine lv_aload_n hx hb dL_does_17 rfl (lv_at hl 0 rfl) ?_
      refine lv_iload_n hx hb dL_does_18 rfl (lv_at hl 2 rfl) ?_
      refine lv_iload_n hx hb dL_does_19 rfl (lv_at hl 3 rfl) ?_
      refine lv_iconst (v := 1) hx hb dL_does_20 (by decide) ?_
      refine lv_icmp_ne (tgt := 28) hx hb dL_does_21 (by decide) (fun c_21_3 => ?_) (fun c_21_3 => ?_)
      · refine lv_iconst (v := 0) hx hb dL_does_28 (by decide) ?_
        refine hcallV (n := 2) F.1 hE (kP_admitM l G A ad σ qs nT nW hl9 vm f hR.1.1 h80.2.2 h80.1) wML_L_41 wIM_X5_admit wSE_X5_X5_admit wIN_X5 wCO_X5_admit (by decide) rfl ⟨by decide, by decide⟩ (orec hE (hPX.main rfl) (show mcl[7]? = some (RX5, TX5, 8) from rfl)) hS (fun q h => h) (fun q h => hA q (Nat.le_trans hS.1 h)) hPX rfl hl.1 (Nat.le_of_ble_eq_true rfl) dL_does_29 ⟨by decide, by decide⟩ (fun E ce q9 H1 locs1 hx9 hk hS hc9 hv9 hf9 => ?_) (fun v H1 locs1 hv hk hS => ?_)
        · rcases sx_admitM hR hI hx9 hcm with ⟨rfl, e27, ad', σ', qs', nT', nW', f', D', ea', hP2, hR2, hI2⟩ | ⟨rfl, e27, ad', σ', qs', nT', nW', f', D', ea', hP2, hR2, hI2⟩
          · refine vx_catch (own := RL) (name := xIO) F.1.2.2.2.1 [] ⟨0, 148, 149, 72⟩ [⟨0, 148, 154, 74⟩, ⟨0, 148, 159, 76⟩] (by rw [F.2.2.2.1]; rfl) (fun z hz => absurd hz List.not_mem_nil) (by decide) (by decide) (hts _ wCL_L_72) (va_Nw.use rfl (hE.1.2.1 (xIO, xIO) (by simp [nwCast]))) hc9 hv9 hf9 ?_
            refine W.eq (g2 := F0 m 149 ls [.ref q9]) rfl ?_
            refine lv_astore (lv' := [(5, .ref q9), (0, .ref (ad 0 0)), (1, .int 1), (2, .int vm), (3, .int 0), (4, .int 0)]) hx hb dL_does_149 hl (by decide) rfl (fun ls hl => ?_)
            refine lv_bipush (v := (-11)) hx hb dL_does_151 (by decide) ?_
            exact kiret hx hb hr hlocks hS (by decide) (by decide) dL_does_153 (⟨by rw [e27]; rfl, nT', nW', ad', σ', qs', f', D', ea', hP2, hR2, hI2⟩)
          · refine vx_catch (own := RL) (name := xIS) F.1.2.2.2.1 [⟨0, 148, 149, 72⟩, ⟨0, 148, 154, 74⟩] ⟨0, 148, 159, 76⟩ [] (by rw [F.2.2.2.1]; rfl) (fun z hz => by
              simp only [List.mem_cons, List.not_mem_nil, or_false] at hz
              rcases hz with rfl | rfl
              · exact Or.inr ⟨by decide, xIO, hts _ wCL_L_72, hN (xIS, xIO) (by simp [nwNot])⟩
              · exact Or.inr ⟨by decide, xIA, hts _ wCL_L_74, hN (xIS, xIA) (by simp [nwNot])⟩) (by decide) (by decide) (hts _ wCL_L_76) (va_Nw.use rfl (hE.1.2.1 (xIS, xIS) (by simp [nwCast]))) hc9 hv9 hf9 ?_
            refine W.eq (g2 := F0 m 159 ls [.ref q9]) rfl ?_
            refine lv_astore (lv' := [(5, .ref q9), (0, .ref (ad 0 0)), (1, .int 1), (2, .int vm), (3, .int 0), (4, .int 0)]) hx hb dL_does_159 hl (by decide) rfl (fun ls hl => ?_)
            refine lv_bipush (v := (-13)) hx hb dL_does_161 (by decide) ?_
            exact kiret hx hb hr hlocks hS (by decide) (by decide) dL_does_163 (⟨by rw [e27]; rfl, nT', nW', ad', σ', qs', f', D', ea', hP2, hR2, hI2⟩)
        · obtain ⟨e27, rfl, ad', σ', qs', nT', nW', f', D', ea', hP2, hR2, hI2⟩ := st_admitM hR hI hv hcm
          refine lv_goto (tgt := 148) hx hb dL_does_32 (by decide) ?_
          exact kiret hx hb hr hlocks hS (by decide) (by decide) dL_does_148 (⟨by rw [e27]; rfl, nT', nW', ad', σ', qs', f', D', ea', hP2, hR2, hI2⟩)
      · exact absurd c_21_3 (by decide)
  · exact absurd c_1_1 (by decide)
set_option maxHeartbeats 4000000 in
set_option maxRecDepth 100000 in
theorem hD_admitG (l : Launch) (G : GE) (A : Nat → Prop) (hl9 : l.stackTraces = false) (a0 : Nat) (τ τ' : SG) (x : Int32) (nT nW N : Nat) (vm : Int32) (hcm : cm_admitG τ nT vm x τ') : HM l G A yL_does cL_does 6 (some .int) [(0, 148, 149, 72), (0, 148, 154, 74), (0, 148, 159, 76)] (rmL 10 6 250) [.ref a0, .int 1, .int vm, .int 1, .int 0] (CST G A a0 τ nT nW N) (fun v H => v = some (.int (dres (τ' 27 0) x)) ∧ ∃ nT' nW', CST G A a0 τ' nT' nW' (N + 1) H) := by
  refine HM.of (by decide) (Nat.le_of_ble_eq_true rfl) ?_
  intro p e s m args below meth c F hP ls hl
  obtain ⟨ad, σ, qs, f, D, rfl, hPX, hR, hI⟩ := hP
  have h80 : nT ≤ 80 ∧ nW ≤ 12 ∧ f ≤ nT := ⟨hR.1.2.2.1, hR.1.2.2.2.2.2.1, hR.1.2.1⟩
  have hx := F.1.1
  have hb := F.1.2.1
  have hown := F.1.2.2.2.1
  have hts := F.1.2.2.2.2
  have hr := F.2.1
  have hlocks := F.2.2.1
  have hE := F.2.2.2.2.1
  have hN := F.2.2.2.2.2.1
  have hA := F.2.2.2.2.2.2
  have hS : va_S A s.heap s.heap [] := va_S.rf
  have hl : lv_has ls 6 [(0, .ref (ad 0 0)), (1, .int 1), (2, .int vm), (3, .int 1), (4, .int 0)] := hl
  refine lv_iload_n hx hb dL_does_0 rfl (lv_at hl 1 rfl) ?_
  refine lv_if_ne (tgt := 12) hx hb dL_does_1 (by decide) (fun c_1_1 => ?_) (fun c_1_1 => ?_)
  · refine lv_iload_n hx hb dL_does_12 rfl (lv_at hl 1 rfl) ?_
    refine lv_iconst (v := 1) hx hb dL_does_13 (by decide) ?_
    refine lv_icmp_ne (tgt := 35) hx hb dL_does_14 (by decide) (fun c_14_2 => ?_) (fun c_14_2 => ?_)
    · exact absurd c_14_2 (by decide)
    · refine lv_aload_n hx hb dL_does_17 rfl (lv_at hl 0 rfl) ?_
      refine lv_iload_n hx hb dL_does_18 rfl (lv_at hl 2 rfl) ?_
      refine lv_iload_n hx hb dL_does_19 rfl (lv_at hl 3 rfl) ?_
      refine lv_iconst (v := 1) hx hb dL_does_20 (by decide) ?_
      refine lv_icmp_ne (tgt := 28) hx hb dL_does_21 (by decide) (fun c_21_3 => ?_) (fun c_21_3 => ?_)
      · exact absurd c_21_3 (by decide)
      · refine lv_iconst (v := 1) hx hb dL_does_24 (by decide) ?_
        refine lv_goto (tgt := 29) hx hb dL_does_25 (by decide) ?_
        refine hcallV (n := 2) F.1 hE (kP_admitG l G A ad σ qs nT nW hl9 vm f hR.1.1 h80.2.2 h80.1) wML_L_41 wIM_X5_admit wSE_X5_X5_admit wIN_X5 wCO_X5_admit (by decide) rfl ⟨by decide, by decide⟩ (orec hE (hPX.main rfl) (show mcl[7]? = some (RX5, TX5, 8) from rfl)) hS (fun q h => h) (fun q h => hA q (Nat.le_trans hS.1 h)) hPX rfl hl.1 (Nat.le_of_ble_eq_true rfl) dL_does_29 ⟨by decide, by decide⟩ (fun E ce q9 H1 locs1 hx9 hk hS hc9 hv9 hf9 => ?_) (fun v H1 locs1 hv hk hS => ?_)
        · rcases sx_admitG hR hI hx9 hcm with ⟨rfl, e27, ad', σ', qs', nT', nW', f', D', ea', hP2, hR2, hI2⟩ | ⟨rfl, e27, ad', σ', qs', nT', nW', f', D', ea', hP2, hR2, hI2⟩
          · refine vx_catch (own := RL) (name := xIO) F.1.2.2.2.1 [] ⟨0, 148, 149, 72⟩ [⟨0, 148, 154, 74⟩, ⟨0, 148, 159, 76⟩] (by rw [F.2.2.2.1]; rfl) (fun z hz => absurd hz List.not_mem_nil) (by decide) (by decide) (hts _ wCL_L_72) (va_Nw.use rfl (hE.1.2.1 (xIO, xIO) (by simp [nwCast]))) hc9 hv9 hf9 ?_
            refine W.eq (g2 := F0 m 149 ls [.ref q9]) rfl ?_
            refine lv_astore (lv' := [(5, .ref q9), (0, .ref (ad 0 0)), (1, .int 1), (2, .int vm), (3, .int 1), (4, .int 0)]) hx hb dL_does_149 hl (by decide) rfl (fun ls hl => ?_)
            refine lv_bipush (v := (-11)) hx hb dL_does_151 (by decide) ?_
            exact kiret hx hb hr hlocks hS (by decide) (by decide) dL_does_153 (⟨by rw [e27]; rfl, nT', nW', ad', σ', qs', f', D', ea', hP2, hR2, hI2⟩)
          · refine vx_catch (own := RL) (name := xIS) F.1.2.2.2.1 [⟨0, 148, 149, 72⟩, ⟨0, 148, 154, 74⟩] ⟨0, 148, 159, 76⟩ [] (by rw [F.2.2.2.1]; rfl) (fun z hz => by
              simp only [List.mem_cons, List.not_mem_nil, or_false] at hz
              rcases hz with rfl | rfl
              · exact Or.inr ⟨by decide, xIO, hts _ wCL_L_72, hN (xIS, xIO) (by simp [nwNot])⟩
              · exact Or.inr ⟨by decide, xIA, hts _ wCL_L_74, hN (xIS, xIA) (by simp [nwNot])⟩) (by decide) (by decide) (hts _ wCL_L_76) (va_Nw.use rfl (hE.1.2.1 (xIS, xIS) (by simp [nwCast]))) hc9 hv9 hf9 ?_
            refine W.eq (g2 := F0 m 159 ls [.ref q9]) rfl ?_
            refine lv_astore (lv' := [(5, .ref q9), (0, .ref (ad 0 0)), (1, .int 1), (2, .int vm), (3, .int 1), (4, .int 0)]) hx hb dL_does_159 hl (by decide) rfl (fun ls hl => ?_)
            refine lv_bipush (v := (-13)) hx hb dL_does_161 (by decide) ?_
            exact kiret hx hb hr hlocks hS (by decide) (by decide) dL_does_163 (⟨by rw [e27]; rfl, nT', nW', ad', σ', qs', f', D', ea', hP2, hR2, hI2⟩)
        · obtain ⟨e27, rfl, ad', σ', qs', nT', nW', f', D', ea', hP2, hR2, hI2⟩ := st_admitG hR hI hv hcm
          refine lv_goto (tgt := 148) hx hb dL_does_32 (by decide) ?_
          exact kiret hx hb hr hlocks hS (by decide) (by decide) dL_does_148 (⟨by rw [e27]; rfl, nT', nW', ad', σ', qs', f', D', ea', hP2, hR2, hI2⟩)
  · exact absurd c_1_1 (by decide)
set_option maxHeartbeats 4000000 in
set_option maxRecDepth 100000 in
theorem hD_giveBack (l : Launch) (G : GE) (A : Nat → Prop) (hl9 : l.stackTraces = false) (a0 : Nat) (τ τ' : SG) (x : Int32) (nT nW N : Nat) (vt : Int32) (hcm : cm_giveBack τ nT vt x τ') : HM l G A yL_does cL_does 6 (some .int) [(0, 148, 149, 72), (0, 148, 154, 74), (0, 148, 159, 76)] (rmL 7 3 18) [.ref a0, .int 2, .int vt, .int 0, .int 0] (CST G A a0 τ nT nW N) (fun v H => v = some (.int (dres (τ' 27 0) x)) ∧ ∃ nT' nW', CST G A a0 τ' nT' nW' (N + 1) H) := by
  refine HM.of (by decide) (Nat.le_of_ble_eq_true rfl) ?_
  intro p e s m args below meth c F hP ls hl
  obtain ⟨ad, σ, qs, f, D, rfl, hPX, hR, hI⟩ := hP
  have h80 : nT ≤ 80 ∧ nW ≤ 12 ∧ f ≤ nT := ⟨hR.1.2.2.1, hR.1.2.2.2.2.2.1, hR.1.2.1⟩
  have hx := F.1.1
  have hb := F.1.2.1
  have hown := F.1.2.2.2.1
  have hts := F.1.2.2.2.2
  have hr := F.2.1
  have hlocks := F.2.2.1
  have hE := F.2.2.2.2.1
  have hN := F.2.2.2.2.2.1
  have hA := F.2.2.2.2.2.2
  have hS : va_S A s.heap s.heap [] := va_S.rf
  have hl : lv_has ls 6 [(0, .ref (ad 0 0)), (1, .int 2), (2, .int vt), (3, .int 0), (4, .int 0)] := hl
  refine lv_iload_n hx hb dL_does_0 rfl (lv_at hl 1 rfl) ?_
  refine lv_if_ne (tgt := 12) hx hb dL_does_1 (by decide) (fun c_1_1 => ?_) (fun c_1_1 => ?_)
  · refine lv_iload_n hx hb dL_does_12 rfl (lv_at hl 1 rfl) ?_
    refine lv_iconst (v := 1) hx hb dL_does_13 (by decide) ?_
    refine lv_icmp_ne (tgt := 35) hx hb dL_does_14 (by decide) (fun c_14_2 => ?_) (fun c_14_2 => ?_)
    · refine lv_iload_n hx hb dL_does_35 rfl (lv_at hl 1 rfl) ?_
      refine lv_iconst (v := 2) hx hb dL_does_36 (by decide) ?_
      refine lv_icmp_ne (tgt := 48) hx hb dL_does_37 (by decide) (fun c_37_3 => ?_) (fun c_37_3 => ?_)
      · exact absurd c_37_3 (by decide)
      · refine lv_aload_n hx hb dL_does_40 rfl (lv_at hl 0 rfl) ?_
        refine lv_iload_n hx hb dL_does_41 rfl (lv_at hl 2 rfl) ?_
        refine hcallV (n := 1) F.1 hE (kP_giveBack l G A ad σ qs nT nW hl9 vt h80.1) wML_L_45 wIM_X5_giveBack wSE_X5_X5_giveBack wIN_X5 wCO_X5_giveBack (by decide) rfl ⟨by decide, by decide⟩ (orec hE (hPX.main rfl) (show mcl[7]? = some (RX5, TX5, 8) from rfl)) hS (fun q h => h) (fun q h => hA q (Nat.le_trans hS.1 h)) hPX rfl hl.1 (Nat.le_of_ble_eq_true rfl) dL_does_42 ⟨by decide, by decide⟩ (fun E ce q9 H1 locs1 hx9 hk hS hc9 hv9 hf9 => ?_) (fun v H1 locs1 hv hk hS => ?_)
        · rcases sx_giveBack hR hI hx9 hcm with ⟨rfl, e27, ad', σ', qs', nT', nW', f', D', ea', hP2, hR2, hI2⟩ | ⟨rfl, e27, ad', σ', qs', nT', nW', f', D', ea', hP2, hR2, hI2⟩
          · refine vx_catch (own := RL) (name := xIO) F.1.2.2.2.1 [] ⟨0, 148, 149, 72⟩ [⟨0, 148, 154, 74⟩, ⟨0, 148, 159, 76⟩] (by rw [F.2.2.2.1]; rfl) (fun z hz => absurd hz List.not_mem_nil) (by decide) (by decide) (hts _ wCL_L_72) (va_Nw.use rfl (hE.1.2.1 (xIO, xIO) (by simp [nwCast]))) hc9 hv9 hf9 ?_
            refine W.eq (g2 := F0 m 149 ls [.ref q9]) rfl ?_
            refine lv_astore (lv' := [(5, .ref q9), (0, .ref (ad 0 0)), (1, .int 2), (2, .int vt), (3, .int 0), (4, .int 0)]) hx hb dL_does_149 hl (by decide) rfl (fun ls hl => ?_)
            refine lv_bipush (v := (-11)) hx hb dL_does_151 (by decide) ?_
            exact kiret hx hb hr hlocks hS (by decide) (by decide) dL_does_153 (⟨by rw [e27]; rfl, nT', nW', ad', σ', qs', f', D', ea', hP2, hR2, hI2⟩)
          · refine vx_catch (own := RL) (name := xIS) F.1.2.2.2.1 [⟨0, 148, 149, 72⟩, ⟨0, 148, 154, 74⟩] ⟨0, 148, 159, 76⟩ [] (by rw [F.2.2.2.1]; rfl) (fun z hz => by
              simp only [List.mem_cons, List.not_mem_nil, or_false] at hz
              rcases hz with rfl | rfl
              · exact Or.inr ⟨by decide, xIO, hts _ wCL_L_72, hN (xIS, xIO) (by simp [nwNot])⟩
              · exact Or.inr ⟨by decide, xIA, hts _ wCL_L_74, hN (xIS, xIA) (by simp [nwNot])⟩) (by decide) (by decide) (hts _ wCL_L_76) (va_Nw.use rfl (hE.1.2.1 (xIS, xIS) (by simp [nwCast]))) hc9 hv9 hf9 ?_
            refine W.eq (g2 := F0 m 159 ls [.ref q9]) rfl ?_
            refine lv_astore (lv' := [(5, .ref q9), (0, .ref (ad 0 0)), (1, .int 2), (2, .int vt), (3, .int 0), (4, .int 0)]) hx hb dL_does_159 hl (by decide) rfl (fun ls hl => ?_)
            refine lv_bipush (v := (-13)) hx hb dL_does_161 (by decide) ?_
            exact kiret hx hb hr hlocks hS (by decide) (by decide) dL_does_163 (⟨by rw [e27]; rfl, nT', nW', ad', σ', qs', f', D', ea', hP2, hR2, hI2⟩)
        · obtain ⟨e27, rfl, ad', σ', qs', nT', nW', f', D', ea', hP2, hR2, hI2⟩ := st_giveBack hR hI hv hcm
          refine lv_goto (tgt := 148) hx hb dL_does_45 (by decide) ?_
          exact kiret hx hb hr hlocks hS (by decide) (by decide) dL_does_148 (⟨by rw [e27]; rfl, nT', nW', ad', σ', qs', f', D', ea', hP2, hR2, hI2⟩)
    · exact absurd c_14_2 (by decide)
  · exact absurd c_1_1 (by decide)
set_option maxHeartbeats 4000000 in
set_option maxRecDepth 100000 in
theorem hD_join (l : Launch) (G : GE) (A : Nat → Prop) (hl9 : l.stackTraces = false) (a0 : Nat) (τ τ' : SG) (x : Int32) (nT nW N : Nat) (vm : Int32) (hcm : cm_join τ vm x τ') : HM l G A yL_does cL_does 6 (some .int) [(0, 148, 149, 72), (0, 148, 154, 74), (0, 148, 159, 76)] (rmL 6 2 12) [.ref a0, .int 3, .int vm, .int 0, .int 0] (CST G A a0 τ nT nW N) (fun v H => v = some (.int (dres (τ' 27 0) x)) ∧ ∃ nT' nW', CST G A a0 τ' nT' nW' (N + 1) H) := by
  refine HM.of (by decide) (Nat.le_of_ble_eq_true rfl) ?_
  intro p e s m args below meth c F hP ls hl
  obtain ⟨ad, σ, qs, f, D, rfl, hPX, hR, hI⟩ := hP
  have h80 : nT ≤ 80 ∧ nW ≤ 12 ∧ f ≤ nT := ⟨hR.1.2.2.1, hR.1.2.2.2.2.2.1, hR.1.2.1⟩
  have hx := F.1.1
  have hb := F.1.2.1
  have hown := F.1.2.2.2.1
  have hts := F.1.2.2.2.2
  have hr := F.2.1
  have hlocks := F.2.2.1
  have hE := F.2.2.2.2.1
  have hN := F.2.2.2.2.2.1
  have hA := F.2.2.2.2.2.2
  have hS : va_S A s.heap s.heap [] := va_S.rf
  have hl : lv_has ls 6 [(0, .ref (ad 0 0)), (1, .int 3), (2, .int vm), (3, .int 0), (4, .int 0)] := hl
  refine lv_iload_n hx hb dL_does_0 rfl (lv_at hl 1 rfl) ?_
  refine lv_if_ne (tgt := 12) hx hb dL_does_1 (by decide) (fun c_1_1 => ?_) (fun c_1_1 => ?_)
  · refine lv_iload_n hx hb dL_does_12 rfl (lv_at hl 1 rfl) ?_
    refine lv_iconst (v := 1) hx hb dL_does_13 (by decide) ?_
    refine lv_icmp_ne (tgt := 35) hx hb dL_does_14 (by decide) (fun c_14_2 => ?_) (fun c_14_2 => ?_)
    · refine lv_iload_n hx hb dL_does_35 rfl (lv_at hl 1 rfl) ?_
      refine lv_iconst (v := 2) hx hb dL_does_36 (by decide) ?_
      refine lv_icmp_ne (tgt := 48) hx hb dL_does_37 (by decide) (fun c_37_3 => ?_) (fun c_37_3 => ?_)
      · refine lv_iload_n hx hb dL_does_48 rfl (lv_at hl 1 rfl) ?_
        refine lv_iconst (v := 3) hx hb dL_does_49 (by decide) ?_
        refine lv_icmp_ne (tgt := 61) hx hb dL_does_50 (by decide) (fun c_50_4 => ?_) (fun c_50_4 => ?_)
        · exact absurd c_50_4 (by decide)
        · refine lv_aload_n hx hb dL_does_53 rfl (lv_at hl 0 rfl) ?_
          refine lv_iload_n hx hb dL_does_54 rfl (lv_at hl 2 rfl) ?_
          refine hcallV (n := 1) F.1 hE (kP_join l G A ad σ qs nT nW hl9 vm) wML_L_48 wIM_X5_join wSE_X5_X5_join wIN_X5 wCO_X5_join (by decide) rfl ⟨by decide, by decide⟩ (orec hE (hPX.main rfl) (show mcl[7]? = some (RX5, TX5, 8) from rfl)) hS (fun q h => h) (fun q h => hA q (Nat.le_trans hS.1 h)) hPX rfl hl.1 (Nat.le_of_ble_eq_true rfl) dL_does_55 ⟨by decide, by decide⟩ (fun E ce q9 H1 locs1 hx9 hk hS hc9 hv9 hf9 => ?_) (fun v H1 locs1 hv hk hS => ?_)
          · rcases sx_join hR hI hx9 hcm with ⟨rfl, e27, ad', σ', qs', nT', nW', f', D', ea', hP2, hR2, hI2⟩ | ⟨rfl, e27, ad', σ', qs', nT', nW', f', D', ea', hP2, hR2, hI2⟩
            · refine vx_catch (own := RL) (name := xIO) F.1.2.2.2.1 [] ⟨0, 148, 149, 72⟩ [⟨0, 148, 154, 74⟩, ⟨0, 148, 159, 76⟩] (by rw [F.2.2.2.1]; rfl) (fun z hz => absurd hz List.not_mem_nil) (by decide) (by decide) (hts _ wCL_L_72) (va_Nw.use rfl (hE.1.2.1 (xIO, xIO) (by simp [nwCast]))) hc9 hv9 hf9 ?_
              refine W.eq (g2 := F0 m 149 ls [.ref q9]) rfl ?_
              refine lv_astore (lv' := [(5, .ref q9), (0, .ref (ad 0 0)), (1, .int 3), (2, .int vm), (3, .int 0), (4, .int 0)]) hx hb dL_does_149 hl (by decide) rfl (fun ls hl => ?_)
              refine lv_bipush (v := (-11)) hx hb dL_does_151 (by decide) ?_
              exact kiret hx hb hr hlocks hS (by decide) (by decide) dL_does_153 (⟨by rw [e27]; rfl, nT', nW', ad', σ', qs', f', D', ea', hP2, hR2, hI2⟩)
            · refine vx_catch (own := RL) (name := xIS) F.1.2.2.2.1 [⟨0, 148, 149, 72⟩, ⟨0, 148, 154, 74⟩] ⟨0, 148, 159, 76⟩ [] (by rw [F.2.2.2.1]; rfl) (fun z hz => by
                simp only [List.mem_cons, List.not_mem_nil, or_false] at hz
                rcases hz with rfl | rfl
                · exact Or.inr ⟨by decide, xIO, hts _ wCL_L_72, hN (xIS, xIO) (by simp [nwNot])⟩
                · exact Or.inr ⟨by decide, xIA, hts _ wCL_L_74, hN (xIS, xIA) (by simp [nwNot])⟩) (by decide) (by decide) (hts _ wCL_L_76) (va_Nw.use rfl (hE.1.2.1 (xIS, xIS) (by simp [nwCast]))) hc9 hv9 hf9 ?_
              refine W.eq (g2 := F0 m 159 ls [.ref q9]) rfl ?_
              refine lv_astore (lv' := [(5, .ref q9), (0, .ref (ad 0 0)), (1, .int 3), (2, .int vm), (3, .int 0), (4, .int 0)]) hx hb dL_does_159 hl (by decide) rfl (fun ls hl => ?_)
              refine lv_bipush (v := (-13)) hx hb dL_does_161 (by decide) ?_
              exact kiret hx hb hr hlocks hS (by decide) (by decide) dL_does_163 (⟨by rw [e27]; rfl, nT', nW', ad', σ', qs', f', D', ea', hP2, hR2, hI2⟩)
          · obtain ⟨e27, rfl, ad', σ', qs', nT', nW', f', D', ea', hP2, hR2, hI2⟩ := st_join hR hI hv hcm
            refine lv_goto (tgt := 148) hx hb dL_does_58 (by decide) ?_
            exact kiret hx hb hr hlocks hS (by decide) (by decide) dL_does_148 (⟨by rw [e27]; rfl, nT', nW', ad', σ', qs', f', D', ea', hP2, hR2, hI2⟩)
      · exact absurd c_37_3 (by decide)
    · exact absurd c_14_2 (by decide)
  · exact absurd c_1_1 (by decide)
set_option maxHeartbeats 4000000 in
set_option maxRecDepth 100000 in
theorem hD_enter (l : Launch) (G : GE) (A : Nat → Prop) (hl9 : l.stackTraces = false) (a0 : Nat) (τ τ' : SG) (x : Int32) (nT nW N : Nat) (vt : Int32) (vr : Int32) (hcm : cm_enter τ nT nW vt vr x τ') (hN2 : N < 1000) : HM l G A yL_does cL_does 6 (some .int) [(0, 148, 149, 72), (0, 148, 154, 74), (0, 148, 159, 76)] (rmL 10 6 250) [.ref a0, .int 4, .int vt, .int vr, .int 0] (CST G A a0 τ nT nW N) (fun v H => v = some (.int (dres (τ' 27 0) x)) ∧ ∃ nT' nW', CST G A a0 τ' nT' nW' (N + 1) H) := by
  refine HM.of (by decide) (Nat.le_of_ble_eq_true rfl) ?_
  intro p e s m args below meth c F hP ls hl
  obtain ⟨ad, σ, qs, f, D, rfl, hPX, hR, hI⟩ := hP
  have h80 : nT ≤ 80 ∧ nW ≤ 12 ∧ f ≤ nT := ⟨hR.1.2.2.1, hR.1.2.2.2.2.2.1, hR.1.2.1⟩
  have hx := F.1.1
  have hb := F.1.2.1
  have hown := F.1.2.2.2.1
  have hts := F.1.2.2.2.2
  have hr := F.2.1
  have hlocks := F.2.2.1
  have hE := F.2.2.2.2.1
  have hN := F.2.2.2.2.2.1
  have hA := F.2.2.2.2.2.2
  have hS : va_S A s.heap s.heap [] := va_S.rf
  have hl : lv_has ls 6 [(0, .ref (ad 0 0)), (1, .int 4), (2, .int vt), (3, .int vr), (4, .int 0)] := hl
  refine lv_iload_n hx hb dL_does_0 rfl (lv_at hl 1 rfl) ?_
  refine lv_if_ne (tgt := 12) hx hb dL_does_1 (by decide) (fun c_1_1 => ?_) (fun c_1_1 => ?_)
  · refine lv_iload_n hx hb dL_does_12 rfl (lv_at hl 1 rfl) ?_
    refine lv_iconst (v := 1) hx hb dL_does_13 (by decide) ?_
    refine lv_icmp_ne (tgt := 35) hx hb dL_does_14 (by decide) (fun c_14_2 => ?_) (fun c_14_2 => ?_)
    · refine lv_iload_n hx hb dL_does_35 rfl (lv_at hl 1 rfl) ?_
      refine lv_iconst (v := 2) hx hb dL_does_36 (by decide) ?_
      refine lv_icmp_ne (tgt := 48) hx hb dL_does_37 (by decide) (fun c_37_3 => ?_) (fun c_37_3 => ?_)
      · refine lv_iload_n hx hb dL_does_48 rfl (lv_at hl 1 rfl) ?_
        refine lv_iconst (v := 3) hx hb dL_does_49 (by decide) ?_
        refine lv_icmp_ne (tgt := 61) hx hb dL_does_50 (by decide) (fun c_50_4 => ?_) (fun c_50_4 => ?_)
        · refine lv_iload_n hx hb dL_does_61 rfl (lv_at hl 1 rfl) ?_
          refine lv_iconst (v := 4) hx hb dL_does_62 (by decide) ?_
          refine lv_icmp_ne (tgt := 83) hx hb dL_does_63 (by decide) (fun c_63_5 => ?_) (fun c_63_5 => ?_)
          · exact absurd c_63_5 (by decide)
          · refine lv_aload_n hx hb dL_does_66 rfl (lv_at hl 0 rfl) ?_
            refine lv_iload_n hx hb dL_does_67 rfl (lv_at hl 2 rfl) ?_
            refine lv_iload_n hx hb dL_does_68 rfl (lv_at hl 3 rfl) ?_
            refine hcallV (n := 2) F.1 hE (kP_enter l G A ad σ qs nT nW hl9 vt vr h80.1 h80.2.1 (L_wf hR) (L_free hR) (L_len hR (by decide))) wML_L_51 wIM_X5_enter wSE_X5_X5_enter wIN_X5 wCO_X5_enter (by decide) rfl ⟨by decide, by decide⟩ (orec hE (hPX.main rfl) (show mcl[7]? = some (RX5, TX5, 8) from rfl)) hS (fun q h => h) (fun q h => hA q (Nat.le_trans hS.1 h)) hPX rfl hl.1 (Nat.le_of_ble_eq_true rfl) dL_does_69 ⟨by decide, by decide⟩ (fun E ce q9 H1 locs1 hx9 hk hS hc9 hv9 hf9 => ?_) (fun v H1 locs1 hv hk hS => ?_)
            · rcases sx_enter hR hI hx9 hcm with ⟨rfl, e27, ad', σ', qs', nT', nW', f', D', ea', hP2, hR2, hI2⟩ | ⟨rfl, e27, ad', σ', qs', nT', nW', f', D', ea', hP2, hR2, hI2⟩
              · refine vx_catch (own := RL) (name := xIO) F.1.2.2.2.1 [] ⟨0, 148, 149, 72⟩ [⟨0, 148, 154, 74⟩, ⟨0, 148, 159, 76⟩] (by rw [F.2.2.2.1]; rfl) (fun z hz => absurd hz List.not_mem_nil) (by decide) (by decide) (hts _ wCL_L_72) (va_Nw.use rfl (hE.1.2.1 (xIO, xIO) (by simp [nwCast]))) hc9 hv9 hf9 ?_
                refine W.eq (g2 := F0 m 149 ls [.ref q9]) rfl ?_
                refine lv_astore (lv' := [(5, .ref q9), (0, .ref (ad 0 0)), (1, .int 4), (2, .int vt), (3, .int vr), (4, .int 0)]) hx hb dL_does_149 hl (by decide) rfl (fun ls hl => ?_)
                refine lv_bipush (v := (-11)) hx hb dL_does_151 (by decide) ?_
                exact kiret hx hb hr hlocks hS (by decide) (by decide) dL_does_153 (⟨by rw [e27]; rfl, nT', nW', ad', σ', qs', f', D', ea', hP2, hR2, hI2⟩)
              · refine vx_catch (own := RL) (name := xIS) F.1.2.2.2.1 [⟨0, 148, 149, 72⟩, ⟨0, 148, 154, 74⟩] ⟨0, 148, 159, 76⟩ [] (by rw [F.2.2.2.1]; rfl) (fun z hz => by
                  simp only [List.mem_cons, List.not_mem_nil, or_false] at hz
                  rcases hz with rfl | rfl
                  · exact Or.inr ⟨by decide, xIO, hts _ wCL_L_72, hN (xIS, xIO) (by simp [nwNot])⟩
                  · exact Or.inr ⟨by decide, xIA, hts _ wCL_L_74, hN (xIS, xIA) (by simp [nwNot])⟩) (by decide) (by decide) (hts _ wCL_L_76) (va_Nw.use rfl (hE.1.2.1 (xIS, xIS) (by simp [nwCast]))) hc9 hv9 hf9 ?_
                refine W.eq (g2 := F0 m 159 ls [.ref q9]) rfl ?_
                refine lv_astore (lv' := [(5, .ref q9), (0, .ref (ad 0 0)), (1, .int 4), (2, .int vt), (3, .int vr), (4, .int 0)]) hx hb dL_does_159 hl (by decide) rfl (fun ls hl => ?_)
                refine lv_bipush (v := (-13)) hx hb dL_does_161 (by decide) ?_
                exact kiret hx hb hr hlocks hS (by decide) (by decide) dL_does_163 (⟨by rw [e27]; rfl, nT', nW', ad', σ', qs', f', D', ea', hP2, hR2, hI2⟩)
            · have hb9 : ∃ b, v = some (.int (b2i b)) := by
                obtain ⟨_, _, _, _, -, -, -, -, -, -, -, rfl, -⟩ := hv
                exact ⟨_, rfl⟩
              obtain ⟨e27, rfl, ad', σ', qs', nT', nW', f', D', ea', hP2, hR2, hI2⟩ := st_enter hR hI hN2 hv hcm
              have hb8 : x = 0 ∨ x = 1 := by
                obtain ⟨b, e⟩ := hb9
                cases e
                exact b2i_or b
              refine lv_if_eq (tgt := 79) hx hb dL_does_72 (by decide) (fun c_72_6 => ?_) (fun c_72_6 => ?_)
              · have hx9 : x = 0 := c_72_6
                refine lv_iconst (v := 0) hx hb dL_does_79 (by decide) ?_
                refine lv_goto (tgt := 148) hx hb dL_does_80 (by decide) ?_
                exact kiret hx hb hr hlocks hS (by decide) (by decide) dL_does_148 (⟨by rw [e27]; show some (Value.int 0) = some (Value.int x); rw [hx9], nT', nW', ad', σ', qs', f', D', ea', hP2, hR2, hI2⟩)
              · have hx9 : x = 1 := hb8.resolve_left c_72_6
                refine lv_iconst (v := 1) hx hb dL_does_75 (by decide) ?_
                refine lv_goto (tgt := 148) hx hb dL_does_76 (by decide) ?_
                exact kiret hx hb hr hlocks hS (by decide) (by decide) dL_does_148 (⟨by rw [e27]; show some (Value.int 1) = some (Value.int x); rw [hx9], nT', nW', ad', σ', qs', f', D', ea', hP2, hR2, hI2⟩)
        · exact absurd c_50_4 (by decide)
      · exact absurd c_37_3 (by decide)
    · exact absurd c_14_2 (by decide)
  · exact absurd c_1_1 (by decide)
set_option maxHeartbeats 4000000 in
set_option maxRecDepth 100000 in
theorem hD_goOut (l : Launch) (G : GE) (A : Nat → Prop) (hl9 : l.stackTraces = false) (a0 : Nat) (τ τ' : SG) (x : Int32) (nT nW N : Nat) (vt : Int32) (hcm : cm_goOut τ nT nW vt x τ') : HM l G A yL_does cL_does 6 (some .int) [(0, 148, 149, 72), (0, 148, 154, 74), (0, 148, 159, 76)] (rmL 9 2 12) [.ref a0, .int 5, .int vt, .int 0, .int 0] (CST G A a0 τ nT nW N) (fun v H => v = some (.int (dres (τ' 27 0) x)) ∧ ∃ nT' nW', CST G A a0 τ' nT' nW' (N + 1) H) := by
  refine HM.of (by decide) (Nat.le_of_ble_eq_true rfl) ?_
  intro p e s m args below meth c F hP ls hl
  obtain ⟨ad, σ, qs, f, D, rfl, hPX, hR, hI⟩ := hP
  have h80 : nT ≤ 80 ∧ nW ≤ 12 ∧ f ≤ nT := ⟨hR.1.2.2.1, hR.1.2.2.2.2.2.1, hR.1.2.1⟩
  have hx := F.1.1
  have hb := F.1.2.1
  have hown := F.1.2.2.2.1
  have hts := F.1.2.2.2.2
  have hr := F.2.1
  have hlocks := F.2.2.1
  have hE := F.2.2.2.2.1
  have hN := F.2.2.2.2.2.1
  have hA := F.2.2.2.2.2.2
  have hS : va_S A s.heap s.heap [] := va_S.rf
  have hl : lv_has ls 6 [(0, .ref (ad 0 0)), (1, .int 5), (2, .int vt), (3, .int 0), (4, .int 0)] := hl
  refine lv_iload_n hx hb dL_does_0 rfl (lv_at hl 1 rfl) ?_
  refine lv_if_ne (tgt := 12) hx hb dL_does_1 (by decide) (fun c_1_1 => ?_) (fun c_1_1 => ?_)
  · refine lv_iload_n hx hb dL_does_12 rfl (lv_at hl 1 rfl) ?_
    refine lv_iconst (v := 1) hx hb dL_does_13 (by decide) ?_
    refine lv_icmp_ne (tgt := 35) hx hb dL_does_14 (by decide) (fun c_14_2 => ?_) (fun c_14_2 => ?_)
    · refine lv_iload_n hx hb dL_does_35 rfl (lv_at hl 1 rfl) ?_
      refine lv_iconst (v := 2) hx hb dL_does_36 (by decide) ?_
      refine lv_icmp_ne (tgt := 48) hx hb dL_does_37 (by decide) (fun c_37_3 => ?_) (fun c_37_3 => ?_)
      · refine lv_iload_n hx hb dL_does_48 rfl (lv_at hl 1 rfl) ?_
        refine lv_iconst (v := 3) hx hb dL_does_49 (by decide) ?_
        refine lv_icmp_ne (tgt := 61) hx hb dL_does_50 (by decide) (fun c_50_4 => ?_) (fun c_50_4 => ?_)
        · refine lv_iload_n hx hb dL_does_61 rfl (lv_at hl 1 rfl) ?_
          refine lv_iconst (v := 4) hx hb dL_does_62 (by decide) ?_
          refine lv_icmp_ne (tgt := 83) hx hb dL_does_63 (by decide) (fun c_63_5 => ?_) (fun c_63_5 => ?_)
          · refine lv_iload_n hx hb dL_does_83 rfl (lv_at hl 1 rfl) ?_
            refine lv_iconst (v := 5) hx hb dL_does_84 (by decide) ?_
            refine lv_icmp_ne (tgt := 96) hx hb dL_does_85 (by decide) (fun c_85_6 => ?_) (fun c_85_6 => ?_)
            · exact absurd c_85_6 (by decide)
            · refine lv_aload_n hx hb dL_does_88 rfl (lv_at hl 0 rfl) ?_
              refine lv_iload_n hx hb dL_does_89 rfl (lv_at hl 2 rfl) ?_
              refine hcallV (n := 1) F.1 hE (kP_goOut l G A ad σ qs nT nW hl9 vt h80.1 h80.2.1 (L_wf hR) (L_free hR) (L_len hR (by decide)) (L_pl hR) (L_v1 hR)) wML_L_55 wIM_X5_goOut wSE_X5_X5_goOut wIN_X5 wCO_X5_goOut (by decide) rfl ⟨by decide, by decide⟩ (orec hE (hPX.main rfl) (show mcl[7]? = some (RX5, TX5, 8) from rfl)) hS (fun q h => h) (fun q h => hA q (Nat.le_trans hS.1 h)) hPX rfl hl.1 (Nat.le_of_ble_eq_true rfl) dL_does_90 ⟨by decide, by decide⟩ (fun E ce q9 H1 locs1 hx9 hk hS hc9 hv9 hf9 => ?_) (fun v H1 locs1 hv hk hS => ?_)
              · rcases sx_goOut hR hI hx9 hcm with ⟨rfl, e27, ad', σ', qs', nT', nW', f', D', ea', hP2, hR2, hI2⟩ | ⟨rfl, e27, ad', σ', qs', nT', nW', f', D', ea', hP2, hR2, hI2⟩
                · refine vx_catch (own := RL) (name := xIO) F.1.2.2.2.1 [] ⟨0, 148, 149, 72⟩ [⟨0, 148, 154, 74⟩, ⟨0, 148, 159, 76⟩] (by rw [F.2.2.2.1]; rfl) (fun z hz => absurd hz List.not_mem_nil) (by decide) (by decide) (hts _ wCL_L_72) (va_Nw.use rfl (hE.1.2.1 (xIO, xIO) (by simp [nwCast]))) hc9 hv9 hf9 ?_
                  refine W.eq (g2 := F0 m 149 ls [.ref q9]) rfl ?_
                  refine lv_astore (lv' := [(5, .ref q9), (0, .ref (ad 0 0)), (1, .int 5), (2, .int vt), (3, .int 0), (4, .int 0)]) hx hb dL_does_149 hl (by decide) rfl (fun ls hl => ?_)
                  refine lv_bipush (v := (-11)) hx hb dL_does_151 (by decide) ?_
                  exact kiret hx hb hr hlocks hS (by decide) (by decide) dL_does_153 (⟨by rw [e27]; rfl, nT', nW', ad', σ', qs', f', D', ea', hP2, hR2, hI2⟩)
                · refine vx_catch (own := RL) (name := xIS) F.1.2.2.2.1 [⟨0, 148, 149, 72⟩, ⟨0, 148, 154, 74⟩] ⟨0, 148, 159, 76⟩ [] (by rw [F.2.2.2.1]; rfl) (fun z hz => by
                    simp only [List.mem_cons, List.not_mem_nil, or_false] at hz
                    rcases hz with rfl | rfl
                    · exact Or.inr ⟨by decide, xIO, hts _ wCL_L_72, hN (xIS, xIO) (by simp [nwNot])⟩
                    · exact Or.inr ⟨by decide, xIA, hts _ wCL_L_74, hN (xIS, xIA) (by simp [nwNot])⟩) (by decide) (by decide) (hts _ wCL_L_76) (va_Nw.use rfl (hE.1.2.1 (xIS, xIS) (by simp [nwCast]))) hc9 hv9 hf9 ?_
                  refine W.eq (g2 := F0 m 159 ls [.ref q9]) rfl ?_
                  refine lv_astore (lv' := [(5, .ref q9), (0, .ref (ad 0 0)), (1, .int 5), (2, .int vt), (3, .int 0), (4, .int 0)]) hx hb dL_does_159 hl (by decide) rfl (fun ls hl => ?_)
                  refine lv_bipush (v := (-13)) hx hb dL_does_161 (by decide) ?_
                  exact kiret hx hb hr hlocks hS (by decide) (by decide) dL_does_163 (⟨by rw [e27]; rfl, nT', nW', ad', σ', qs', f', D', ea', hP2, hR2, hI2⟩)
              · obtain ⟨e27, rfl, ad', σ', qs', nT', nW', f', D', ea', hP2, hR2, hI2⟩ := st_goOut hR hI hv hcm
                refine lv_goto (tgt := 148) hx hb dL_does_93 (by decide) ?_
                exact kiret hx hb hr hlocks hS (by decide) (by decide) dL_does_148 (⟨by rw [e27]; rfl, nT', nW', ad', σ', qs', f', D', ea', hP2, hR2, hI2⟩)
          · exact absurd c_63_5 (by decide)
        · exact absurd c_50_4 (by decide)
      · exact absurd c_37_3 (by decide)
    · exact absurd c_14_2 (by decide)
  · exact absurd c_1_1 (by decide)
set_option maxHeartbeats 4000000 in
set_option maxRecDepth 100000 in
theorem hD_hang (l : Launch) (G : GE) (A : Nat → Prop) (hl9 : l.stackTraces = false) (a0 : Nat) (τ τ' : SG) (x : Int32) (nT nW N : Nat) (vw : Int32) (vr : Int32) (hcm : cm_hang τ nW vw vr x τ') : HM l G A yL_does cL_does 6 (some .int) [(0, 148, 149, 72), (0, 148, 154, 74), (0, 148, 159, 76)] (rmL 7 3 18) [.ref a0, .int 6, .int vw, .int vr, .int 0] (CST G A a0 τ nT nW N) (fun v H => v = some (.int (dres (τ' 27 0) x)) ∧ ∃ nT' nW', CST G A a0 τ' nT' nW' (N + 1) H) := by
  refine HM.of (by decide) (Nat.le_of_ble_eq_true rfl) ?_
  intro p e s m args below meth c F hP ls hl
  obtain ⟨ad, σ, qs, f, D, rfl, hPX, hR, hI⟩ := hP
  have h80 : nT ≤ 80 ∧ nW ≤ 12 ∧ f ≤ nT := ⟨hR.1.2.2.1, hR.1.2.2.2.2.2.1, hR.1.2.1⟩
  have hx := F.1.1
  have hb := F.1.2.1
  have hown := F.1.2.2.2.1
  have hts := F.1.2.2.2.2
  have hr := F.2.1
  have hlocks := F.2.2.1
  have hE := F.2.2.2.2.1
  have hN := F.2.2.2.2.2.1
  have hA := F.2.2.2.2.2.2
  have hS : va_S A s.heap s.heap [] := va_S.rf
  have hl : lv_has ls 6 [(0, .ref (ad 0 0)), (1, .int 6), (2, .int vw), (3, .int vr), (4, .int 0)] := hl
  refine lv_iload_n hx hb dL_does_0 rfl (lv_at hl 1 rfl) ?_
  refine lv_if_ne (tgt := 12) hx hb dL_does_1 (by decide) (fun c_1_1 => ?_) (fun c_1_1 => ?_)
  · refine lv_iload_n hx hb dL_does_12 rfl (lv_at hl 1 rfl) ?_
    refine lv_iconst (v := 1) hx hb dL_does_13 (by decide) ?_
    refine lv_icmp_ne (tgt := 35) hx hb dL_does_14 (by decide) (fun c_14_2 => ?_) (fun c_14_2 => ?_)
    · refine lv_iload_n hx hb dL_does_35 rfl (lv_at hl 1 rfl) ?_
      refine lv_iconst (v := 2) hx hb dL_does_36 (by decide) ?_
      refine lv_icmp_ne (tgt := 48) hx hb dL_does_37 (by decide) (fun c_37_3 => ?_) (fun c_37_3 => ?_)
      · refine lv_iload_n hx hb dL_does_48 rfl (lv_at hl 1 rfl) ?_
        refine lv_iconst (v := 3) hx hb dL_does_49 (by decide) ?_
        refine lv_icmp_ne (tgt := 61) hx hb dL_does_50 (by decide) (fun c_50_4 => ?_) (fun c_50_4 => ?_)
        · refine lv_iload_n hx hb dL_does_61 rfl (lv_at hl 1 rfl) ?_
          refine lv_iconst (v := 4) hx hb dL_does_62 (by decide) ?_
          refine lv_icmp_ne (tgt := 83) hx hb dL_does_63 (by decide) (fun c_63_5 => ?_) (fun c_63_5 => ?_)
          · refine lv_iload_n hx hb dL_does_83 rfl (lv_at hl 1 rfl) ?_
            refine lv_iconst (v := 5) hx hb dL_does_84 (by decide) ?_
            refine lv_icmp_ne (tgt := 96) hx hb dL_does_85 (by decide) (fun c_85_6 => ?_) (fun c_85_6 => ?_)
            · refine lv_iload_n hx hb dL_does_96 rfl (lv_at hl 1 rfl) ?_
              refine lv_bipush (v := 6) hx hb dL_does_97 (by decide) ?_
              refine lv_icmp_ne (tgt := 111) hx hb dL_does_99 (by decide) (fun c_99_7 => ?_) (fun c_99_7 => ?_)
              · exact absurd c_99_7 (by decide)
              · refine lv_aload_n hx hb dL_does_102 rfl (lv_at hl 0 rfl) ?_
                refine lv_iload_n hx hb dL_does_103 rfl (lv_at hl 2 rfl) ?_
                refine lv_iload_n hx hb dL_does_104 rfl (lv_at hl 3 rfl) ?_
                refine hcallV (n := 2) F.1 hE (kP_hang l G A ad σ qs nT nW hl9 vw vr h80.2.1 (L_wr hR)) wML_L_58 wIM_X5_hang wSE_X5_X5_hang wIN_X5 wCO_X5_hang (by decide) rfl ⟨by decide, by decide⟩ (orec hE (hPX.main rfl) (show mcl[7]? = some (RX5, TX5, 8) from rfl)) hS (fun q h => h) (fun q h => hA q (Nat.le_trans hS.1 h)) hPX rfl hl.1 (Nat.le_of_ble_eq_true rfl) dL_does_105 ⟨by decide, by decide⟩ (fun E ce q9 H1 locs1 hx9 hk hS hc9 hv9 hf9 => ?_) (fun v H1 locs1 hv hk hS => ?_)
                · rcases sx_hang hR hI hx9 hcm with ⟨rfl, e27, ad', σ', qs', nT', nW', f', D', ea', hP2, hR2, hI2⟩ | ⟨rfl, e27, ad', σ', qs', nT', nW', f', D', ea', hP2, hR2, hI2⟩
                  · refine vx_catch (own := RL) (name := xIO) F.1.2.2.2.1 [] ⟨0, 148, 149, 72⟩ [⟨0, 148, 154, 74⟩, ⟨0, 148, 159, 76⟩] (by rw [F.2.2.2.1]; rfl) (fun z hz => absurd hz List.not_mem_nil) (by decide) (by decide) (hts _ wCL_L_72) (va_Nw.use rfl (hE.1.2.1 (xIO, xIO) (by simp [nwCast]))) hc9 hv9 hf9 ?_
                    refine W.eq (g2 := F0 m 149 ls [.ref q9]) rfl ?_
                    refine lv_astore (lv' := [(5, .ref q9), (0, .ref (ad 0 0)), (1, .int 6), (2, .int vw), (3, .int vr), (4, .int 0)]) hx hb dL_does_149 hl (by decide) rfl (fun ls hl => ?_)
                    refine lv_bipush (v := (-11)) hx hb dL_does_151 (by decide) ?_
                    exact kiret hx hb hr hlocks hS (by decide) (by decide) dL_does_153 (⟨by rw [e27]; rfl, nT', nW', ad', σ', qs', f', D', ea', hP2, hR2, hI2⟩)
                  · refine vx_catch (own := RL) (name := xIS) F.1.2.2.2.1 [⟨0, 148, 149, 72⟩, ⟨0, 148, 154, 74⟩] ⟨0, 148, 159, 76⟩ [] (by rw [F.2.2.2.1]; rfl) (fun z hz => by
                      simp only [List.mem_cons, List.not_mem_nil, or_false] at hz
                      rcases hz with rfl | rfl
                      · exact Or.inr ⟨by decide, xIO, hts _ wCL_L_72, hN (xIS, xIO) (by simp [nwNot])⟩
                      · exact Or.inr ⟨by decide, xIA, hts _ wCL_L_74, hN (xIS, xIA) (by simp [nwNot])⟩) (by decide) (by decide) (hts _ wCL_L_76) (va_Nw.use rfl (hE.1.2.1 (xIS, xIS) (by simp [nwCast]))) hc9 hv9 hf9 ?_
                    refine W.eq (g2 := F0 m 159 ls [.ref q9]) rfl ?_
                    refine lv_astore (lv' := [(5, .ref q9), (0, .ref (ad 0 0)), (1, .int 6), (2, .int vw), (3, .int vr), (4, .int 0)]) hx hb dL_does_159 hl (by decide) rfl (fun ls hl => ?_)
                    refine lv_bipush (v := (-13)) hx hb dL_does_161 (by decide) ?_
                    exact kiret hx hb hr hlocks hS (by decide) (by decide) dL_does_163 (⟨by rw [e27]; rfl, nT', nW', ad', σ', qs', f', D', ea', hP2, hR2, hI2⟩)
                · obtain ⟨e27, rfl, ad', σ', qs', nT', nW', f', D', ea', hP2, hR2, hI2⟩ := st_hang hR hI hv hcm
                  refine lv_goto (tgt := 148) hx hb dL_does_108 (by decide) ?_
                  exact kiret hx hb hr hlocks hS (by decide) (by decide) dL_does_148 (⟨by rw [e27]; rfl, nT', nW', ad', σ', qs', f', D', ea', hP2, hR2, hI2⟩)
            · exact absurd c_85_6 (by decide)
          · exact absurd c_63_5 (by decide)
        · exact absurd c_50_4 (by decide)
      · exact absurd c_37_3 (by decide)
    · exact absurd c_14_2 (by decide)
  · exact absurd c_1_1 (by decide)
set_option maxHeartbeats 4000000 in
set_option maxRecDepth 100000 in
theorem hD_lend (l : Launch) (G : GE) (A : Nat → Prop) (hl9 : l.stackTraces = false) (a0 : Nat) (τ τ' : SG) (x : Int32) (nT nW N : Nat) (vw : Int32) (vr : Int32) (vv : Int32) (hcm : cm_lend τ nW vw vr vv x τ') : HM l G A yL_does cL_does 6 (some .int) [(0, 148, 149, 72), (0, 148, 154, 74), (0, 148, 159, 76)] (rmL 7 4 24) [.ref a0, .int 7, .int vw, .int vr, .int vv] (CST G A a0 τ nT nW N) (fun v H => v = some (.int (dresL (τ' 27 0) x)) ∧ ∃ nT' nW', CST G A a0 τ' nT' nW' (N + 1) H) := by
  refine HM.of (by decide) (Nat.le_of_ble_eq_true rfl) ?_
  intro p e s m args below meth c F hP ls hl
  obtain ⟨ad, σ, qs, f, D, rfl, hPX, hR, hI⟩ := hP
  have h80 : nT ≤ 80 ∧ nW ≤ 12 ∧ f ≤ nT := ⟨hR.1.2.2.1, hR.1.2.2.2.2.2.1, hR.1.2.1⟩
  have hx := F.1.1
  have hb := F.1.2.1
  have hown := F.1.2.2.2.1
  have hts := F.1.2.2.2.2
  have hr := F.2.1
  have hlocks := F.2.2.1
  have hE := F.2.2.2.2.1
  have hN := F.2.2.2.2.2.1
  have hA := F.2.2.2.2.2.2
  have hS : va_S A s.heap s.heap [] := va_S.rf
  have hl : lv_has ls 6 [(0, .ref (ad 0 0)), (1, .int 7), (2, .int vw), (3, .int vr), (4, .int vv)] := hl
  refine lv_iload_n hx hb dL_does_0 rfl (lv_at hl 1 rfl) ?_
  refine lv_if_ne (tgt := 12) hx hb dL_does_1 (by decide) (fun c_1_1 => ?_) (fun c_1_1 => ?_)
  · refine lv_iload_n hx hb dL_does_12 rfl (lv_at hl 1 rfl) ?_
    refine lv_iconst (v := 1) hx hb dL_does_13 (by decide) ?_
    refine lv_icmp_ne (tgt := 35) hx hb dL_does_14 (by decide) (fun c_14_2 => ?_) (fun c_14_2 => ?_)
    · refine lv_iload_n hx hb dL_does_35 rfl (lv_at hl 1 rfl) ?_
      refine lv_iconst (v := 2) hx hb dL_does_36 (by decide) ?_
      refine lv_icmp_ne (tgt := 48) hx hb dL_does_37 (by decide) (fun c_37_3 => ?_) (fun c_37_3 => ?_)
      · refine lv_iload_n hx hb dL_does_48 rfl (lv_at hl 1 rfl) ?_
        refine lv_iconst (v := 3) hx hb dL_does_49 (by decide) ?_
        refine lv_icmp_ne (tgt := 61) hx hb dL_does_50 (by decide) (fun c_50_4 => ?_) (fun c_50_4 => ?_)
        · refine lv_iload_n hx hb dL_does_61 rfl (lv_at hl 1 rfl) ?_
          refine lv_iconst (v := 4) hx hb dL_does_62 (by decide) ?_
          refine lv_icmp_ne (tgt := 83) hx hb dL_does_63 (by decide) (fun c_63_5 => ?_) (fun c_63_5 => ?_)
          · refine lv_iload_n hx hb dL_does_83 rfl (lv_at hl 1 rfl) ?_
            refine lv_iconst (v := 5) hx hb dL_does_84 (by decide) ?_
            refine lv_icmp_ne (tgt := 96) hx hb dL_does_85 (by decide) (fun c_85_6 => ?_) (fun c_85_6 => ?_)
            · refine lv_iload_n hx hb dL_does_96 rfl (lv_at hl 1 rfl) ?_
              refine lv_bipush (v := 6) hx hb dL_does_97 (by decide) ?_
              refine lv_icmp_ne (tgt := 111) hx hb dL_does_99 (by decide) (fun c_99_7 => ?_) (fun c_99_7 => ?_)
              · refine lv_iload_n hx hb dL_does_111 rfl (lv_at hl 1 rfl) ?_
                refine lv_bipush (v := 7) hx hb dL_does_112 (by decide) ?_
                refine lv_icmp_ne (tgt := 128) hx hb dL_does_114 (by decide) (fun c_114_8 => ?_) (fun c_114_8 => ?_)
                · exact absurd c_114_8 (by decide)
                · refine lv_aload_n hx hb dL_does_117 rfl (lv_at hl 0 rfl) ?_
                  refine lv_iload_n hx hb dL_does_118 rfl (lv_at hl 2 rfl) ?_
                  refine lv_iload_n hx hb dL_does_119 rfl (lv_at hl 3 rfl) ?_
                  refine lv_iload hx hb dL_does_120 (lv_at hl 4 rfl) ?_
                  refine hcallV (n := 3) F.1 hE (kQ_lend l G A ad σ qs nT nW hl9 vw vr vv h80.2.1) wML_L_62 wIM_X5_lend wSE_X5_X5_lend wIN_X5 wCO_X5_lend (by decide) rfl ⟨by decide, by decide⟩ (orec hE (hPX.main rfl) (show mcl[7]? = some (RX5, TX5, 8) from rfl)) hS (fun q h => h) (fun q h => hA q (Nat.le_trans hS.1 h)) hPX rfl hl.1 (Nat.le_of_ble_eq_true rfl) dL_does_122 ⟨by decide, by decide⟩ (fun E ce q9 H1 locs1 hx9 hk hS hc9 hv9 hf9 => ?_) (fun v H1 locs1 hv hk hS => ?_)
                  · rcases sx_lend hR hI hx9 hcm with ⟨rfl, e27, ad', σ', qs', nT', nW', f', D', ea', hP2, hR2, hI2⟩ | ⟨rfl, e27, ad', σ', qs', nT', nW', f', D', ea', hP2, hR2, hI2⟩ | ⟨rfl, e27, ad', σ', qs', nT', nW', f', D', ea', hP2, hR2, hI2⟩
                    · refine vx_catch (own := RL) (name := xIO) F.1.2.2.2.1 [] ⟨0, 148, 149, 72⟩ [⟨0, 148, 154, 74⟩, ⟨0, 148, 159, 76⟩] (by rw [F.2.2.2.1]; rfl) (fun z hz => absurd hz List.not_mem_nil) (by decide) (by decide) (hts _ wCL_L_72) (va_Nw.use rfl (hE.1.2.1 (xIO, xIO) (by simp [nwCast]))) hc9 hv9 hf9 ?_
                      refine W.eq (g2 := F0 m 149 ls [.ref q9]) rfl ?_
                      refine lv_astore (lv' := [(5, .ref q9), (0, .ref (ad 0 0)), (1, .int 7), (2, .int vw), (3, .int vr), (4, .int vv)]) hx hb dL_does_149 hl (by decide) rfl (fun ls hl => ?_)
                      refine lv_bipush (v := (-11)) hx hb dL_does_151 (by decide) ?_
                      exact kiret hx hb hr hlocks hS (by decide) (by decide) dL_does_153 (⟨by rw [e27]; rfl, nT', nW', ad', σ', qs', f', D', ea', hP2, hR2, hI2⟩)
                    · refine vx_catch (own := RL) (name := xIA) F.1.2.2.2.1 [⟨0, 148, 149, 72⟩] ⟨0, 148, 154, 74⟩ [⟨0, 148, 159, 76⟩] (by rw [F.2.2.2.1]; rfl) (fun z hz => by rw [List.mem_singleton] at hz; subst hz; exact Or.inr ⟨by decide, xIO, hts _ wCL_L_72, hN (xIA, xIO) (by simp [nwNot])⟩) (by decide) (by decide) (hts _ wCL_L_74) (va_Nw.use rfl (hE.1.2.1 (xIA, xIA) (by simp [nwCast]))) hc9 hv9 hf9 ?_
                      refine W.eq (g2 := F0 m 154 ls [.ref q9]) rfl ?_
                      refine lv_astore (lv' := [(5, .ref q9), (0, .ref (ad 0 0)), (1, .int 7), (2, .int vw), (3, .int vr), (4, .int vv)]) hx hb dL_does_154 hl (by decide) rfl (fun ls hl => ?_)
                      refine lv_bipush (v := (-12)) hx hb dL_does_156 (by decide) ?_
                      exact kiret hx hb hr hlocks hS (by decide) (by decide) dL_does_158 (⟨by rw [e27]; rfl, nT', nW', ad', σ', qs', f', D', ea', hP2, hR2, hI2⟩)
                    · refine vx_catch (own := RL) (name := xIS) F.1.2.2.2.1 [⟨0, 148, 149, 72⟩, ⟨0, 148, 154, 74⟩] ⟨0, 148, 159, 76⟩ [] (by rw [F.2.2.2.1]; rfl) (fun z hz => by
                        simp only [List.mem_cons, List.not_mem_nil, or_false] at hz
                        rcases hz with rfl | rfl
                        · exact Or.inr ⟨by decide, xIO, hts _ wCL_L_72, hN (xIS, xIO) (by simp [nwNot])⟩
                        · exact Or.inr ⟨by decide, xIA, hts _ wCL_L_74, hN (xIS, xIA) (by simp [nwNot])⟩) (by decide) (by decide) (hts _ wCL_L_76) (va_Nw.use rfl (hE.1.2.1 (xIS, xIS) (by simp [nwCast]))) hc9 hv9 hf9 ?_
                      refine W.eq (g2 := F0 m 159 ls [.ref q9]) rfl ?_
                      refine lv_astore (lv' := [(5, .ref q9), (0, .ref (ad 0 0)), (1, .int 7), (2, .int vw), (3, .int vr), (4, .int vv)]) hx hb dL_does_159 hl (by decide) rfl (fun ls hl => ?_)
                      refine lv_bipush (v := (-13)) hx hb dL_does_161 (by decide) ?_
                      exact kiret hx hb hr hlocks hS (by decide) (by decide) dL_does_163 (⟨by rw [e27]; rfl, nT', nW', ad', σ', qs', f', D', ea', hP2, hR2, hI2⟩)
                  · obtain ⟨e27, rfl, ad', σ', qs', nT', nW', f', D', ea', hP2, hR2, hI2⟩ := st_lend hR hI hv hcm
                    refine lv_goto (tgt := 148) hx hb dL_does_125 (by decide) ?_
                    exact kiret hx hb hr hlocks hS (by decide) (by decide) dL_does_148 (⟨by rw [e27]; rfl, nT', nW', ad', σ', qs', f', D', ea', hP2, hR2, hI2⟩)
              · exact absurd c_99_7 (by decide)
            · exact absurd c_85_6 (by decide)
          · exact absurd c_63_5 (by decide)
        · exact absurd c_50_4 (by decide)
      · exact absurd c_37_3 (by decide)
    · exact absurd c_14_2 (by decide)
  · exact absurd c_1_1 (by decide)
set_option maxHeartbeats 4000000 in
set_option maxRecDepth 100000 in
theorem hD_bringHome (l : Launch) (G : GE) (A : Nat → Prop) (hl9 : l.stackTraces = false) (a0 : Nat) (τ τ' : SG) (x : Int32) (nT nW N : Nat) (vw : Int32) (vr : Int32) (hcm : cm_bringHome τ nW vw vr x τ') : HM l G A yL_does cL_does 6 (some .int) [(0, 148, 149, 72), (0, 148, 154, 74), (0, 148, 159, 76)] (rmL 7 3 18) [.ref a0, .int 8, .int vw, .int vr, .int 0] (CST G A a0 τ nT nW N) (fun v H => v = some (.int (dres (τ' 27 0) x)) ∧ ∃ nT' nW', CST G A a0 τ' nT' nW' (N + 1) H) := by
  refine HM.of (by decide) (Nat.le_of_ble_eq_true rfl) ?_
  intro p e s m args below meth c F hP ls hl
  obtain ⟨ad, σ, qs, f, D, rfl, hPX, hR, hI⟩ := hP
  have h80 : nT ≤ 80 ∧ nW ≤ 12 ∧ f ≤ nT := ⟨hR.1.2.2.1, hR.1.2.2.2.2.2.1, hR.1.2.1⟩
  have hx := F.1.1
  have hb := F.1.2.1
  have hown := F.1.2.2.2.1
  have hts := F.1.2.2.2.2
  have hr := F.2.1
  have hlocks := F.2.2.1
  have hE := F.2.2.2.2.1
  have hN := F.2.2.2.2.2.1
  have hA := F.2.2.2.2.2.2
  have hS : va_S A s.heap s.heap [] := va_S.rf
  have hl : lv_has ls 6 [(0, .ref (ad 0 0)), (1, .int 8), (2, .int vw), (3, .int vr), (4, .int 0)] := hl
  refine lv_iload_n hx hb dL_does_0 rfl (lv_at hl 1 rfl) ?_
  refine lv_if_ne (tgt := 12) hx hb dL_does_1 (by decide) (fun c_1_1 => ?_) (fun c_1_1 => ?_)
  · refine lv_iload_n hx hb dL_does_12 rfl (lv_at hl 1 rfl) ?_
    refine lv_iconst (v := 1) hx hb dL_does_13 (by decide) ?_
    refine lv_icmp_ne (tgt := 35) hx hb dL_does_14 (by decide) (fun c_14_2 => ?_) (fun c_14_2 => ?_)
    · refine lv_iload_n hx hb dL_does_35 rfl (lv_at hl 1 rfl) ?_
      refine lv_iconst (v := 2) hx hb dL_does_36 (by decide) ?_
      refine lv_icmp_ne (tgt := 48) hx hb dL_does_37 (by decide) (fun c_37_3 => ?_) (fun c_37_3 => ?_)
      · refine lv_iload_n hx hb dL_does_48 rfl (lv_at hl 1 rfl) ?_
        refine lv_iconst (v := 3) hx hb dL_does_49 (by decide) ?_
        refine lv_icmp_ne (tgt := 61) hx hb dL_does_50 (by decide) (fun c_50_4 => ?_) (fun c_50_4 => ?_)
        · refine lv_iload_n hx hb dL_does_61 rfl (lv_at hl 1 rfl) ?_
          refine lv_iconst (v := 4) hx hb dL_does_62 (by decide) ?_
          refine lv_icmp_ne (tgt := 83) hx hb dL_does_63 (by decide) (fun c_63_5 => ?_) (fun c_63_5 => ?_)
          · refine lv_iload_n hx hb dL_does_83 rfl (lv_at hl 1 rfl) ?_
            refine lv_iconst (v := 5) hx hb dL_does_84 (by decide) ?_
            refine lv_icmp_ne (tgt := 96) hx hb dL_does_85 (by decide) (fun c_85_6 => ?_) (fun c_85_6 => ?_)
            · refine lv_iload_n hx hb dL_does_96 rfl (lv_at hl 1 rfl) ?_
              refine lv_bipush (v := 6) hx hb dL_does_97 (by decide) ?_
              refine lv_icmp_ne (tgt := 111) hx hb dL_does_99 (by decide) (fun c_99_7 => ?_) (fun c_99_7 => ?_)
              · refine lv_iload_n hx hb dL_does_111 rfl (lv_at hl 1 rfl) ?_
                refine lv_bipush (v := 7) hx hb dL_does_112 (by decide) ?_
                refine lv_icmp_ne (tgt := 128) hx hb dL_does_114 (by decide) (fun c_114_8 => ?_) (fun c_114_8 => ?_)
                · refine lv_iload_n hx hb dL_does_128 rfl (lv_at hl 1 rfl) ?_
                  refine lv_bipush (v := 8) hx hb dL_does_129 (by decide) ?_
                  refine lv_icmp_ne (tgt := 143) hx hb dL_does_131 (by decide) (fun c_131_9 => ?_) (fun c_131_9 => ?_)
                  · exact absurd c_131_9 (by decide)
                  · refine lv_aload_n hx hb dL_does_134 rfl (lv_at hl 0 rfl) ?_
                    refine lv_iload_n hx hb dL_does_135 rfl (lv_at hl 2 rfl) ?_
                    refine lv_iload_n hx hb dL_does_136 rfl (lv_at hl 3 rfl) ?_
                    refine hcallV (n := 2) F.1 hE (kP_bringHome l G A ad σ qs nT nW hl9 vw vr h80.2.1) wML_L_66 wIM_X5_bringHome wSE_X5_X5_bringHome wIN_X5 wCO_X5_bringHome (by decide) rfl ⟨by decide, by decide⟩ (orec hE (hPX.main rfl) (show mcl[7]? = some (RX5, TX5, 8) from rfl)) hS (fun q h => h) (fun q h => hA q (Nat.le_trans hS.1 h)) hPX rfl hl.1 (Nat.le_of_ble_eq_true rfl) dL_does_137 ⟨by decide, by decide⟩ (fun E ce q9 H1 locs1 hx9 hk hS hc9 hv9 hf9 => ?_) (fun v H1 locs1 hv hk hS => ?_)
                    · rcases sx_bringHome hR hI hx9 hcm with ⟨rfl, e27, ad', σ', qs', nT', nW', f', D', ea', hP2, hR2, hI2⟩ | ⟨rfl, e27, ad', σ', qs', nT', nW', f', D', ea', hP2, hR2, hI2⟩
                      · refine vx_catch (own := RL) (name := xIO) F.1.2.2.2.1 [] ⟨0, 148, 149, 72⟩ [⟨0, 148, 154, 74⟩, ⟨0, 148, 159, 76⟩] (by rw [F.2.2.2.1]; rfl) (fun z hz => absurd hz List.not_mem_nil) (by decide) (by decide) (hts _ wCL_L_72) (va_Nw.use rfl (hE.1.2.1 (xIO, xIO) (by simp [nwCast]))) hc9 hv9 hf9 ?_
                        refine W.eq (g2 := F0 m 149 ls [.ref q9]) rfl ?_
                        refine lv_astore (lv' := [(5, .ref q9), (0, .ref (ad 0 0)), (1, .int 8), (2, .int vw), (3, .int vr), (4, .int 0)]) hx hb dL_does_149 hl (by decide) rfl (fun ls hl => ?_)
                        refine lv_bipush (v := (-11)) hx hb dL_does_151 (by decide) ?_
                        exact kiret hx hb hr hlocks hS (by decide) (by decide) dL_does_153 (⟨by rw [e27]; rfl, nT', nW', ad', σ', qs', f', D', ea', hP2, hR2, hI2⟩)
                      · refine vx_catch (own := RL) (name := xIS) F.1.2.2.2.1 [⟨0, 148, 149, 72⟩, ⟨0, 148, 154, 74⟩] ⟨0, 148, 159, 76⟩ [] (by rw [F.2.2.2.1]; rfl) (fun z hz => by
                          simp only [List.mem_cons, List.not_mem_nil, or_false] at hz
                          rcases hz with rfl | rfl
                          · exact Or.inr ⟨by decide, xIO, hts _ wCL_L_72, hN (xIS, xIO) (by simp [nwNot])⟩
                          · exact Or.inr ⟨by decide, xIA, hts _ wCL_L_74, hN (xIS, xIA) (by simp [nwNot])⟩) (by decide) (by decide) (hts _ wCL_L_76) (va_Nw.use rfl (hE.1.2.1 (xIS, xIS) (by simp [nwCast]))) hc9 hv9 hf9 ?_
                        refine W.eq (g2 := F0 m 159 ls [.ref q9]) rfl ?_
                        refine lv_astore (lv' := [(5, .ref q9), (0, .ref (ad 0 0)), (1, .int 8), (2, .int vw), (3, .int vr), (4, .int 0)]) hx hb dL_does_159 hl (by decide) rfl (fun ls hl => ?_)
                        refine lv_bipush (v := (-13)) hx hb dL_does_161 (by decide) ?_
                        exact kiret hx hb hr hlocks hS (by decide) (by decide) dL_does_163 (⟨by rw [e27]; rfl, nT', nW', ad', σ', qs', f', D', ea', hP2, hR2, hI2⟩)
                    · obtain ⟨e27, rfl, ad', σ', qs', nT', nW', f', D', ea', hP2, hR2, hI2⟩ := st_bringHome hR hI hv hcm
                      refine lv_goto (tgt := 148) hx hb dL_does_140 (by decide) ?_
                      exact kiret hx hb hr hlocks hS (by decide) (by decide) dL_does_148 (⟨by rw [e27]; rfl, nT', nW', ad', σ', qs', f', D', ea', hP2, hR2, hI2⟩)
                · exact absurd c_114_8 (by decide)
              · exact absurd c_99_7 (by decide)
            · exact absurd c_85_6 (by decide)
          · exact absurd c_63_5 (by decide)
        · exact absurd c_50_4 (by decide)
      · exact absurd c_37_3 (by decide)
    · exact absurd c_14_2 (by decide)
  · exact absurd c_1_1 (by decide)
set_option maxHeartbeats 4000000 in
set_option maxRecDepth 100000 in
theorem hD_addWork (l : Launch) (G : GE) (A : Nat → Prop) (hl9 : l.stackTraces = false) (a0 : Nat) (τ τ' : SG) (x : Int32) (nT nW N : Nat) (vr : Int32) (hcm : cm_addWork τ nW vr x τ') : HM l G A yL_does cL_does 6 (some .int) [(0, 148, 149, 72), (0, 148, 154, 74), (0, 148, 159, 76)] (rmL 10 6 250) [.ref a0, .int 9, .int vr, .int 0, .int 0] (CST G A a0 τ nT nW N) (fun v H => v = some (.int (dres (τ' 27 0) x)) ∧ ∃ nT' nW', CST G A a0 τ' nT' nW' (N + 1) H) := by
  refine HM.of (by decide) (Nat.le_of_ble_eq_true rfl) ?_
  intro p e s m args below meth c F hP ls hl
  obtain ⟨ad, σ, qs, f, D, rfl, hPX, hR, hI⟩ := hP
  have h80 : nT ≤ 80 ∧ nW ≤ 12 ∧ f ≤ nT := ⟨hR.1.2.2.1, hR.1.2.2.2.2.2.1, hR.1.2.1⟩
  have hx := F.1.1
  have hb := F.1.2.1
  have hown := F.1.2.2.2.1
  have hts := F.1.2.2.2.2
  have hr := F.2.1
  have hlocks := F.2.2.1
  have hE := F.2.2.2.2.1
  have hN := F.2.2.2.2.2.1
  have hA := F.2.2.2.2.2.2
  have hS : va_S A s.heap s.heap [] := va_S.rf
  have hl : lv_has ls 6 [(0, .ref (ad 0 0)), (1, .int 9), (2, .int vr), (3, .int 0), (4, .int 0)] := hl
  refine lv_iload_n hx hb dL_does_0 rfl (lv_at hl 1 rfl) ?_
  refine lv_if_ne (tgt := 12) hx hb dL_does_1 (by decide) (fun c_1_1 => ?_) (fun c_1_1 => ?_)
  · refine lv_iload_n hx hb dL_does_12 rfl (lv_at hl 1 rfl) ?_
    refine lv_iconst (v := 1) hx hb dL_does_13 (by decide) ?_
    refine lv_icmp_ne (tgt := 35) hx hb dL_does_14 (by decide) (fun c_14_2 => ?_) (fun c_14_2 => ?_)
    · refine lv_iload_n hx hb dL_does_35 rfl (lv_at hl 1 rfl) ?_
      refine lv_iconst (v := 2) hx hb dL_does_36 (by decide) ?_
      refine lv_icmp_ne (tgt := 48) hx hb dL_does_37 (by decide) (fun c_37_3 => ?_) (fun c_37_3 => ?_)
      · refine lv_iload_n hx hb dL_does_48 rfl (lv_at hl 1 rfl) ?_
        refine lv_iconst (v := 3) hx hb dL_does_49 (by decide) ?_
        refine lv_icmp_ne (tgt := 61) hx hb dL_does_50 (by decide) (fun c_50_4 => ?_) (fun c_50_4 => ?_)
        · refine lv_iload_n hx hb dL_does_61 rfl (lv_at hl 1 rfl) ?_
          refine lv_iconst (v := 4) hx hb dL_does_62 (by decide) ?_
          refine lv_icmp_ne (tgt := 83) hx hb dL_does_63 (by decide) (fun c_63_5 => ?_) (fun c_63_5 => ?_)
          · refine lv_iload_n hx hb dL_does_83 rfl (lv_at hl 1 rfl) ?_
            refine lv_iconst (v := 5) hx hb dL_does_84 (by decide) ?_
            refine lv_icmp_ne (tgt := 96) hx hb dL_does_85 (by decide) (fun c_85_6 => ?_) (fun c_85_6 => ?_)
            · refine lv_iload_n hx hb dL_does_96 rfl (lv_at hl 1 rfl) ?_
              refine lv_bipush (v := 6) hx hb dL_does_97 (by decide) ?_
              refine lv_icmp_ne (tgt := 111) hx hb dL_does_99 (by decide) (fun c_99_7 => ?_) (fun c_99_7 => ?_)
              · refine lv_iload_n hx hb dL_does_111 rfl (lv_at hl 1 rfl) ?_
                refine lv_bipush (v := 7) hx hb dL_does_112 (by decide) ?_
                refine lv_icmp_ne (tgt := 128) hx hb dL_does_114 (by decide) (fun c_114_8 => ?_) (fun c_114_8 => ?_)
                · refine lv_iload_n hx hb dL_does_128 rfl (lv_at hl 1 rfl) ?_
                  refine lv_bipush (v := 8) hx hb dL_does_129 (by decide) ?_
                  refine lv_icmp_ne (tgt := 143) hx hb dL_does_131 (by decide) (fun c_131_9 => ?_) (fun c_131_9 => ?_)
                  · refine lv_aload_n hx hb dL_does_143 rfl (lv_at hl 0 rfl) ?_
                    refine lv_iload_n hx hb dL_does_144 rfl (lv_at hl 2 rfl) ?_
                    refine hcallV (n := 1) F.1 hE (kP_addWork l G A ad σ qs nT nW hl9 vr h80.2.1) wML_L_69 wIM_X5_addWork wSE_X5_X5_addWork wIN_X5 wCO_X5_addWork (by decide) rfl ⟨by decide, by decide⟩ (orec hE (hPX.main rfl) (show mcl[7]? = some (RX5, TX5, 8) from rfl)) hS (fun q h => h) (fun q h => hA q (Nat.le_trans hS.1 h)) hPX rfl hl.1 (Nat.le_of_ble_eq_true rfl) dL_does_145 ⟨by decide, by decide⟩ (fun E ce q9 H1 locs1 hx9 hk hS hc9 hv9 hf9 => ?_) (fun v H1 locs1 hv hk hS => ?_)
                    · rcases sx_addWork hR hI hx9 hcm with ⟨rfl, e27, ad', σ', qs', nT', nW', f', D', ea', hP2, hR2, hI2⟩ | ⟨rfl, e27, ad', σ', qs', nT', nW', f', D', ea', hP2, hR2, hI2⟩
                      · refine vx_catch (own := RL) (name := xIO) F.1.2.2.2.1 [] ⟨0, 148, 149, 72⟩ [⟨0, 148, 154, 74⟩, ⟨0, 148, 159, 76⟩] (by rw [F.2.2.2.1]; rfl) (fun z hz => absurd hz List.not_mem_nil) (by decide) (by decide) (hts _ wCL_L_72) (va_Nw.use rfl (hE.1.2.1 (xIO, xIO) (by simp [nwCast]))) hc9 hv9 hf9 ?_
                        refine W.eq (g2 := F0 m 149 ls [.ref q9]) rfl ?_
                        refine lv_astore (lv' := [(5, .ref q9), (0, .ref (ad 0 0)), (1, .int 9), (2, .int vr), (3, .int 0), (4, .int 0)]) hx hb dL_does_149 hl (by decide) rfl (fun ls hl => ?_)
                        refine lv_bipush (v := (-11)) hx hb dL_does_151 (by decide) ?_
                        exact kiret hx hb hr hlocks hS (by decide) (by decide) dL_does_153 (⟨by rw [e27]; rfl, nT', nW', ad', σ', qs', f', D', ea', hP2, hR2, hI2⟩)
                      · refine vx_catch (own := RL) (name := xIS) F.1.2.2.2.1 [⟨0, 148, 149, 72⟩, ⟨0, 148, 154, 74⟩] ⟨0, 148, 159, 76⟩ [] (by rw [F.2.2.2.1]; rfl) (fun z hz => by
                          simp only [List.mem_cons, List.not_mem_nil, or_false] at hz
                          rcases hz with rfl | rfl
                          · exact Or.inr ⟨by decide, xIO, hts _ wCL_L_72, hN (xIS, xIO) (by simp [nwNot])⟩
                          · exact Or.inr ⟨by decide, xIA, hts _ wCL_L_74, hN (xIS, xIA) (by simp [nwNot])⟩) (by decide) (by decide) (hts _ wCL_L_76) (va_Nw.use rfl (hE.1.2.1 (xIS, xIS) (by simp [nwCast]))) hc9 hv9 hf9 ?_
                        refine W.eq (g2 := F0 m 159 ls [.ref q9]) rfl ?_
                        refine lv_astore (lv' := [(5, .ref q9), (0, .ref (ad 0 0)), (1, .int 9), (2, .int vr), (3, .int 0), (4, .int 0)]) hx hb dL_does_159 hl (by decide) rfl (fun ls hl => ?_)
                        refine lv_bipush (v := (-13)) hx hb dL_does_161 (by decide) ?_
                        exact kiret hx hb hr hlocks hS (by decide) (by decide) dL_does_163 (⟨by rw [e27]; rfl, nT', nW', ad', σ', qs', f', D', ea', hP2, hR2, hI2⟩)
                    · obtain ⟨e27, rfl, ad', σ', qs', nT', nW', f', D', ea', hP2, hR2, hI2⟩ := st_addWork hR hI hv hcm
                      exact kiret hx hb hr hlocks hS (by decide) (by decide) dL_does_148 (⟨by rw [e27]; rfl, nT', nW', ad', σ', qs', f', D', ea', hP2, hR2, hI2⟩)
                  · exact absurd c_131_9 (by decide)
                · exact absurd c_114_8 (by decide)
              · exact absurd c_99_7 (by decide)
            · exact absurd c_85_6 (by decide)
          · exact absurd c_63_5 (by decide)
        · exact absurd c_50_4 (by decide)
      · exact absurd c_37_3 (by decide)
    · exact absurd c_14_2 (by decide)
  · exact absurd c_1_1 (by decide)
