set_option maxHeartbeats 4000000 in
set_option maxRecDepth 100000 in
theorem LC_close (l : Launch) (hl9 : l.stackTraces = false) {p : Program} {e : Env} {s : State} {m : MethodId} {below : List Frame} {meth : Method} {c : Code} {b : Nat} {G : GE} {a0 : Nat} {al : Nat → Nat} (C : CallFix p m c cL_law 30 s #[Value.ref b] gTb RL) (hE : EN (fun q => s.heap.size ≤ q) G s s.heap) (hN : NCX s) {N cc9 ss9 : Nat} {Qw : State → Prop} {H : Heap} {locs : List Loc} {ls : Array Slot} (hcc : cc9 ≤ 700000) (hss : ss9 ≤ 6900000) (hN9 : N ≤ 200) {τ μ : SG} {nT nW : Nat} (hS : va_S (fun q => s.heap.size ≤ q) s.heap H locs) (hC : CST G (AxL s.heap.size al) a0 τ nT nW N H) (hP : PL G (fun q => s.heap.size ≤ q) al μ 14 H) (hR : LR μ τ nT nW) (ht0 : thr τ 0 = τ) {z9 kd tn : Int32} {y i r h k u : Nat} (hy : y < 67108864) (hiT : nT ≠ 0 → i < nT) (hi0 : nT = 0 → i = 0) (hr9 : r < 12) (hh4 : h < 4) (hk6 : k < 6) (hu0 : nW ≠ 0 → u < nW) (hl : lv_has ls 30 [(18, .int z9), (19, .int kd), (20, .int (nI y)), (21, .int (nI i)), (22, .int (nI r)), (23, .int (nI h)), (24, .int (nI k)), (25, .int (nI u)), (16, .int 1), (17, .int tn), (0, .ref b), (1, .ref a0), (2, .ref (al 0)), (3, .ref (al 1)), (4, .ref (al 2)), (5, .ref (al 3)), (6, .ref (al 4)), (7, .ref (al 5)), (8, .ref (al 6)), (9, .ref (al 7)), (10, .ref (al 8)), (11, .ref (al 9)), (12, .ref (al 10)), (13, .ref (al 11)), (14, .ref (al 12)), (15, .ref (al 13))])
    (kk : ∀ (H1 : Heap) (locs1 : List Loc) (ls1 : Array Slot) (cc1 ss1 : Nat), cc1 ≤ cc9 + 10 → ss1 ≤ ss9 + 300 → va_S (fun q => s.heap.size ≤ q) s.heap H1 locs1 → LINV G s.heap.size a0 al (N + 1) H1 → lv_has ls1 30 [(16, .int 1), (17, .int tn), (20, .int (nI y)), (0, .ref b), (1, .ref a0), (2, .ref (al 0)), (3, .ref (al 1)), (4, .ref (al 2)), (5, .ref (al 3)), (6, .ref (al 4)), (7, .ref (al 5)), (8, .ref (al 6)), (9, .ref (al 7)), (10, .ref (al 8)), (11, .ref (al 9)), (12, .ref (al 10)), (13, .ref (al 11)), (14, .ref (al 12)), (15, .ref (al 13))] → W p l e room_1 s m #[Value.ref b] below meth c H1 locs1 cc1 ss1 Qw (F0 m 2555 ls1 [])) : W p l e room_1 s m #[Value.ref b] below meth c H locs cc9 ss9 Qw (F0 m 1027 ls []) := by
  have hx := C.1
  have hb := C.2.1
  have hown := C.2.2.2.1
  have hts := C.2.2.2.2
  obtain ⟨h60, h10⟩ := lr_n60 hR
  have h27 : τ 27 0 = 0 := by rw [← ht0]; exact thr_27
  have hi60 : i < 60 := by
    rcases Nat.eq_zero_or_pos nT with z | z
    · rw [hi0 z]; omega
    · have := hiT (by omega); omega
  have hMB : ∀ q, McL al q → s.heap.size ≤ q := by
    rintro q ⟨f, hf, rfl⟩
    exact hP.oarr f hf
  have hZ := hC.Z
  obtain ⟨D9, hD9, eD9⟩ := hC.D
  obtain ⟨K9, hK9, eK9⟩ := hC.K
  refine lv_iload hx hb dL_law_1027 (lv_at hl 1 rfl) ?_
  refine lv_bipush (v := 12) hx hb dL_law_1029 (by decide) ?_
  refine lv_icmp_ne (tgt := 1197) hx hb dL_law_1031 (by decide) (fun c_1031_1 => ?_) (fun c_1031_1 => ?_)
  · exact LC_enter l hl9 C hE hN hcc hss hN9 hS hC hP hR ht0 hy hiT hi0 hr9 hh4 hk6 hu0 (lv_sub hl [0, 1, 2, 3, 4, 5, 6, 7, 8, 9, 10, 11, 12, 13, 14, 15, 16, 17, 18, 19, 20, 21, 22, 23, 24, 25] rfl) kk
  · refine lv_iload hx hb dL_law_1034 (lv_at hl 2 rfl) ?_
    refine lv_bipush (v := 20) hx hb dL_law_1036 (by decide) ?_
    refine lv_idiv hx hb dL_law_1038 (by decide) ?_
    refine lv_iconst (v := 4) hx hb dL_law_1039 (by decide) ?_
    refine lv_irem hx hb dL_law_1040 (by decide) ?_
    refine lv_if_le (tgt := 1048) hx hb dL_law_1041 (by decide) (fun c_1041_2 => ?_) (fun c_1041_2 => ?_)
    · refine lv_iconst (v := 0) hx hb dL_law_1048 (by decide) ?_
      refine lv_istore (lv' := [(26, .int 0), (18, .int z9), (19, .int kd), (20, .int (nI y)), (21, .int (nI i)), (22, .int (nI r)), (23, .int (nI h)), (24, .int (nI k)), (25, .int (nI u)), (16, .int 1), (17, .int tn), (0, .ref b), (1, .ref a0), (2, .ref (al 0)), (3, .ref (al 1)), (4, .ref (al 2)), (5, .ref (al 3)), (6, .ref (al 4)), (7, .ref (al 5)), (8, .ref (al 6)), (9, .ref (al 7)), (10, .ref (al 8)), (11, .ref (al 9)), (12, .ref (al 10)), (13, .ref (al 11)), (14, .ref (al 12)), (15, .ref (al 13))]) hx hb dL_law_1049 hl (by decide) rfl (fun ls hl => ?_)
      refine lv_iconst (v := 0) hx hb dL_law_1051 (by decide) ?_
      refine lv_istore (lv' := [(27, .int 0), (26, .int 0), (18, .int z9), (19, .int kd), (20, .int (nI y)), (21, .int (nI i)), (22, .int (nI r)), (23, .int (nI h)), (24, .int (nI k)), (25, .int (nI u)), (16, .int 1), (17, .int tn), (0, .ref b), (1, .ref a0), (2, .ref (al 0)), (3, .ref (al 1)), (4, .ref (al 2)), (5, .ref (al 3)), (6, .ref (al 4)), (7, .ref (al 5)), (8, .ref (al 6)), (9, .ref (al 7)), (10, .ref (al 8)), (11, .ref (al 9)), (12, .ref (al 10)), (13, .ref (al 11)), (14, .ref (al 12)), (15, .ref (al 13))]) hx hb dL_law_1052 hl (by decide) rfl (fun ls hl => ?_)
      refine lv_iconst (v := 0) hx hb dL_law_1054 (by decide) ?_
      refine lv_istore (lv' := [(28, .int 0), (27, .int 0), (26, .int 0), (18, .int z9), (19, .int kd), (20, .int (nI y)), (21, .int (nI i)), (22, .int (nI r)), (23, .int (nI h)), (24, .int (nI k)), (25, .int (nI u)), (16, .int 1), (17, .int tn), (0, .ref b), (1, .ref a0), (2, .ref (al 0)), (3, .ref (al 1)), (4, .ref (al 2)), (5, .ref (al 3)), (6, .ref (al 4)), (7, .ref (al 5)), (8, .ref (al 6)), (9, .ref (al 7)), (10, .ref (al 8)), (11, .ref (al 9)), (12, .ref (al 10)), (13, .ref (al 11)), (14, .ref (al 12)), (15, .ref (al 13))]) hx hb dL_law_1055 hl (by decide) rfl (fun ls hl => ?_)
      refine lv_iload hx hb dL_law_1057 (lv_at hl 0 rfl) ?_
      refine lv_aload_n hx hb dL_law_1059 rfl (lv_at hl 15 rfl) ?_
      refine lv_iconst (v := 0) hx hb dL_law_1060 (by decide) ?_
      refine xiald hx hb hE.1.1 (hP.arr 0 (by decide)) 0 rfl (k := 0) rfl (show _ < 7 by omega) (by decide) dL_law_1061 ?_
      refine W.eq (g2 := F0 m 1062 ls [.int (nI nT), .int 0]) (congrArg (fun z => F0 m 1062 ls [.int z, .int 0]) (lr_n0 hR)) ?_
      refine lv_icmp_ge (tgt := 1142) hx hb dL_law_1062 (by decide) (fun c_1062_3 => ?_) (fun c_1062_3 => ?_)
      · obtain ⟨s9, hs9, e6, eO, hRs⟩ := hR.unsh hr9
        refine lv_aload_n hx hb dL_law_1142 rfl (lv_at hl 15 rfl) ?_
        refine lv_bipush (v := 6) hx hb dL_law_1143 (by decide) ?_
        refine lv_iload hx hb dL_law_1145 (lv_at hl 2 rfl) ?_
        refine lv_if_eq (tgt := 1162) hx hb dL_law_1147 (by decide) (fun c_1147_4 => ?_) (fun c_1147_4 => ?_)
        · refine lv_aload_n hx hb dL_law_1162 rfl (lv_at hl 15 rfl) ?_
          refine lv_bipush (v := 6) hx hb dL_law_1163 (by decide) ?_
          refine xiald hx hb hE.1.1 (hP.arr 0 (by decide)) 0 rfl (k := 6) rfl (show _ < 7 by omega) (by decide) dL_law_1165 ?_
          refine W.eq (g2 := F0 m 1166 ls [.int (nI s9), .int 6, .ref (al 0)]) (congrArg (fun z => F0 m 1166 ls [.int z, .int 6, .ref (al 0)]) (e6)) ?_
          refine lv_iconst (v := 1) hx hb dL_law_1166 (by decide) ?_
          refine lv_iload hx hb dL_law_1167 (lv_at hl 7 rfl) ?_
          refine lv_ishl hx hb dL_law_1169 ?_
          refine lv_iconst (v := (-1)) hx hb dL_law_1170 (by decide) ?_
          refine lv_ixor hx hb dL_law_1171 ?_
          refine lv_iand hx hb dL_law_1172 ?_
          refine W.eq (g2 := F0 m 1173 ls [.int (nI (s9 &&& (4294967295 - 2 ^ r))), .int 6, .ref (al 0)]) (congrArg (fun z => F0 m 1173 ls [.int z, .int 6, .ref (al 0)]) (eO)) ?_
          refine xiast hx hb hE.1.1 hS (hP.arr 0 (by decide)) (hP.oarr 0 (by decide)) 0 rfl (k := 6) rfl (show _ < 7 by omega) (by decide) dL_law_1173 (fun H1 locs1 he1 z1 oq1 hS => ?_)
          have hP := hP.put 0 6 (by decide) he1 oq1
          have hC := hC.offL (f := 0) (by decide) z1 oq1
          refine lv_aload_n hx hb dL_law_1174 rfl (lv_at hl 14 rfl) ?_
          refine lv_iload hx hb dL_law_1175 (lv_at hl 7 rfl) ?_
          refine lv_iload hx hb dL_law_1177 (lv_at hl 2 rfl) ?_
          have hcm : cm_close τ nT (nI r) false 0 (up τ 15 r 0) := by
            unfold cm_close
            rw [ht0]
            exact Or.inr (Or.inr ⟨r, hr9, rfl, rfl, rfl, rfl⟩)
          have h27p : (up τ 15 r 0) 27 0 = 0 := by simp [up]; exact h27
          obtain ⟨ad, σ, qs, f, D, rfl, hPX, hR0, hI0⟩ := hC
          have h80 : nT ≤ 80 ∧ nW ≤ 12 ∧ f ≤ nT := ⟨hR0.1.2.2.1, hR0.1.2.2.2.2.2.1, hR0.1.2.1⟩
          refine hcallV (n := 2) C hE (kP_close l G (AxL s.heap.size al) ad σ qs nT nW hl9 (nI r) false f hR0.1.1 h80.2.2 h80.1) wML_L_146 wIM_X5_close wSE_X5_X5_close wIN_X5 wCO_X5_close (by decide) rfl ⟨Nat.le_of_ble_eq_true rfl, Nat.le_of_ble_eq_true rfl⟩ (orec hE (hPX.main rfl) (show mcl[7]? = some (RX5, TX5, 8) from rfl)) hS (fun q h => h.1) (fun q h => AxL.new hP hS.1 q h) hPX rfl hl.1 (Nat.le_of_ble_eq_true rfl) dL_law_1179 ⟨by show cc9 + 1 ≤ 709356; omega, by show ss9 + 6 ≤ 6973399; omega⟩ (fun E ce q9 H1 locs1 hx9 hk9 hS9 hc9 hv9 hf9 => by
            rcases sx_close hR0 hI0 hx9 hcm with ⟨-, z, -⟩ <;> exact absurd (h27p.symm.trans z) (by decide)) (fun v H1 locs1 hv hk hS => ?_)
          obtain ⟨e27, rfl, ad', σ', qs', nT', nW', f', D', ea', hP2, hR2, hI2⟩ := st_close hR0 hI0 hv hcm
          have hC : CST G (AxL s.heap.size al) (ad 0 0) (up τ 15 r 0) nT' nW' (N + 1) H1 := ⟨ad', σ', qs', f', D', ea', hP2, hR2, hI2⟩
          have hP := hP.keptL hk (fun q hq h => h.2 hq)
          refine lv_iload hx hb dL_law_1182 (lv_at hl 1 rfl) ?_
          refine lv_icmp_ne (tgt := 1191) hx hb dL_law_1184 (by decide) (fun c_1184_5 => ?_) (fun c_1184_5 => ?_)
          · exact absurd c_1184_5 (by decide)
          · refine lv_iconst (v := 1) hx hb dL_law_1187 (by decide) ?_
            refine lv_goto (tgt := 1192) hx hb dL_law_1188 (by decide) ?_
            refine lv_istore (lv' := [(16, .int 1), (28, .int 0), (27, .int 0), (26, .int 0), (18, .int z9), (19, .int kd), (20, .int (nI y)), (21, .int (nI i)), (22, .int (nI r)), (23, .int (nI h)), (24, .int (nI k)), (25, .int (nI u)), (17, .int tn), (0, .ref b), (1, .ref (ad 0 0)), (2, .ref (al 0)), (3, .ref (al 1)), (4, .ref (al 2)), (5, .ref (al 3)), (6, .ref (al 4)), (7, .ref (al 5)), (8, .ref (al 6)), (9, .ref (al 7)), (10, .ref (al 8)), (11, .ref (al 9)), (12, .ref (al 10)), (13, .ref (al 11)), (14, .ref (al 12)), (15, .ref (al 13))]) hx hb dL_law_1192 hl (by decide) rfl (fun ls hl => ?_)
            refine lv_goto (tgt := 2555) hx hb dL_law_1194 (by decide) ?_
            have hRf : LR (up μ 0 6 (nI (s9 &&& (4294967295 - 2 ^ r)))) (up τ 15 r 0) nT nW := hRs
            exact kk _ _ _ _ _ (show cc9 + 1 ≤ cc9 + 10 by omega) (show ss9 + 6 ≤ ss9 + 300 by omega) hS (LINV.of hC hP hRf) (lv_sub hl [0, 12, 6, 13, 14, 15, 16, 17, 18, 19, 20, 21, 22, 23, 24, 25, 26, 27, 28] rfl)
        · exact absurd c_1147_4 (by decide)
      · refine lv_iload hx hb dL_law_1065 (lv_at hl 2 rfl) ?_
        refine lv_if_eq (tgt := 1142) hx hb dL_law_1067 (by decide) (fun c_1067_6 => ?_) (fun c_1067_6 => ?_)
        · obtain ⟨s9, hs9, e6, eO, hRs⟩ := hR.unsh hr9
          refine lv_aload_n hx hb dL_law_1142 rfl (lv_at hl 15 rfl) ?_
          refine lv_bipush (v := 6) hx hb dL_law_1143 (by decide) ?_
          refine lv_iload hx hb dL_law_1145 (lv_at hl 2 rfl) ?_
          refine lv_if_eq (tgt := 1162) hx hb dL_law_1147 (by decide) (fun c_1147_7 => ?_) (fun c_1147_7 => ?_)
          · refine lv_aload_n hx hb dL_law_1162 rfl (lv_at hl 15 rfl) ?_
            refine lv_bipush (v := 6) hx hb dL_law_1163 (by decide) ?_
            refine xiald hx hb hE.1.1 (hP.arr 0 (by decide)) 0 rfl (k := 6) rfl (show _ < 7 by omega) (by decide) dL_law_1165 ?_
            refine W.eq (g2 := F0 m 1166 ls [.int (nI s9), .int 6, .ref (al 0)]) (congrArg (fun z => F0 m 1166 ls [.int z, .int 6, .ref (al 0)]) (e6)) ?_
            refine lv_iconst (v := 1) hx hb dL_law_1166 (by decide) ?_
            refine lv_iload hx hb dL_law_1167 (lv_at hl 7 rfl) ?_
            refine lv_ishl hx hb dL_law_1169 ?_
            refine lv_iconst (v := (-1)) hx hb dL_law_1170 (by decide) ?_
            refine lv_ixor hx hb dL_law_1171 ?_
            refine lv_iand hx hb dL_law_1172 ?_
            refine W.eq (g2 := F0 m 1173 ls [.int (nI (s9 &&& (4294967295 - 2 ^ r))), .int 6, .ref (al 0)]) (congrArg (fun z => F0 m 1173 ls [.int z, .int 6, .ref (al 0)]) (eO)) ?_
            refine xiast hx hb hE.1.1 hS (hP.arr 0 (by decide)) (hP.oarr 0 (by decide)) 0 rfl (k := 6) rfl (show _ < 7 by omega) (by decide) dL_law_1173 (fun H1 locs1 he1 z1 oq1 hS => ?_)
            have hP := hP.put 0 6 (by decide) he1 oq1
            have hC := hC.offL (f := 0) (by decide) z1 oq1
            refine lv_aload_n hx hb dL_law_1174 rfl (lv_at hl 14 rfl) ?_
            refine lv_iload hx hb dL_law_1175 (lv_at hl 7 rfl) ?_
            refine lv_iload hx hb dL_law_1177 (lv_at hl 2 rfl) ?_
            have hcm : cm_close τ nT (nI r) false 0 (up τ 15 r 0) := by
              unfold cm_close
              rw [ht0]
              exact Or.inr (Or.inr ⟨r, hr9, rfl, rfl, rfl, rfl⟩)
            have h27p : (up τ 15 r 0) 27 0 = 0 := by simp [up]; exact h27
            obtain ⟨ad, σ, qs, f, D, rfl, hPX, hR0, hI0⟩ := hC
            have h80 : nT ≤ 80 ∧ nW ≤ 12 ∧ f ≤ nT := ⟨hR0.1.2.2.1, hR0.1.2.2.2.2.2.1, hR0.1.2.1⟩
            refine hcallV (n := 2) C hE (kP_close l G (AxL s.heap.size al) ad σ qs nT nW hl9 (nI r) false f hR0.1.1 h80.2.2 h80.1) wML_L_146 wIM_X5_close wSE_X5_X5_close wIN_X5 wCO_X5_close (by decide) rfl ⟨Nat.le_of_ble_eq_true rfl, Nat.le_of_ble_eq_true rfl⟩ (orec hE (hPX.main rfl) (show mcl[7]? = some (RX5, TX5, 8) from rfl)) hS (fun q h => h.1) (fun q h => AxL.new hP hS.1 q h) hPX rfl hl.1 (Nat.le_of_ble_eq_true rfl) dL_law_1179 ⟨by show cc9 + 1 ≤ 709356; omega, by show ss9 + 6 ≤ 6973399; omega⟩ (fun E ce q9 H1 locs1 hx9 hk9 hS9 hc9 hv9 hf9 => by
              rcases sx_close hR0 hI0 hx9 hcm with ⟨-, z, -⟩ <;> exact absurd (h27p.symm.trans z) (by decide)) (fun v H1 locs1 hv hk hS => ?_)
            obtain ⟨e27, rfl, ad', σ', qs', nT', nW', f', D', ea', hP2, hR2, hI2⟩ := st_close hR0 hI0 hv hcm
            have hC : CST G (AxL s.heap.size al) (ad 0 0) (up τ 15 r 0) nT' nW' (N + 1) H1 := ⟨ad', σ', qs', f', D', ea', hP2, hR2, hI2⟩
            have hP := hP.keptL hk (fun q hq h => h.2 hq)
            refine lv_iload hx hb dL_law_1182 (lv_at hl 1 rfl) ?_
            refine lv_icmp_ne (tgt := 1191) hx hb dL_law_1184 (by decide) (fun c_1184_8 => ?_) (fun c_1184_8 => ?_)
            · exact absurd c_1184_8 (by decide)
            · refine lv_iconst (v := 1) hx hb dL_law_1187 (by decide) ?_
              refine lv_goto (tgt := 1192) hx hb dL_law_1188 (by decide) ?_
              refine lv_istore (lv' := [(16, .int 1), (28, .int 0), (27, .int 0), (26, .int 0), (18, .int z9), (19, .int kd), (20, .int (nI y)), (21, .int (nI i)), (22, .int (nI r)), (23, .int (nI h)), (24, .int (nI k)), (25, .int (nI u)), (17, .int tn), (0, .ref b), (1, .ref (ad 0 0)), (2, .ref (al 0)), (3, .ref (al 1)), (4, .ref (al 2)), (5, .ref (al 3)), (6, .ref (al 4)), (7, .ref (al 5)), (8, .ref (al 6)), (9, .ref (al 7)), (10, .ref (al 8)), (11, .ref (al 9)), (12, .ref (al 10)), (13, .ref (al 11)), (14, .ref (al 12)), (15, .ref (al 13))]) hx hb dL_law_1192 hl (by decide) rfl (fun ls hl => ?_)
              refine lv_goto (tgt := 2555) hx hb dL_law_1194 (by decide) ?_
              have hRf : LR (up μ 0 6 (nI (s9 &&& (4294967295 - 2 ^ r)))) (up τ 15 r 0) nT nW := hRs
              exact kk _ _ _ _ _ (show cc9 + 1 ≤ cc9 + 10 by omega) (show ss9 + 6 ≤ ss9 + 300 by omega) hS (LINV.of hC hP hRf) (lv_sub hl [0, 12, 6, 13, 14, 15, 16, 17, 18, 19, 20, 21, 22, 23, 24, 25, 26, 27, 28] rfl)
          · exact absurd c_1147_7 (by decide)
        · exact absurd c_1067_6 (by decide)
    · refine lv_iconst (v := 1) hx hb dL_law_1044 (by decide) ?_
      refine lv_goto (tgt := 1049) hx hb dL_law_1045 (by decide) ?_
      refine lv_istore (lv' := [(26, .int 1), (18, .int z9), (19, .int kd), (20, .int (nI y)), (21, .int (nI i)), (22, .int (nI r)), (23, .int (nI h)), (24, .int (nI k)), (25, .int (nI u)), (16, .int 1), (17, .int tn), (0, .ref b), (1, .ref a0), (2, .ref (al 0)), (3, .ref (al 1)), (4, .ref (al 2)), (5, .ref (al 3)), (6, .ref (al 4)), (7, .ref (al 5)), (8, .ref (al 6)), (9, .ref (al 7)), (10, .ref (al 8)), (11, .ref (al 9)), (12, .ref (al 10)), (13, .ref (al 11)), (14, .ref (al 12)), (15, .ref (al 13))]) hx hb dL_law_1049 hl (by decide) rfl (fun ls hl => ?_)
      refine lv_iconst (v := 0) hx hb dL_law_1051 (by decide) ?_
      refine lv_istore (lv' := [(27, .int 0), (26, .int 1), (18, .int z9), (19, .int kd), (20, .int (nI y)), (21, .int (nI i)), (22, .int (nI r)), (23, .int (nI h)), (24, .int (nI k)), (25, .int (nI u)), (16, .int 1), (17, .int tn), (0, .ref b), (1, .ref a0), (2, .ref (al 0)), (3, .ref (al 1)), (4, .ref (al 2)), (5, .ref (al 3)), (6, .ref (al 4)), (7, .ref (al 5)), (8, .ref (al 6)), (9, .ref (al 7)), (10, .ref (al 8)), (11, .ref (al 9)), (12, .ref (al 10)), (13, .ref (al 11)), (14, .ref (al 12)), (15, .ref (al 13))]) hx hb dL_law_1052 hl (by decide) rfl (fun ls hl => ?_)
      refine lv_iconst (v := 0) hx hb dL_law_1054 (by decide) ?_
      refine lv_istore (lv' := [(28, .int 0), (27, .int 0), (26, .int 1), (18, .int z9), (19, .int kd), (20, .int (nI y)), (21, .int (nI i)), (22, .int (nI r)), (23, .int (nI h)), (24, .int (nI k)), (25, .int (nI u)), (16, .int 1), (17, .int tn), (0, .ref b), (1, .ref a0), (2, .ref (al 0)), (3, .ref (al 1)), (4, .ref (al 2)), (5, .ref (al 3)), (6, .ref (al 4)), (7, .ref (al 5)), (8, .ref (al 6)), (9, .ref (al 7)), (10, .ref (al 8)), (11, .ref (al 9)), (12, .ref (al 10)), (13, .ref (al 11)), (14, .ref (al 12)), (15, .ref (al 13))]) hx hb dL_law_1055 hl (by decide) rfl (fun ls hl => ?_)
      have L1057 : ∀ (n9 : Nat) (μ1 τ1 : SG) (x1 : Int32) (j : Nat) (h1 : j ≤ nT) (h2 : nT < j + n9) (hR1 : LR μ1 τ1 nT nW) (hT : itr (mClrP r) j (nT - j) (τ1, x1) = mClear τ nT r) (H : Heap) (locs : List Loc) (ls : Array Slot), va_S (fun q => s.heap.size ≤ q) s.heap H locs → PL G (fun q => s.heap.size ≤ q) al μ1 14 H → CST G (AxL s.heap.size al) a0 τ nT nW N H → lv_has ls 30 [(28, .int (nI j)), (27, .int x1), (26, .int 1), (18, .int z9), (19, .int kd), (20, .int (nI y)), (21, .int (nI i)), (22, .int (nI r)), (23, .int (nI h)), (24, .int (nI k)), (25, .int (nI u)), (16, .int 1), (17, .int tn), (0, .ref b), (1, .ref a0), (2, .ref (al 0)), (3, .ref (al 1)), (4, .ref (al 2)), (5, .ref (al 3)), (6, .ref (al 4)), (7, .ref (al 5)), (8, .ref (al 6)), (9, .ref (al 7)), (10, .ref (al 8)), (11, .ref (al 9)), (12, .ref (al 10)), (13, .ref (al 11)), (14, .ref (al 12)), (15, .ref (al 13))] → W p l e room_1 s m #[Value.ref b] below meth c H locs (cc9) (ss9) Qw (F0 m 1057 ls []) := by
        intro n9
        induction n9 with
        | zero =>
          intro μ1 τ1 x1 j h1 h2 hR1 hT H locs ls hS hP hC hl
          exact absurd True.intro (by omega)
        | succ n9 ih1057 =>
          intro μ1 τ1 x1 j h1 h2 hR1 hT H locs ls hS hP hC hl
          refine lv_iload hx hb dL_law_1057 (lv_at hl 0 rfl) ?_
          refine lv_aload_n hx hb dL_law_1059 rfl (lv_at hl 15 rfl) ?_
          refine lv_iconst (v := 0) hx hb dL_law_1060 (by decide) ?_
          refine xiald hx hb hE.1.1 (hP.arr 0 (by decide)) 0 rfl (k := 0) rfl (show _ < 7 by omega) (by decide) dL_law_1061 ?_
          refine W.eq (g2 := F0 m 1062 ls [.int (nI nT), .int (nI j)]) (congrArg (fun z => F0 m 1062 ls [.int z, .int (nI j)]) (lr_n0 hR1)) ?_
          refine lv_icmp_ge (tgt := 1142) hx hb dL_law_1062 (by decide) (fun c_1062_9 => ?_) (fun c_1062_9 => ?_)
          · have ej := nI_eqle h1 (by omega) c_1062_9
            rw [ej, itr_end] at hT
            obtain ⟨s9, hs9, e6, eO, hRs⟩ := hR1.shut hr9
            refine lv_aload_n hx hb dL_law_1142 rfl (lv_at hl 15 rfl) ?_
            refine lv_bipush (v := 6) hx hb dL_law_1143 (by decide) ?_
            refine lv_iload hx hb dL_law_1145 (lv_at hl 2 rfl) ?_
            refine lv_if_eq (tgt := 1162) hx hb dL_law_1147 (by decide) (fun c_1147_10 => ?_) (fun c_1147_10 => ?_)
            · exact absurd c_1147_10 (by decide)
            · refine lv_aload_n hx hb dL_law_1150 rfl (lv_at hl 15 rfl) ?_
              refine lv_bipush (v := 6) hx hb dL_law_1151 (by decide) ?_
              refine xiald hx hb hE.1.1 (hP.arr 0 (by decide)) 0 rfl (k := 6) rfl (show _ < 7 by omega) (by decide) dL_law_1153 ?_
              refine W.eq (g2 := F0 m 1154 ls [.int (nI s9), .int 6, .ref (al 0)]) (congrArg (fun z => F0 m 1154 ls [.int z, .int 6, .ref (al 0)]) (e6)) ?_
              refine lv_iconst (v := 1) hx hb dL_law_1154 (by decide) ?_
              refine lv_iload hx hb dL_law_1155 (lv_at hl 7 rfl) ?_
              refine lv_ishl hx hb dL_law_1157 ?_
              refine lv_ior hx hb dL_law_1158 ?_
              refine W.eq (g2 := F0 m 1159 ls [.int (nI (s9 ||| 2 ^ r)), .int 6, .ref (al 0)]) (congrArg (fun z => F0 m 1159 ls [.int z, .int 6, .ref (al 0)]) (eO)) ?_
              refine lv_goto (tgt := 1173) hx hb dL_law_1159 (by decide) ?_
              refine xiast hx hb hE.1.1 hS (hP.arr 0 (by decide)) (hP.oarr 0 (by decide)) 0 rfl (k := 6) rfl (show _ < 7 by omega) (by decide) dL_law_1173 (fun H1 locs1 he1 z1 oq1 hS => ?_)
              have hP := hP.put 0 6 (by decide) he1 oq1
              have hC := hC.offL (f := 0) (by decide) z1 oq1
              refine lv_aload_n hx hb dL_law_1174 rfl (lv_at hl 14 rfl) ?_
              refine lv_iload hx hb dL_law_1175 (lv_at hl 7 rfl) ?_
              refine lv_iload hx hb dL_law_1177 (lv_at hl 2 rfl) ?_
              have hcm : cm_close τ nT (nI r) true x1 (up τ1 15 r 1) := by
                unfold cm_close
                rw [ht0]
                exact Or.inr (Or.inl ⟨r, hr9, rfl, rfl, by rw [clear_up, ← hT], by rw [clear_up, ← hT]; rfl⟩)
              have h27p : (up τ1 15 r 1) 27 0 = 0 := by
                have e1 : τ1 = (mClear τ nT r).1 := by rw [← hT]
                rw [up_f (by decide), e1, mClear_ne (by decide)]
                exact h27
              obtain ⟨ad, σ, qs, f, D, rfl, hPX, hR0, hI0⟩ := hC
              have h80 : nT ≤ 80 ∧ nW ≤ 12 ∧ f ≤ nT := ⟨hR0.1.2.2.1, hR0.1.2.2.2.2.2.1, hR0.1.2.1⟩
              refine hcallV (n := 2) C hE (kP_close l G (AxL s.heap.size al) ad σ qs nT nW hl9 (nI r) true f hR0.1.1 h80.2.2 h80.1) wML_L_146 wIM_X5_close wSE_X5_X5_close wIN_X5 wCO_X5_close (by decide) rfl ⟨Nat.le_of_ble_eq_true rfl, Nat.le_of_ble_eq_true rfl⟩ (orec hE (hPX.main rfl) (show mcl[7]? = some (RX5, TX5, 8) from rfl)) hS (fun q h => h.1) (fun q h => AxL.new hP hS.1 q h) hPX rfl hl.1 (Nat.le_of_ble_eq_true rfl) dL_law_1179 ⟨by show cc9 + 1 ≤ 709356; omega, by show ss9 + 6 ≤ 6973399; omega⟩ (fun E ce q9 H1 locs1 hx9 hk9 hS9 hc9 hv9 hf9 => by
                rcases sx_close hR0 hI0 hx9 hcm with ⟨-, z, -⟩ <;> exact absurd (h27p.symm.trans z) (by decide)) (fun v H1 locs1 hv hk hS => ?_)
              obtain ⟨e27, rfl, ad', σ', qs', nT', nW', f', D', ea', hP2, hR2, hI2⟩ := st_close hR0 hI0 hv hcm
              have hC : CST G (AxL s.heap.size al) (ad 0 0) (up τ1 15 r 1) nT' nW' (N + 1) H1 := ⟨ad', σ', qs', f', D', ea', hP2, hR2, hI2⟩
              have hP := hP.keptL hk (fun q hq h => h.2 hq)
              refine lv_iload hx hb dL_law_1182 (lv_at hl 1 rfl) ?_
              refine lv_icmp_ne (tgt := 1191) hx hb dL_law_1184 (by decide) (fun c_1184_11 => ?_) (fun c_1184_11 => ?_)
              · exact absurd rfl c_1184_11
              · refine lv_iconst (v := 1) hx hb dL_law_1187 (by decide) ?_
                refine lv_goto (tgt := 1192) hx hb dL_law_1188 (by decide) ?_
                refine lv_istore (lv' := [(16, .int 1), (28, .int (nI j)), (27, .int x1), (26, .int 1), (18, .int z9), (19, .int kd), (20, .int (nI y)), (21, .int (nI i)), (22, .int (nI r)), (23, .int (nI h)), (24, .int (nI k)), (25, .int (nI u)), (17, .int tn), (0, .ref b), (1, .ref (ad 0 0)), (2, .ref (al 0)), (3, .ref (al 1)), (4, .ref (al 2)), (5, .ref (al 3)), (6, .ref (al 4)), (7, .ref (al 5)), (8, .ref (al 6)), (9, .ref (al 7)), (10, .ref (al 8)), (11, .ref (al 9)), (12, .ref (al 10)), (13, .ref (al 11)), (14, .ref (al 12)), (15, .ref (al 13))]) hx hb dL_law_1192 hl (by decide) rfl (fun ls hl => ?_)
                refine lv_goto (tgt := 2555) hx hb dL_law_1194 (by decide) ?_
                have hRf : LR (up μ1 0 6 (nI (s9 ||| 2 ^ r))) (up τ1 15 r 1) nT nW := hRs
                exact kk _ _ _ _ _ (show cc9 + 1 ≤ cc9 + 10 by omega) (show ss9 + 6 ≤ ss9 + 300 by omega) hS (LINV.of hC hP hRf) (lv_sub hl [0, 12, 6, 13, 14, 15, 16, 17, 18, 19, 20, 21, 22, 23, 24, 25, 26, 27, 28] rfl)
          · have hj := nI_lt' h1 (by omega) c_1062_9
            refine lv_iload hx hb dL_law_1065 (lv_at hl 2 rfl) ?_
            refine lv_if_eq (tgt := 1142) hx hb dL_law_1067 (by decide) (fun c_1067_12 => ?_) (fun c_1067_12 => ?_)
            · exact absurd c_1067_12 (by decide)
            · refine lv_aload hx hb dL_law_1070 (lv_at hl 21 rfl) ?_
              refine lv_iload hx hb dL_law_1072 (lv_at hl 0 rfl) ?_
              refine xiald hx hb hE.1.1 (hP.arr 6 (by decide)) 0 rfl (k := j) rfl (show _ < 60 by omega) (by decide) dL_law_1074 ?_
              refine lv_iload hx hb dL_law_1075 (lv_at hl 7 rfl) ?_
              refine lv_iconst (v := 1) hx hb dL_law_1077 (by decide) ?_
              refine lv_iadd hx hb dL_law_1078 ?_
              refine lv_icmp_eq (tgt := 1095) hx hb dL_law_1079 (by decide) (fun c_1079_13 => ?_) (fun c_1079_13 => ?_)
              · refine lv_iconst (v := 1) hx hb dL_law_1095 (by decide) ?_
                refine lv_goto (tgt := 1100) hx hb dL_law_1096 (by decide) ?_
                refine lv_istore (lv' := [(29, .int 1), (28, .int (nI j)), (27, .int x1), (26, .int 1), (18, .int z9), (19, .int kd), (20, .int (nI y)), (21, .int (nI i)), (22, .int (nI r)), (23, .int (nI h)), (24, .int (nI k)), (25, .int (nI u)), (16, .int 1), (17, .int tn), (0, .ref b), (1, .ref a0), (2, .ref (al 0)), (3, .ref (al 1)), (4, .ref (al 2)), (5, .ref (al 3)), (6, .ref (al 4)), (7, .ref (al 5)), (8, .ref (al 6)), (9, .ref (al 7)), (10, .ref (al 8)), (11, .ref (al 9)), (12, .ref (al 10)), (13, .ref (al 11)), (14, .ref (al 12)), (15, .ref (al 13))]) hx hb dL_law_1100 hl (by decide) rfl (fun ls hl => ?_)
                refine lv_iload hx hb dL_law_1102 (lv_at hl 2 rfl) ?_
                refine lv_iload hx hb dL_law_1104 (lv_at hl 0 rfl) ?_
                refine lv_if_eq (tgt := 1113) hx hb dL_law_1106 (by decide) (fun c_1106_14 => ?_) (fun c_1106_14 => ?_)
                · exact absurd c_1106_14 (by decide)
                · refine lv_iconst (v := 1) hx hb dL_law_1109 (by decide) ?_
                  refine lv_goto (tgt := 1114) hx hb dL_law_1110 (by decide) ?_
                  refine lv_iadd hx hb dL_law_1114 ?_
                  refine lv_istore (lv' := [(27, .int (x1 + 1)), (29, .int 1), (28, .int (nI j)), (26, .int 1), (18, .int z9), (19, .int kd), (20, .int (nI y)), (21, .int (nI i)), (22, .int (nI r)), (23, .int (nI h)), (24, .int (nI k)), (25, .int (nI u)), (16, .int 1), (17, .int tn), (0, .ref b), (1, .ref a0), (2, .ref (al 0)), (3, .ref (al 1)), (4, .ref (al 2)), (5, .ref (al 3)), (6, .ref (al 4)), (7, .ref (al 5)), (8, .ref (al 6)), (9, .ref (al 7)), (10, .ref (al 8)), (11, .ref (al 9)), (12, .ref (al 10)), (13, .ref (al 11)), (14, .ref (al 12)), (15, .ref (al 13))]) hx hb dL_law_1115 hl (by decide) rfl (fun ls hl => ?_)
                  refine lv_aload hx hb dL_law_1117 (lv_at hl 22 rfl) ?_
                  refine lv_iload hx hb dL_law_1119 (lv_at hl 2 rfl) ?_
                  refine lv_iload hx hb dL_law_1121 (lv_at hl 1 rfl) ?_
                  refine lv_if_eq (tgt := 1130) hx hb dL_law_1123 (by decide) (fun c_1123_15 => ?_) (fun c_1123_15 => ?_)
                  · exact absurd c_1123_15 (by decide)
                  · refine lv_iconst (v := 0) hx hb dL_law_1126 (by decide) ?_
                    refine lv_goto (tgt := 1135) hx hb dL_law_1127 (by decide) ?_
                    refine xiast hx hb hE.1.1 hS (hP.arr 6 (by decide)) (hP.oarr 6 (by decide)) 0 rfl (k := j) rfl (show _ < 60 by omega) (by decide) dL_law_1135 (fun H1 locs1 he1 z1 oq1 hS => ?_)
                    have hP := hP.put 6 j (by decide) he1 oq1
                    have hC := hC.offL (f := 6) (by decide) z1 oq1
                    refine lv_iinc (v := (nI (j + 1))) (lv' := [(28, .int (nI (j + 1))), (27, .int (x1 + 1)), (29, .int 1), (26, .int 1), (18, .int z9), (19, .int kd), (20, .int (nI y)), (21, .int (nI i)), (22, .int (nI r)), (23, .int (nI h)), (24, .int (nI k)), (25, .int (nI u)), (16, .int 1), (17, .int tn), (0, .ref b), (1, .ref a0), (2, .ref (al 0)), (3, .ref (al 1)), (4, .ref (al 2)), (5, .ref (al 3)), (6, .ref (al 4)), (7, .ref (al 5)), (8, .ref (al 6)), (9, .ref (al 7)), (10, .ref (al 8)), (11, .ref (al 9)), (12, .ref (al 10)), (13, .ref (al 11)), (14, .ref (al 12)), (15, .ref (al 13))]) hx hb dL_law_1136 hl (k := 2) rfl (nI_1 _) (by decide) rfl (fun ls hl => ?_)
                    refine lv_goto (tgt := 1057) hx hb dL_law_1139 (by decide) ?_
                    exact ih1057 _ _ (x1 + 1) (j + 1) (by omega) (by omega) (hR1.w6 hj (Or.inl ⟨rfl, rfl⟩)) (by rw [itr_step hj, show mClrP r j (τ1, x1) = (up τ1 10 j (-1), x1 + 1) from if_pos (by simp [mOut, (pw_in (lr_pl hR1 hj) hr9).mp c_1079_13])] at hT; exact hT) _ _ _ hS hP hC (lv_sub hl [0, 1, 3, 4, 5, 6, 7, 8, 9, 10, 11, 12, 13, 14, 15, 16, 17, 18, 19, 20, 21, 22, 23, 24, 25, 26, 27, 28, 29] rfl)
              · refine lv_aload hx hb dL_law_1082 (lv_at hl 21 rfl) ?_
                refine lv_iload hx hb dL_law_1084 (lv_at hl 0 rfl) ?_
                refine xiald hx hb hE.1.1 (hP.arr 6 (by decide)) 0 rfl (k := j) rfl (show _ < 60 by omega) (by decide) dL_law_1086 ?_
                refine lv_iload hx hb dL_law_1087 (lv_at hl 7 rfl) ?_
                refine lv_bipush (v := 102) hx hb dL_law_1089 (by decide) ?_
                refine lv_iadd hx hb dL_law_1091 ?_
                refine lv_icmp_ne (tgt := 1099) hx hb dL_law_1092 (by decide) (fun c_1092_16 => ?_) (fun c_1092_16 => ?_)
                · refine lv_iconst (v := 0) hx hb dL_law_1099 (by decide) ?_
                  refine lv_istore (lv' := [(29, .int 0), (28, .int (nI j)), (27, .int x1), (26, .int 1), (18, .int z9), (19, .int kd), (20, .int (nI y)), (21, .int (nI i)), (22, .int (nI r)), (23, .int (nI h)), (24, .int (nI k)), (25, .int (nI u)), (16, .int 1), (17, .int tn), (0, .ref b), (1, .ref a0), (2, .ref (al 0)), (3, .ref (al 1)), (4, .ref (al 2)), (5, .ref (al 3)), (6, .ref (al 4)), (7, .ref (al 5)), (8, .ref (al 6)), (9, .ref (al 7)), (10, .ref (al 8)), (11, .ref (al 9)), (12, .ref (al 10)), (13, .ref (al 11)), (14, .ref (al 12)), (15, .ref (al 13))]) hx hb dL_law_1100 hl (by decide) rfl (fun ls hl => ?_)
                  refine lv_iload hx hb dL_law_1102 (lv_at hl 2 rfl) ?_
                  refine lv_iload hx hb dL_law_1104 (lv_at hl 0 rfl) ?_
                  refine lv_if_eq (tgt := 1113) hx hb dL_law_1106 (by decide) (fun c_1106_17 => ?_) (fun c_1106_17 => ?_)
                  · refine lv_iconst (v := 0) hx hb dL_law_1113 (by decide) ?_
                    refine lv_iadd hx hb dL_law_1114 ?_
                    refine W.eq (g2 := F0 m 1115 ls [.int (x1)]) (congrArg (fun z => F0 m 1115 ls [.int z]) (Int32.add_zero _)) ?_
                    refine lv_istore (lv' := [(27, .int x1), (29, .int 0), (28, .int (nI j)), (26, .int 1), (18, .int z9), (19, .int kd), (20, .int (nI y)), (21, .int (nI i)), (22, .int (nI r)), (23, .int (nI h)), (24, .int (nI k)), (25, .int (nI u)), (16, .int 1), (17, .int tn), (0, .ref b), (1, .ref a0), (2, .ref (al 0)), (3, .ref (al 1)), (4, .ref (al 2)), (5, .ref (al 3)), (6, .ref (al 4)), (7, .ref (al 5)), (8, .ref (al 6)), (9, .ref (al 7)), (10, .ref (al 8)), (11, .ref (al 9)), (12, .ref (al 10)), (13, .ref (al 11)), (14, .ref (al 12)), (15, .ref (al 13))]) hx hb dL_law_1115 hl (by decide) rfl (fun ls hl => ?_)
                    refine lv_aload hx hb dL_law_1117 (lv_at hl 22 rfl) ?_
                    refine lv_iload hx hb dL_law_1119 (lv_at hl 2 rfl) ?_
                    refine lv_iload hx hb dL_law_1121 (lv_at hl 1 rfl) ?_
                    refine lv_if_eq (tgt := 1130) hx hb dL_law_1123 (by decide) (fun c_1123_18 => ?_) (fun c_1123_18 => ?_)
                    · refine lv_aload hx hb dL_law_1130 (lv_at hl 22 rfl) ?_
                      refine lv_iload hx hb dL_law_1132 (lv_at hl 2 rfl) ?_
                      refine xiald hx hb hE.1.1 (hP.arr 6 (by decide)) 0 rfl (k := j) rfl (show _ < 60 by omega) (by decide) dL_law_1134 ?_
                      refine xiast hx hb hE.1.1 hS (hP.arr 6 (by decide)) (hP.oarr 6 (by decide)) 0 rfl (k := j) rfl (show _ < 60 by omega) (by decide) dL_law_1135 (fun H1 locs1 he1 z1 oq1 hS => ?_)
                      have hP := hP.put 6 j (by decide) he1 oq1
                      have hC := hC.offL (f := 6) (by decide) z1 oq1
                      refine lv_iinc (v := (nI (j + 1))) (lv' := [(28, .int (nI (j + 1))), (27, .int x1), (29, .int 0), (26, .int 1), (18, .int z9), (19, .int kd), (20, .int (nI y)), (21, .int (nI i)), (22, .int (nI r)), (23, .int (nI h)), (24, .int (nI k)), (25, .int (nI u)), (16, .int 1), (17, .int tn), (0, .ref b), (1, .ref a0), (2, .ref (al 0)), (3, .ref (al 1)), (4, .ref (al 2)), (5, .ref (al 3)), (6, .ref (al 4)), (7, .ref (al 5)), (8, .ref (al 6)), (9, .ref (al 7)), (10, .ref (al 8)), (11, .ref (al 9)), (12, .ref (al 10)), (13, .ref (al 11)), (14, .ref (al 12)), (15, .ref (al 13))]) hx hb dL_law_1136 hl (k := 2) rfl (nI_1 _) (by decide) rfl (fun ls hl => ?_)
                      refine lv_goto (tgt := 1057) hx hb dL_law_1139 (by decide) ?_
                      exact ih1057 _ _ x1 (j + 1) (by omega) (by omega) hR1 (by rw [itr_step hj, show mClrP r j (τ1, x1) = (τ1, x1) from if_neg (fun z => by
                        unfold mOut at z
                        simp only [Bool.or_eq_true, decide_eq_true_eq] at z
                        exact z.elim (fun q => c_1079_13 ((pw_in (lr_pl hR1 hj) hr9).mpr q)) (fun q => c_1092_16 ((pw_qu (lr_pl hR1 hj) hr9).mpr q)))] at hT; exact hT) _ _ _ hS (by rw [up_id] at hP; exact hP) hC (lv_sub hl [0, 1, 3, 4, 5, 6, 7, 8, 9, 10, 11, 12, 13, 14, 15, 16, 17, 18, 19, 20, 21, 22, 23, 24, 25, 26, 27, 28, 29] rfl)
                    · exact absurd c_1123_18 (by decide)
                  · exact absurd c_1106_17 (by decide)
                · refine lv_iconst (v := 1) hx hb dL_law_1095 (by decide) ?_
                  refine lv_goto (tgt := 1100) hx hb dL_law_1096 (by decide) ?_
                  refine lv_istore (lv' := [(29, .int 1), (28, .int (nI j)), (27, .int x1), (26, .int 1), (18, .int z9), (19, .int kd), (20, .int (nI y)), (21, .int (nI i)), (22, .int (nI r)), (23, .int (nI h)), (24, .int (nI k)), (25, .int (nI u)), (16, .int 1), (17, .int tn), (0, .ref b), (1, .ref a0), (2, .ref (al 0)), (3, .ref (al 1)), (4, .ref (al 2)), (5, .ref (al 3)), (6, .ref (al 4)), (7, .ref (al 5)), (8, .ref (al 6)), (9, .ref (al 7)), (10, .ref (al 8)), (11, .ref (al 9)), (12, .ref (al 10)), (13, .ref (al 11)), (14, .ref (al 12)), (15, .ref (al 13))]) hx hb dL_law_1100 hl (by decide) rfl (fun ls hl => ?_)
                  refine lv_iload hx hb dL_law_1102 (lv_at hl 2 rfl) ?_
                  refine lv_iload hx hb dL_law_1104 (lv_at hl 0 rfl) ?_
                  refine lv_if_eq (tgt := 1113) hx hb dL_law_1106 (by decide) (fun c_1106_19 => ?_) (fun c_1106_19 => ?_)
                  · exact absurd c_1106_19 (by decide)
                  · refine lv_iconst (v := 1) hx hb dL_law_1109 (by decide) ?_
                    refine lv_goto (tgt := 1114) hx hb dL_law_1110 (by decide) ?_
                    refine lv_iadd hx hb dL_law_1114 ?_
                    refine lv_istore (lv' := [(27, .int (x1 + 1)), (29, .int 1), (28, .int (nI j)), (26, .int 1), (18, .int z9), (19, .int kd), (20, .int (nI y)), (21, .int (nI i)), (22, .int (nI r)), (23, .int (nI h)), (24, .int (nI k)), (25, .int (nI u)), (16, .int 1), (17, .int tn), (0, .ref b), (1, .ref a0), (2, .ref (al 0)), (3, .ref (al 1)), (4, .ref (al 2)), (5, .ref (al 3)), (6, .ref (al 4)), (7, .ref (al 5)), (8, .ref (al 6)), (9, .ref (al 7)), (10, .ref (al 8)), (11, .ref (al 9)), (12, .ref (al 10)), (13, .ref (al 11)), (14, .ref (al 12)), (15, .ref (al 13))]) hx hb dL_law_1115 hl (by decide) rfl (fun ls hl => ?_)
                    refine lv_aload hx hb dL_law_1117 (lv_at hl 22 rfl) ?_
                    refine lv_iload hx hb dL_law_1119 (lv_at hl 2 rfl) ?_
                    refine lv_iload hx hb dL_law_1121 (lv_at hl 1 rfl) ?_
                    refine lv_if_eq (tgt := 1130) hx hb dL_law_1123 (by decide) (fun c_1123_20 => ?_) (fun c_1123_20 => ?_)
                    · exact absurd c_1123_20 (by decide)
                    · refine lv_iconst (v := 0) hx hb dL_law_1126 (by decide) ?_
                      refine lv_goto (tgt := 1135) hx hb dL_law_1127 (by decide) ?_
                      refine xiast hx hb hE.1.1 hS (hP.arr 6 (by decide)) (hP.oarr 6 (by decide)) 0 rfl (k := j) rfl (show _ < 60 by omega) (by decide) dL_law_1135 (fun H1 locs1 he1 z1 oq1 hS => ?_)
                      have hP := hP.put 6 j (by decide) he1 oq1
                      have hC := hC.offL (f := 6) (by decide) z1 oq1
                      refine lv_iinc (v := (nI (j + 1))) (lv' := [(28, .int (nI (j + 1))), (27, .int (x1 + 1)), (29, .int 1), (26, .int 1), (18, .int z9), (19, .int kd), (20, .int (nI y)), (21, .int (nI i)), (22, .int (nI r)), (23, .int (nI h)), (24, .int (nI k)), (25, .int (nI u)), (16, .int 1), (17, .int tn), (0, .ref b), (1, .ref a0), (2, .ref (al 0)), (3, .ref (al 1)), (4, .ref (al 2)), (5, .ref (al 3)), (6, .ref (al 4)), (7, .ref (al 5)), (8, .ref (al 6)), (9, .ref (al 7)), (10, .ref (al 8)), (11, .ref (al 9)), (12, .ref (al 10)), (13, .ref (al 11)), (14, .ref (al 12)), (15, .ref (al 13))]) hx hb dL_law_1136 hl (k := 2) rfl (nI_1 _) (by decide) rfl (fun ls hl => ?_)
                      refine lv_goto (tgt := 1057) hx hb dL_law_1139 (by decide) ?_
                      exact ih1057 _ _ (x1 + 1) (j + 1) (by omega) (by omega) (hR1.w6 hj (Or.inl ⟨rfl, rfl⟩)) (by rw [itr_step hj, show mClrP r j (τ1, x1) = (up τ1 10 j (-1), x1 + 1) from if_pos (by simp [mOut, (pw_qu (lr_pl hR1 hj) hr9).mp c_1092_16])] at hT; exact hT) _ _ _ hS hP hC (lv_sub hl [0, 1, 3, 4, 5, 6, 7, 8, 9, 10, 11, 12, 13, 14, 15, 16, 17, 18, 19, 20, 21, 22, 23, 24, 25, 26, 27, 28, 29] rfl)
      exact L1057 (nT + 1) μ τ 0 0 (by omega) (by omega) hR rfl _ _ _ hS hP hC (lv_sub hl [0, 1, 2, 3, 4, 5, 6, 7, 8, 9, 10, 11, 12, 13, 14, 15, 16, 17, 18, 19, 20, 21, 22, 23, 24, 25, 26, 27, 28] rfl)
set_option maxHeartbeats 4000000 in
set_option maxRecDepth 100000 in
theorem LC_cap (l : Launch) (hl9 : l.stackTraces = false) {p : Program} {e : Env} {s : State} {m : MethodId} {below : List Frame} {meth : Method} {c : Code} {b : Nat} {G : GE} {a0 : Nat} {al : Nat → Nat} (C : CallFix p m c cL_law 30 s #[Value.ref b] gTb RL) (hE : EN (fun q => s.heap.size ≤ q) G s s.heap) (hN : NCX s) {N cc9 ss9 : Nat} {Qw : State → Prop} {H : Heap} {locs : List Loc} {ls : Array Slot} (hcc : cc9 ≤ 700000) (hss : ss9 ≤ 6900000) (hN9 : N ≤ 200) {τ μ : SG} {nT nW : Nat} (hS : va_S (fun q => s.heap.size ≤ q) s.heap H locs) (hC : CST G (AxL s.heap.size al) a0 τ nT nW N H) (hP : PL G (fun q => s.heap.size ≤ q) al μ 14 H) (hR : LR μ τ nT nW) (ht0 : thr τ 0 = τ) {z9 kd tn : Int32} {y i r h k u : Nat} (hy : y < 67108864) (hiT : nT ≠ 0 → i < nT) (hi0 : nT = 0 → i = 0) (hr9 : r < 12) (hh4 : h < 4) (hk6 : k < 6) (hu0 : nW ≠ 0 → u < nW) (hl : lv_has ls 30 [(18, .int z9), (19, .int kd), (20, .int (nI y)), (21, .int (nI i)), (22, .int (nI r)), (23, .int (nI h)), (24, .int (nI k)), (25, .int (nI u)), (16, .int 1), (17, .int tn), (0, .ref b), (1, .ref a0), (2, .ref (al 0)), (3, .ref (al 1)), (4, .ref (al 2)), (5, .ref (al 3)), (6, .ref (al 4)), (7, .ref (al 5)), (8, .ref (al 6)), (9, .ref (al 7)), (10, .ref (al 8)), (11, .ref (al 9)), (12, .ref (al 10)), (13, .ref (al 11)), (14, .ref (al 12)), (15, .ref (al 13))])
    (kk : ∀ (H1 : Heap) (locs1 : List Loc) (ls1 : Array Slot) (cc1 ss1 : Nat), cc1 ≤ cc9 + 10 → ss1 ≤ ss9 + 300 → va_S (fun q => s.heap.size ≤ q) s.heap H1 locs1 → LINV G s.heap.size a0 al (N + 1) H1 → lv_has ls1 30 [(16, .int 1), (17, .int tn), (20, .int (nI y)), (0, .ref b), (1, .ref a0), (2, .ref (al 0)), (3, .ref (al 1)), (4, .ref (al 2)), (5, .ref (al 3)), (6, .ref (al 4)), (7, .ref (al 5)), (8, .ref (al 6)), (9, .ref (al 7)), (10, .ref (al 8)), (11, .ref (al 9)), (12, .ref (al 10)), (13, .ref (al 11)), (14, .ref (al 12)), (15, .ref (al 13))] → W p l e room_1 s m #[Value.ref b] below meth c H1 locs1 cc1 ss1 Qw (F0 m 2555 ls1 [])) : W p l e room_1 s m #[Value.ref b] below meth c H locs cc9 ss9 Qw (F0 m 951 ls []) := by
  have hx := C.1
  have hb := C.2.1
  have hown := C.2.2.2.1
  have hts := C.2.2.2.2
  obtain ⟨h60, h10⟩ := lr_n60 hR
  have h27 : τ 27 0 = 0 := by rw [← ht0]; exact thr_27
  have hi60 : i < 60 := by
    rcases Nat.eq_zero_or_pos nT with z | z
    · rw [hi0 z]; omega
    · have := hiT (by omega); omega
  have hMB : ∀ q, McL al q → s.heap.size ≤ q := by
    rintro q ⟨f, hf, rfl⟩
    exact hP.oarr f hf
  have hZ := hC.Z
  obtain ⟨D9, hD9, eD9⟩ := hC.D
  obtain ⟨K9, hK9, eK9⟩ := hC.K
  have hm5 : y / 20 % 5 < 5 := Nat.mod_lt _ (by decide)
  refine lv_iload hx hb dL_law_951 (lv_at hl 1 rfl) ?_
  refine lv_bipush (v := 11) hx hb dL_law_953 (by decide) ?_
  refine lv_icmp_ne (tgt := 1027) hx hb dL_law_955 (by decide) (fun c_955_1 => ?_) (fun c_955_1 => ?_)
  · exact LC_close l hl9 C hE hN hcc hss hN9 hS hC hP hR ht0 hy hiT hi0 hr9 hh4 hk6 hu0 (lv_sub hl [0, 1, 2, 3, 4, 5, 6, 7, 8, 9, 10, 11, 12, 13, 14, 15, 16, 17, 18, 19, 20, 21, 22, 23, 24, 25] rfl) kk
  · refine lv_iload hx hb dL_law_958 (lv_at hl 2 rfl) ?_
    refine lv_bipush (v := 20) hx hb dL_law_960 (by decide) ?_
    refine lv_idiv hx hb dL_law_962 (by decide) ?_
    refine lv_iconst (v := 5) hx hb dL_law_963 (by decide) ?_
    refine lv_irem hx hb dL_law_964 (by decide) ?_
    refine W.eq (g2 := F0 m 965 ls [.int (nI (y / 20 % 5))]) (congrArg (fun z => F0 m 965 ls [.int z]) (yq hy (a := 20) (b := 5) (by decide) (by decide) (by decide) (by decide))) ?_
    refine lv_istore (lv' := [(26, .int (nI (y / 20 % 5))), (18, .int z9), (19, .int kd), (20, .int (nI y)), (21, .int (nI i)), (22, .int (nI r)), (23, .int (nI h)), (24, .int (nI k)), (25, .int (nI u)), (16, .int 1), (17, .int tn), (0, .ref b), (1, .ref a0), (2, .ref (al 0)), (3, .ref (al 1)), (4, .ref (al 2)), (5, .ref (al 3)), (6, .ref (al 4)), (7, .ref (al 5)), (8, .ref (al 6)), (9, .ref (al 7)), (10, .ref (al 8)), (11, .ref (al 9)), (12, .ref (al 10)), (13, .ref (al 11)), (14, .ref (al 12)), (15, .ref (al 13))]) hx hb dL_law_965 hl (by decide) rfl (fun ls hl => ?_)
    refine lv_aload hx hb dL_law_967 (lv_at hl 21 rfl) ?_
    refine lv_iload hx hb dL_law_969 (lv_at hl 5 rfl) ?_
    refine lv_iload hx hb dL_law_971 (lv_at hl 0 rfl) ?_
    refine xiast hx hb hE.1.1 hS (hP.arr 8 (by decide)) (hP.oarr 8 (by decide)) 0 rfl (k := r) rfl (show _ < 12 by omega) (by decide) dL_law_973 (fun H1 locs1 he1 z1 oq1 hS => ?_)
    have hP := hP.put 8 r (by decide) he1 oq1
    have hC := hC.offL (f := 8) (by decide) z1 oq1
    refine lv_aload_n hx hb dL_law_974 rfl (lv_at hl 13 rfl) ?_
    refine lv_aload hx hb dL_law_975 (lv_at hl 16 rfl) ?_
    refine lv_aload hx hb dL_law_977 (lv_at hl 18 rfl) ?_
    refine lv_aload hx hb dL_law_979 (lv_at hl 19 rfl) ?_
    refine lv_aload hx hb dL_law_981 (lv_at hl 20 rfl) ?_
    refine lv_aload hx hb dL_law_983 (lv_at hl 21 rfl) ?_
    refine lv_aload hx hb dL_law_985 (lv_at hl 22 rfl) ?_
    refine lv_aload hx hb dL_law_987 (lv_at hl 23 rfl) ?_
    refine lv_aload hx hb dL_law_989 (lv_at hl 25 rfl) ?_
    refine lv_aload hx hb dL_law_991 (lv_at hl 26 rfl) ?_
    refine lv_iload hx hb dL_law_993 (lv_at hl 5 rfl) ?_
    refine hcallS (n := 11) C hE (kL_letsIn l G (fun q => McL al q ∨ H1.size ≤ q) al (up μ 8 r (nI (y / 20 % 5))) (up τ 14 r (nI (y / 20 % 5))) nT nW (hR.k8) r hr9) wML_L_139 wST_L_letsIn wIN_L wCO_L_letsIn (by decide) rfl ⟨Nat.le_of_ble_eq_true rfl, Nat.le_of_ble_eq_true rfl⟩ hS (fun q h => h.elim (fun h => hMB q h) (fun h => Nat.le_trans hS.1 h)) (fun q h => Or.inr h) (hP.any (fun q h => Or.inl h)) rfl hl.1 (Nat.le_of_ble_eq_true rfl) dL_law_995 ⟨by show cc9 + 0 ≤ 709356; omega, by show ss9 + 0 ≤ 6973399; omega⟩ (fun E ce q9 H1 locs1 hx9 _ _ _ _ _ => hx9.elim) (fun v H1 locs1 hv hk hS => ?_)
    obtain ⟨rfl, μ_2, hR_3, hP⟩ := hv
    have hP := hP.any (B := (fun q => s.heap.size ≤ q)) (fun q h => hMB q h)
    have hC := hC.kept hk (fun q hq hlt h => h.elim hq.2 (fun h => absurd hlt (Nat.not_lt.mpr h)))
    refine lv_aload_n hx hb dL_law_998 rfl (lv_at hl 12 rfl) ?_
    refine lv_iload hx hb dL_law_999 (lv_at hl 5 rfl) ?_
    refine lv_iload hx hb dL_law_1001 (lv_at hl 0 rfl) ?_
    have hcm : cm_setCap τ nT nW (nI r) (nI (y / 20 % 5)) (nI (cntF (mIn (mLet nW nT r nT (up τ 14 r (nI (y / 20 % 5)))) (nI r)) 0 nT)) (mLet nW nT r nT (up τ 14 r (nI (y / 20 % 5)))) := by
      unfold cm_setCap
      rw [ht0]
      exact Or.inr (Or.inr ⟨r, hr9, rfl, inB_n (b := 20) (by omega) (by decide), rfl, rfl⟩)
    have h27p : (mLet nW nT r nT (up τ 14 r (nI (y / 20 % 5)))) 27 0 = 0 := (mLet_ne (by decide) _ _).trans (by simp [up]; exact h27)
    obtain ⟨ad, σ, qs, f, D, rfl, hPX, hR0, hI0⟩ := hC
    have h80 : nT ≤ 80 ∧ nW ≤ 12 ∧ f ≤ nT := ⟨hR0.1.2.2.1, hR0.1.2.2.2.2.2.1, hR0.1.2.1⟩
    refine hcallV (n := 2) C hE (kP_setCap l G (AxL s.heap.size al) ad σ qs nT nW hl9 (nI r) (nI (y / 20 % 5)) h80.2.1 (L_wf hR0) (L_V100 hR0) (L_len hR0 (by decide))) wML_L_143 wIM_X5_setCap wSE_X5_X5_setCap wIN_X5 wCO_X5_setCap (by decide) rfl ⟨Nat.le_of_ble_eq_true rfl, Nat.le_of_ble_eq_true rfl⟩ (orec hE (hPX.main rfl) (show mcl[7]? = some (RX5, TX5, 8) from rfl)) hS (fun q h => h.1) (fun q h => AxL.new hP hS.1 q h) hPX rfl hl.1 (Nat.le_of_ble_eq_true rfl) dL_law_1003 ⟨by show cc9 + 0 + 2 ≤ 709356; omega, by show ss9 + 0 + 12 ≤ 6973399; omega⟩ (fun E ce q9 H1 locs1 hx9 hk9 hS9 hc9 hv9 hf9 => by
      rcases sx_setCap hR0 hI0 hx9 hcm with ⟨-, z, -⟩ | ⟨-, z, -⟩ <;> exact absurd (h27p.symm.trans z) (by decide)) (fun v H1 locs1 hv hk hS => ?_)
    obtain ⟨e27, rfl, ad', σ', qs', nT', nW', f', D', ea', hP2, hR2, hI2⟩ := st_setCap hR0 hI0 hv hcm
    have hC : CST G (AxL s.heap.size al) (ad 0 0) (mLet nW nT r nT (up τ 14 r (nI (y / 20 % 5)))) nT' nW' (N + 1) H1 := ⟨ad', σ', qs', f', D', ea', hP2, hR2, hI2⟩
    have hP := hP.keptL hk (fun q hq h => h.2 hq)
    refine lv_aload_n hx hb dL_law_1006 rfl (lv_at hl 13 rfl) ?_
    refine lv_aload hx hb dL_law_1007 (lv_at hl 19 rfl) ?_
    refine lv_iload hx hb dL_law_1009 (lv_at hl 5 rfl) ?_
    refine hcallS (n := 3) C hE (kL_inside l G (fun q => H1.size ≤ q) (fun q => s.heap.size ≤ q) al μ_2 (mLet nW nT r nT (up τ 14 r (nI (y / 20 % 5)))) nT nW hR_3 r hr9) wML_L_16 wST_L_inside wIN_L wCO_L_inside (by decide) rfl ⟨Nat.le_of_ble_eq_true rfl, Nat.le_of_ble_eq_true rfl⟩ hS (fun q h => Nat.le_trans hS.1 h) (fun q h => h) hP rfl hl.1 (Nat.le_of_ble_eq_true rfl) dL_law_1011 ⟨by show cc9 + 0 + 2 + 0 ≤ 709356; omega, by show ss9 + 0 + 12 + 0 ≤ 6973399; omega⟩ (fun E ce q9 H1 locs1 hx9 _ _ _ _ _ => hx9.elim) (fun v H1 locs1 hv hk hS => ?_)
    have hP := hP.old hk
    have hC := hC.old hk
    subst hv
    refine lv_icmp_ne (tgt := 1021) hx hb dL_law_1014 (by decide) (fun c_1014_4 => ?_) (fun c_1014_4 => ?_)
    · exact absurd rfl c_1014_4
    · refine lv_iconst (v := 1) hx hb dL_law_1017 (by decide) ?_
      refine lv_goto (tgt := 1022) hx hb dL_law_1018 (by decide) ?_
      refine lv_istore (lv' := [(16, .int 1), (26, .int (nI (y / 20 % 5))), (18, .int z9), (19, .int kd), (20, .int (nI y)), (21, .int (nI i)), (22, .int (nI r)), (23, .int (nI h)), (24, .int (nI k)), (25, .int (nI u)), (17, .int tn), (0, .ref b), (1, .ref (ad 0 0)), (2, .ref (al 0)), (3, .ref (al 1)), (4, .ref (al 2)), (5, .ref (al 3)), (6, .ref (al 4)), (7, .ref (al 5)), (8, .ref (al 6)), (9, .ref (al 7)), (10, .ref (al 8)), (11, .ref (al 9)), (12, .ref (al 10)), (13, .ref (al 11)), (14, .ref (al 12)), (15, .ref (al 13))]) hx hb dL_law_1022 hl (by decide) rfl (fun ls hl => ?_)
      refine lv_goto (tgt := 2555) hx hb dL_law_1024 (by decide) ?_
      have hRf : LR μ_2 (mLet nW nT r nT (up τ 14 r (nI (y / 20 % 5)))) nT nW := hR_3
      exact kk _ _ _ _ _ (show cc9 + 0 + 2 + 0 ≤ cc9 + 10 by omega) (show ss9 + 0 + 12 + 0 ≤ ss9 + 300 by omega) hS (LINV.of hC hP hRf) (lv_sub hl [0, 10, 4, 11, 12, 13, 14, 15, 16, 17, 18, 19, 20, 21, 22, 23, 24, 25, 26] rfl)
set_option maxHeartbeats 4000000 in
set_option maxRecDepth 100000 in
theorem LC_join (l : Launch) (hl9 : l.stackTraces = false) {p : Program} {e : Env} {s : State} {m : MethodId} {below : List Frame} {meth : Method} {c : Code} {b : Nat} {G : GE} {a0 : Nat} {al : Nat → Nat} (C : CallFix p m c cL_law 30 s #[Value.ref b] gTb RL) (hE : EN (fun q => s.heap.size ≤ q) G s s.heap) (hN : NCX s) {N cc9 ss9 : Nat} {Qw : State → Prop} {H : Heap} {locs : List Loc} {ls : Array Slot} (hcc : cc9 ≤ 700000) (hss : ss9 ≤ 6900000) (hN9 : N ≤ 200) {τ μ : SG} {nT nW : Nat} (hS : va_S (fun q => s.heap.size ≤ q) s.heap H locs) (hC : CST G (AxL s.heap.size al) a0 τ nT nW N H) (hP : PL G (fun q => s.heap.size ≤ q) al μ 14 H) (hR : LR μ τ nT nW) (ht0 : thr τ 0 = τ) {z9 kd tn : Int32} {y i r h k u : Nat} (hy : y < 67108864) (hiT : nT ≠ 0 → i < nT) (hi0 : nT = 0 → i = 0) (hr9 : r < 12) (hh4 : h < 4) (hk6 : k < 6) (hu0 : nW ≠ 0 → u < nW) (hl : lv_has ls 30 [(18, .int z9), (19, .int kd), (20, .int (nI y)), (21, .int (nI i)), (22, .int (nI r)), (23, .int (nI h)), (24, .int (nI k)), (25, .int (nI u)), (16, .int 1), (17, .int tn), (0, .ref b), (1, .ref a0), (2, .ref (al 0)), (3, .ref (al 1)), (4, .ref (al 2)), (5, .ref (al 3)), (6, .ref (al 4)), (7, .ref (al 5)), (8, .ref (al 6)), (9, .ref (al 7)), (10, .ref (al 8)), (11, .ref (al 9)), (12, .ref (al 10)), (13, .ref (al 11)), (14, .ref (al 12)), (15, .ref (al 13))])
    (kk : ∀ (H1 : Heap) (locs1 : List Loc) (ls1 : Array Slot) (cc1 ss1 : Nat), cc1 ≤ cc9 + 10 → ss1 ≤ ss9 + 300 → va_S (fun q => s.heap.size ≤ q) s.heap H1 locs1 → LINV G s.heap.size a0 al (N + 1) H1 → lv_has ls1 30 [(16, .int 1), (17, .int tn), (20, .int (nI y)), (0, .ref b), (1, .ref a0), (2, .ref (al 0)), (3, .ref (al 1)), (4, .ref (al 2)), (5, .ref (al 3)), (6, .ref (al 4)), (7, .ref (al 5)), (8, .ref (al 6)), (9, .ref (al 7)), (10, .ref (al 8)), (11, .ref (al 9)), (12, .ref (al 10)), (13, .ref (al 11)), (14, .ref (al 12)), (15, .ref (al 13))] → W p l e room_1 s m #[Value.ref b] below meth c H1 locs1 cc1 ss1 Qw (F0 m 2555 ls1 [])) : W p l e room_1 s m #[Value.ref b] below meth c H locs cc9 ss9 Qw (F0 m 846 ls []) := by
  have hx := C.1
  have hb := C.2.1
  have hown := C.2.2.2.1
  have hts := C.2.2.2.2
  obtain ⟨h60, h10⟩ := lr_n60 hR
  have h27 : τ 27 0 = 0 := by rw [← ht0]; exact thr_27
  have hi60 : i < 60 := by
    rcases Nat.eq_zero_or_pos nT with z | z
    · rw [hi0 z]; omega
    · have := hiT (by omega); omega
  have hMB : ∀ q, McL al q → s.heap.size ≤ q := by
    rintro q ⟨f, hf, rfl⟩
    exact hP.oarr f hf
  have hZ := hC.Z
  obtain ⟨D9, hD9, eD9⟩ := hC.D
  obtain ⟨K9, hK9, eK9⟩ := hC.K
  refine lv_iload hx hb dL_law_846 (lv_at hl 1 rfl) ?_
  refine lv_bipush (v := 10) hx hb dL_law_848 (by decide) ?_
  refine lv_icmp_ne (tgt := 951) hx hb dL_law_850 (by decide) (fun c_850_1 => ?_) (fun c_850_1 => ?_)
  · exact LC_cap l hl9 C hE hN hcc hss hN9 hS hC hP hR ht0 hy hiT hi0 hr9 hh4 hk6 hu0 (lv_sub hl [0, 1, 2, 3, 4, 5, 6, 7, 8, 9, 10, 11, 12, 13, 14, 15, 16, 17, 18, 19, 20, 21, 22, 23, 24, 25] rfl) kk
  · refine lv_aload hx hb dL_law_853 (lv_at hl 14 rfl) ?_
    refine lv_iload hx hb dL_law_855 (lv_at hl 6 rfl) ?_
    refine xiald hx hb hE.1.1 (hP.arr 2 (by decide)) 0 rfl (k := k) rfl (show _ < 6 by omega) (by decide) dL_law_857 ?_
    refine W.eq (g2 := F0 m 858 ls [.int (τ 2 k)]) (congrArg (fun z => F0 m 858 ls [.int z]) (lr_l hR hk6)) ?_
    refine lv_aload_n hx hb dL_law_858 rfl (lv_at hl 12 rfl) ?_
    refine lv_iconst (v := 2) hx hb dL_law_859 (by decide) ?_
    refine xiald hx hb hE.1.1 (hP.arr 0 (by decide)) 0 rfl (k := 2) rfl (show _ < 7 by omega) (by decide) dL_law_860 ?_
    refine W.eq (g2 := F0 m 861 ls [.int (τ 26 0), .int (τ 2 k)]) (congrArg (fun z => F0 m 861 ls [.int z, .int (τ 2 k)]) (lr_n2 hR)) ?_
    refine lv_icmp_ge (tgt := 868) hx hb dL_law_861 (by decide) (fun c_861_2 => ?_) (fun c_861_2 => ?_)
    · refine lv_iconst (v := 0) hx hb dL_law_868 (by decide) ?_
      refine lv_istore (lv' := [(26, .int 0), (18, .int z9), (19, .int kd), (20, .int (nI y)), (21, .int (nI i)), (22, .int (nI r)), (23, .int (nI h)), (24, .int (nI k)), (25, .int (nI u)), (16, .int 1), (17, .int tn), (0, .ref b), (1, .ref a0), (2, .ref (al 0)), (3, .ref (al 1)), (4, .ref (al 2)), (5, .ref (al 3)), (6, .ref (al 4)), (7, .ref (al 5)), (8, .ref (al 6)), (9, .ref (al 7)), (10, .ref (al 8)), (11, .ref (al 9)), (12, .ref (al 10)), (13, .ref (al 11)), (14, .ref (al 12)), (15, .ref (al 13))]) hx hb dL_law_869 hl (by decide) rfl (fun ls hl => ?_)
      refine lv_aload hx hb dL_law_871 (lv_at hl 15 rfl) ?_
      refine lv_iload hx hb dL_law_873 (lv_at hl 7 rfl) ?_
      refine lv_iload hx hb dL_law_875 (lv_at hl 0 rfl) ?_
      refine lv_if_eq (tgt := 889) hx hb dL_law_877 (by decide) (fun c_877_3 => ?_) (fun c_877_3 => ?_)
      · refine lv_aload hx hb dL_law_889 (lv_at hl 15 rfl) ?_
        refine lv_iload hx hb dL_law_891 (lv_at hl 7 rfl) ?_
        refine xiald hx hb hE.1.1 (hP.arr 2 (by decide)) 0 rfl (k := k) rfl (show _ < 6 by omega) (by decide) dL_law_893 ?_
        refine W.eq (g2 := F0 m 894 ls [.int (τ 2 k), .int (nI k), .ref (al 2)]) (congrArg (fun z => F0 m 894 ls [.int z, .int (nI k), .ref (al 2)]) (lr_l hR hk6)) ?_
        refine xiast hx hb hE.1.1 hS (hP.arr 2 (by decide)) (hP.oarr 2 (by decide)) 0 rfl (k := k) rfl (show _ < 6 by omega) (by decide) dL_law_894 (fun H1 locs1 he1 z1 oq1 hS => ?_)
        have hP := hP.put 2 k (by decide) he1 oq1
        have hC := hC.offL (f := 2) (by decide) z1 oq1
        refine lv_aload_n hx hb dL_law_895 rfl (lv_at hl 13 rfl) ?_
        refine lv_iconst (v := 5) hx hb dL_law_896 (by decide) ?_
        refine lv_dup2_11 hx hb dL_law_897 rfl rfl ?_
        refine xiald hx hb hE.1.1 (hP.arr 0 (by decide)) 0 rfl (k := 5) rfl (show _ < 7 by omega) (by decide) dL_law_898 ?_
        rw [show (up μ 2 k (τ 2 k)) 0 5 = μ 0 5 from by simp [up]]
        refine W.eq (g2 := F0 m 899 ls [.int (τ 25 0), .int 5, .ref (al 0)]) (congrArg (fun z => F0 m 899 ls [.int z, .int 5, .ref (al 0)]) (lr_n5 hR)) ?_
        refine lv_iload hx hb dL_law_899 (lv_at hl 0 rfl) ?_
        refine lv_if_eq (tgt := 910) hx hb dL_law_901 (by decide) (fun c_901_4 => ?_) (fun c_901_4 => ?_)
        · refine lv_iconst (v := 0) hx hb dL_law_910 (by decide) ?_
          refine lv_iadd hx hb dL_law_911 ?_
          refine xiast hx hb hE.1.1 hS (hP.arr 0 (by decide)) (hP.oarr 0 (by decide)) 0 rfl (k := 5) rfl (show _ < 7 by omega) (by decide) dL_law_912 (fun H1 locs1 he1 z1 oq1 hS => ?_)
          have hP := hP.put 0 5 (by decide) he1 oq1
          have hC := hC.offL (f := 0) (by decide) z1 oq1
          refine lv_aload_n hx hb dL_law_913 rfl (lv_at hl 12 rfl) ?_
          refine lv_iconst (v := 3) hx hb dL_law_914 (by decide) ?_
          refine lv_iload hx hb dL_law_915 (lv_at hl 7 rfl) ?_
          refine lv_iconst (v := 0) hx hb dL_law_917 (by decide) ?_
          refine lv_iconst (v := 0) hx hb dL_law_918 (by decide) ?_
          have hcm : cm_join τ (nI k) 0 (thr τ 2) := by
            unfold cm_join
            rw [ht0]
            exact Or.inr (Or.inl ⟨k, hk6, rfl, fBel_ge.mpr (Int32.not_lt.mpr c_861_2), rfl⟩)
          refine hcallH (n := 5) C hE hN (hD_join l G (AxL s.heap.size al) hl9 a0 τ (thr τ 2) 0 nT nW N (nI k) hcm) wML_L_127 wST_L_does wIN_L wCW_L_does (by decide) rfl ⟨Nat.le_of_ble_eq_true rfl, Nat.le_of_ble_eq_true rfl⟩ hS (fun q h => h.1) (fun q h => AxL.new hP hS.1 q h) hC rfl hl.1 (Nat.le_of_ble_eq_true rfl) dL_law_919 ⟨by show cc9 + 2 ≤ 709356; omega, by show ss9 + 12 ≤ 6973399; omega⟩ (fun v H1 locs1 hv hk hS => ?_)
          obtain ⟨rfl, nT', nW', hC⟩ := hv
          have hP := hP.keptL hk (fun q hq h => h.2 hq)
          refine W.eq (g2 := F0 m 922 ls [.int ((-13))]) (congrArg (fun z => F0 m 922 ls [.int z]) (dres2 thr_27)) ?_
          refine lv_iload hx hb dL_law_922 (lv_at hl 0 rfl) ?_
          refine lv_if_eq (tgt := 936) hx hb dL_law_924 (by decide) (fun c_924_5 => ?_) (fun c_924_5 => ?_)
          · refine lv_bipush (v := (-13)) hx hb dL_law_936 (by decide) ?_
            refine lv_icmp_ne (tgt := 945) hx hb dL_law_938 (by decide) (fun c_938_6 => ?_) (fun c_938_6 => ?_)
            · exact absurd c_938_6 (by decide)
            · refine lv_iconst (v := 1) hx hb dL_law_941 (by decide) ?_
              refine lv_goto (tgt := 946) hx hb dL_law_942 (by decide) ?_
              refine lv_istore (lv' := [(16, .int 1), (26, .int 0), (18, .int z9), (19, .int kd), (20, .int (nI y)), (21, .int (nI i)), (22, .int (nI r)), (23, .int (nI h)), (24, .int (nI k)), (25, .int (nI u)), (17, .int tn), (0, .ref b), (1, .ref a0), (2, .ref (al 0)), (3, .ref (al 1)), (4, .ref (al 2)), (5, .ref (al 3)), (6, .ref (al 4)), (7, .ref (al 5)), (8, .ref (al 6)), (9, .ref (al 7)), (10, .ref (al 8)), (11, .ref (al 9)), (12, .ref (al 10)), (13, .ref (al 11)), (14, .ref (al 12)), (15, .ref (al 13))]) hx hb dL_law_946 hl (by decide) rfl (fun ls hl => ?_)
              refine lv_goto (tgt := 2555) hx hb dL_law_948 (by decide) ?_
              have hRf : LR (up (up μ 2 k (τ 2 k)) 0 5 ((τ 25 0) + 0)) (thr τ 2) nT nW := by rw [Int32.add_zero, up_eq (lr_l hR hk6), up_eq (lr_n5 hR)]; exact hR.th
              exact kk _ _ _ _ _ (show cc9 + 2 ≤ cc9 + 10 by omega) (show ss9 + 12 ≤ ss9 + 300 by omega) hS (LINV.of hC hP hRf) (lv_sub hl [0, 10, 4, 11, 12, 13, 14, 15, 16, 17, 18, 19, 20, 21, 22, 23, 24, 25, 26] rfl)
          · exact absurd c_924_5 (by decide)
        · exact absurd c_901_4 (by decide)
      · exact absurd c_877_3 (by decide)
    · refine lv_iconst (v := 1) hx hb dL_law_864 (by decide) ?_
      refine lv_goto (tgt := 869) hx hb dL_law_865 (by decide) ?_
      refine lv_istore (lv' := [(26, .int 1), (18, .int z9), (19, .int kd), (20, .int (nI y)), (21, .int (nI i)), (22, .int (nI r)), (23, .int (nI h)), (24, .int (nI k)), (25, .int (nI u)), (16, .int 1), (17, .int tn), (0, .ref b), (1, .ref a0), (2, .ref (al 0)), (3, .ref (al 1)), (4, .ref (al 2)), (5, .ref (al 3)), (6, .ref (al 4)), (7, .ref (al 5)), (8, .ref (al 6)), (9, .ref (al 7)), (10, .ref (al 8)), (11, .ref (al 9)), (12, .ref (al 10)), (13, .ref (al 11)), (14, .ref (al 12)), (15, .ref (al 13))]) hx hb dL_law_869 hl (by decide) rfl (fun ls hl => ?_)
      refine lv_aload hx hb dL_law_871 (lv_at hl 15 rfl) ?_
      refine lv_iload hx hb dL_law_873 (lv_at hl 7 rfl) ?_
      refine lv_iload hx hb dL_law_875 (lv_at hl 0 rfl) ?_
      refine lv_if_eq (tgt := 889) hx hb dL_law_877 (by decide) (fun c_877_7 => ?_) (fun c_877_7 => ?_)
      · exact absurd c_877_7 (by decide)
      · refine lv_aload_n hx hb dL_law_880 rfl (lv_at hl 13 rfl) ?_
        refine lv_iconst (v := 2) hx hb dL_law_881 (by decide) ?_
        refine xiald hx hb hE.1.1 (hP.arr 0 (by decide)) 0 rfl (k := 2) rfl (show _ < 7 by omega) (by decide) dL_law_882 ?_
        refine W.eq (g2 := F0 m 883 ls [.int (τ 26 0), .int (nI k), .ref (al 2)]) (congrArg (fun z => F0 m 883 ls [.int z, .int (nI k), .ref (al 2)]) (lr_n2 hR)) ?_
        refine lv_bipush (v := 29) hx hb dL_law_883 (by decide) ?_
        refine lv_iadd hx hb dL_law_885 ?_
        refine lv_goto (tgt := 894) hx hb dL_law_886 (by decide) ?_
        refine xiast hx hb hE.1.1 hS (hP.arr 2 (by decide)) (hP.oarr 2 (by decide)) 0 rfl (k := k) rfl (show _ < 6 by omega) (by decide) dL_law_894 (fun H1 locs1 he1 z1 oq1 hS => ?_)
        have hP := hP.put 2 k (by decide) he1 oq1
        have hC := hC.offL (f := 2) (by decide) z1 oq1
        refine lv_aload_n hx hb dL_law_895 rfl (lv_at hl 13 rfl) ?_
        refine lv_iconst (v := 5) hx hb dL_law_896 (by decide) ?_
        refine lv_dup2_11 hx hb dL_law_897 rfl rfl ?_
        refine xiald hx hb hE.1.1 (hP.arr 0 (by decide)) 0 rfl (k := 5) rfl (show _ < 7 by omega) (by decide) dL_law_898 ?_
        rw [show (up μ 2 k ((τ 26 0) + 29)) 0 5 = μ 0 5 from by simp [up]]
        refine W.eq (g2 := F0 m 899 ls [.int (τ 25 0), .int 5, .ref (al 0)]) (congrArg (fun z => F0 m 899 ls [.int z, .int 5, .ref (al 0)]) (lr_n5 hR)) ?_
        refine lv_iload hx hb dL_law_899 (lv_at hl 0 rfl) ?_
        refine lv_if_eq (tgt := 910) hx hb dL_law_901 (by decide) (fun c_901_8 => ?_) (fun c_901_8 => ?_)
        · exact absurd c_901_8 (by decide)
        · refine lv_sipush (v := 6000) hx hb dL_law_904 (by decide) ?_
          refine lv_goto (tgt := 911) hx hb dL_law_907 (by decide) ?_
          refine lv_iadd hx hb dL_law_911 ?_
          refine xiast hx hb hE.1.1 hS (hP.arr 0 (by decide)) (hP.oarr 0 (by decide)) 0 rfl (k := 5) rfl (show _ < 7 by omega) (by decide) dL_law_912 (fun H1 locs1 he1 z1 oq1 hS => ?_)
          have hP := hP.put 0 5 (by decide) he1 oq1
          have hC := hC.offL (f := 0) (by decide) z1 oq1
          refine lv_aload_n hx hb dL_law_913 rfl (lv_at hl 12 rfl) ?_
          refine lv_iconst (v := 3) hx hb dL_law_914 (by decide) ?_
          refine lv_iload hx hb dL_law_915 (lv_at hl 7 rfl) ?_
          refine lv_iconst (v := 0) hx hb dL_law_917 (by decide) ?_
          refine lv_iconst (v := 0) hx hb dL_law_918 (by decide) ?_
          have hcm : cm_join τ (nI k) ((τ 26 0 + 30) - 1) (up (up τ 2 k ((τ 26 0 + 30) - 1)) 25 0 (τ 25 0 + 6000)) := by
            unfold cm_join
            rw [ht0]
            exact Or.inr (Or.inr ⟨k, hk6, rfl, fBel_lt.mpr (Int32.not_le.mp c_861_2), rfl, rfl⟩)
          refine hcallH (n := 5) C hE hN (hD_join l G (AxL s.heap.size al) hl9 a0 τ (up (up τ 2 k ((τ 26 0 + 30) - 1)) 25 0 (τ 25 0 + 6000)) ((τ 26 0 + 30) - 1) nT nW N (nI k) hcm) wML_L_127 wST_L_does wIN_L wCW_L_does (by decide) rfl ⟨Nat.le_of_ble_eq_true rfl, Nat.le_of_ble_eq_true rfl⟩ hS (fun q h => h.1) (fun q h => AxL.new hP hS.1 q h) hC rfl hl.1 (Nat.le_of_ble_eq_true rfl) dL_law_919 ⟨by show cc9 + 2 ≤ 709356; omega, by show ss9 + 12 ≤ 6973399; omega⟩ (fun v H1 locs1 hv hk hS => ?_)
          obtain ⟨rfl, nT', nW', hC⟩ := hv
          have hP := hP.keptL hk (fun q hq h => h.2 hq)
          refine W.eq (g2 := F0 m 922 ls [.int ((τ 26 0) + 29)]) (congrArg (fun z => F0 m 922 ls [.int z]) ((dres0 (by simp [up]; exact h27)).trans (j29 _))) ?_
          refine lv_iload hx hb dL_law_922 (lv_at hl 0 rfl) ?_
          refine lv_if_eq (tgt := 936) hx hb dL_law_924 (by decide) (fun c_924_9 => ?_) (fun c_924_9 => ?_)
          · exact absurd c_924_9 (by decide)
          · refine lv_aload_n hx hb dL_law_927 rfl (lv_at hl 13 rfl) ?_
            refine lv_iconst (v := 2) hx hb dL_law_928 (by decide) ?_
            refine xiald hx hb hE.1.1 (hP.arr 0 (by decide)) 0 rfl (k := 2) rfl (show _ < 7 by omega) (by decide) dL_law_929 ?_
            rw [show (up (up μ 2 k ((τ 26 0) + 29)) 0 5 ((τ 25 0) + 6000)) 0 2 = μ 0 2 from by simp [up]]
            refine W.eq (g2 := F0 m 930 ls [.int (τ 26 0), .int ((τ 26 0) + 29)]) (congrArg (fun z => F0 m 930 ls [.int z, .int ((τ 26 0) + 29)]) (lr_n2 hR)) ?_
            refine lv_bipush (v := 29) hx hb dL_law_930 (by decide) ?_
            refine lv_iadd hx hb dL_law_932 ?_
            refine lv_goto (tgt := 938) hx hb dL_law_933 (by decide) ?_
            refine lv_icmp_ne (tgt := 945) hx hb dL_law_938 (by decide) (fun c_938_10 => ?_) (fun c_938_10 => ?_)
            · exact absurd rfl c_938_10
            · refine lv_iconst (v := 1) hx hb dL_law_941 (by decide) ?_
              refine lv_goto (tgt := 946) hx hb dL_law_942 (by decide) ?_
              refine lv_istore (lv' := [(16, .int 1), (26, .int 1), (18, .int z9), (19, .int kd), (20, .int (nI y)), (21, .int (nI i)), (22, .int (nI r)), (23, .int (nI h)), (24, .int (nI k)), (25, .int (nI u)), (17, .int tn), (0, .ref b), (1, .ref a0), (2, .ref (al 0)), (3, .ref (al 1)), (4, .ref (al 2)), (5, .ref (al 3)), (6, .ref (al 4)), (7, .ref (al 5)), (8, .ref (al 6)), (9, .ref (al 7)), (10, .ref (al 8)), (11, .ref (al 9)), (12, .ref (al 10)), (13, .ref (al 11)), (14, .ref (al 12)), (15, .ref (al 13))]) hx hb dL_law_946 hl (by decide) rfl (fun ls hl => ?_)
              refine lv_goto (tgt := 2555) hx hb dL_law_948 (by decide) ?_
              have hRf : LR (up (up μ 2 k ((τ 26 0) + 29)) 0 5 ((τ 25 0) + 6000)) (up (up τ 2 k ((τ 26 0 + 30) - 1)) 25 0 (τ 25 0 + 6000)) nT nW := by rw [j29]; exact hR.l2.n5
              exact kk _ _ _ _ _ (show cc9 + 2 ≤ cc9 + 10 by omega) (show ss9 + 12 ≤ ss9 + 300 by omega) hS (LINV.of hC hP hRf) (lv_sub hl [0, 10, 4, 11, 12, 13, 14, 15, 16, 17, 18, 19, 20, 21, 22, 23, 24, 25, 26] rfl)
set_option maxHeartbeats 4000000 in
set_option maxRecDepth 100000 in
theorem LC_back (l : Launch) (hl9 : l.stackTraces = false) {p : Program} {e : Env} {s : State} {m : MethodId} {below : List Frame} {meth : Method} {c : Code} {b : Nat} {G : GE} {a0 : Nat} {al : Nat → Nat} (C : CallFix p m c cL_law 30 s #[Value.ref b] gTb RL) (hE : EN (fun q => s.heap.size ≤ q) G s s.heap) (hN : NCX s) {N cc9 ss9 : Nat} {Qw : State → Prop} {H : Heap} {locs : List Loc} {ls : Array Slot} (hcc : cc9 ≤ 700000) (hss : ss9 ≤ 6900000) (hN9 : N ≤ 200) {τ μ : SG} {nT nW : Nat} (hS : va_S (fun q => s.heap.size ≤ q) s.heap H locs) (hC : CST G (AxL s.heap.size al) a0 τ nT nW N H) (hP : PL G (fun q => s.heap.size ≤ q) al μ 14 H) (hR : LR μ τ nT nW) (ht0 : thr τ 0 = τ) {z9 kd tn : Int32} {y i r h k u : Nat} (hy : y < 67108864) (hiT : nT ≠ 0 → i < nT) (hi0 : nT = 0 → i = 0) (hr9 : r < 12) (hh4 : h < 4) (hk6 : k < 6) (hu0 : nW ≠ 0 → u < nW) (hl : lv_has ls 30 [(18, .int z9), (19, .int kd), (20, .int (nI y)), (21, .int (nI i)), (22, .int (nI r)), (23, .int (nI h)), (24, .int (nI k)), (25, .int (nI u)), (16, .int 1), (17, .int tn), (0, .ref b), (1, .ref a0), (2, .ref (al 0)), (3, .ref (al 1)), (4, .ref (al 2)), (5, .ref (al 3)), (6, .ref (al 4)), (7, .ref (al 5)), (8, .ref (al 6)), (9, .ref (al 7)), (10, .ref (al 8)), (11, .ref (al 9)), (12, .ref (al 10)), (13, .ref (al 11)), (14, .ref (al 12)), (15, .ref (al 13))])
    (kk : ∀ (H1 : Heap) (locs1 : List Loc) (ls1 : Array Slot) (cc1 ss1 : Nat), cc1 ≤ cc9 + 10 → ss1 ≤ ss9 + 300 → va_S (fun q => s.heap.size ≤ q) s.heap H1 locs1 → LINV G s.heap.size a0 al (N + 1) H1 → lv_has ls1 30 [(16, .int 1), (17, .int tn), (20, .int (nI y)), (0, .ref b), (1, .ref a0), (2, .ref (al 0)), (3, .ref (al 1)), (4, .ref (al 2)), (5, .ref (al 3)), (6, .ref (al 4)), (7, .ref (al 5)), (8, .ref (al 6)), (9, .ref (al 7)), (10, .ref (al 8)), (11, .ref (al 9)), (12, .ref (al 10)), (13, .ref (al 11)), (14, .ref (al 12)), (15, .ref (al 13))] → W p l e room_1 s m #[Value.ref b] below meth c H1 locs1 cc1 ss1 Qw (F0 m 2555 ls1 [])) : W p l e room_1 s m #[Value.ref b] below meth c H locs cc9 ss9 Qw (F0 m 722 ls []) := by
  have hx := C.1
  have hb := C.2.1
  have hown := C.2.2.2.1
  have hts := C.2.2.2.2
  obtain ⟨h60, h10⟩ := lr_n60 hR
  have h27 : τ 27 0 = 0 := by rw [← ht0]; exact thr_27
  have hi60 : i < 60 := by
    rcases Nat.eq_zero_or_pos nT with z | z
    · rw [hi0 z]; omega
    · have := hiT (by omega); omega
  have hMB : ∀ q, McL al q → s.heap.size ≤ q := by
    rintro q ⟨f, hf, rfl⟩
    exact hP.oarr f hf
  have hZ := hC.Z
  obtain ⟨D9, hD9, eD9⟩ := hC.D
  obtain ⟨K9, hK9, eK9⟩ := hC.K
  refine lv_iload hx hb dL_law_722 (lv_at hl 1 rfl) ?_
  refine lv_bipush (v := 9) hx hb dL_law_724 (by decide) ?_
  refine lv_icmp_ne (tgt := 846) hx hb dL_law_726 (by decide) (fun c_726_1 => ?_) (fun c_726_1 => ?_)
  · exact LC_join l hl9 C hE hN hcc hss hN9 hS hC hP hR ht0 hy hiT hi0 hr9 hh4 hk6 hu0 (lv_sub hl [0, 1, 2, 3, 4, 5, 6, 7, 8, 9, 10, 11, 12, 13, 14, 15, 16, 17, 18, 19, 20, 21, 22, 23, 24, 25] rfl) kk
  · refine lv_aload_n hx hb dL_law_729 rfl (lv_at hl 12 rfl) ?_
    refine lv_iconst (v := 0) hx hb dL_law_730 (by decide) ?_
    refine xiald hx hb hE.1.1 (hP.arr 0 (by decide)) 0 rfl (k := 0) rfl (show _ < 7 by omega) (by decide) dL_law_731 ?_
    refine W.eq (g2 := F0 m 732 ls [.int (nI nT)]) (congrArg (fun z => F0 m 732 ls [.int z]) (lr_n0 hR)) ?_
    refine lv_if_le (tgt := 756) hx hb dL_law_732 (by decide) (fun c_732_2 => ?_) (fun c_732_2 => ?_)
    · have hn0 : nT = 0 := nI_le0 (by omega) c_732_2
      refine lv_iconst (v := 0) hx hb dL_law_756 (by decide) ?_
      refine lv_istore (lv' := [(26, .int 0), (18, .int z9), (19, .int kd), (20, .int (nI y)), (21, .int (nI i)), (22, .int (nI r)), (23, .int (nI h)), (24, .int (nI k)), (25, .int (nI u)), (16, .int 1), (17, .int tn), (0, .ref b), (1, .ref a0), (2, .ref (al 0)), (3, .ref (al 1)), (4, .ref (al 2)), (5, .ref (al 3)), (6, .ref (al 4)), (7, .ref (al 5)), (8, .ref (al 6)), (9, .ref (al 7)), (10, .ref (al 8)), (11, .ref (al 9)), (12, .ref (al 10)), (13, .ref (al 11)), (14, .ref (al 12)), (15, .ref (al 13))]) hx hb dL_law_757 hl (by decide) rfl (fun ls hl => ?_)
      refine lv_aload_n hx hb dL_law_759 rfl (lv_at hl 12 rfl) ?_
      refine lv_iconst (v := 2) hx hb dL_law_760 (by decide) ?_
      refine lv_iload hx hb dL_law_761 (lv_at hl 4 rfl) ?_
      refine lv_iconst (v := 0) hx hb dL_law_763 (by decide) ?_
      refine lv_iconst (v := 0) hx hb dL_law_764 (by decide) ?_
      have hcm : cm_giveBack τ nT (nI i) 0 (thr τ 1) := by
        unfold cm_giveBack
        rw [ht0]
        exact Or.inl ⟨fun z => by
          obtain ⟨j, hj, -⟩ := z
          omega, rfl⟩
      refine hcallH (n := 5) C hE hN (hD_giveBack l G (AxL s.heap.size al) hl9 a0 τ (thr τ 1) 0 nT nW N (nI i) hcm) wML_L_127 wST_L_does wIN_L wCW_L_does (by decide) rfl ⟨Nat.le_of_ble_eq_true rfl, Nat.le_of_ble_eq_true rfl⟩ hS (fun q h => h.1) (fun q h => AxL.new hP hS.1 q h) hC rfl hl.1 (Nat.le_of_ble_eq_true rfl) dL_law_765 ⟨by show cc9 + 3 ≤ 709356; omega, by show ss9 + 18 ≤ 6973399; omega⟩ (fun v H1 locs1 hv hk hS => ?_)
      obtain ⟨rfl, nT', nW', hC⟩ := hv
      have hP := hP.keptL hk (fun q hq h => h.2 hq)
      refine W.eq (g2 := F0 m 768 ls [.int ((-11))]) (congrArg (fun z => F0 m 768 ls [.int z]) (dres1 thr_27)) ?_
      refine lv_aload_n hx hb dL_law_768 rfl (lv_at hl 13 rfl) ?_
      refine lv_iconst (v := 0) hx hb dL_law_769 (by decide) ?_
      refine xiald hx hb hE.1.1 (hP.arr 0 (by decide)) 0 rfl (k := 0) rfl (show _ < 7 by omega) (by decide) dL_law_770 ?_
      refine W.eq (g2 := F0 m 771 ls [.int (nI nT), .int (-11)]) (congrArg (fun z => F0 m 771 ls [.int z, .int (-11)]) (lr_n0 hR)) ?_
      refine lv_if_ne (tgt := 779) hx hb dL_law_771 (by decide) (fun c_771_3 => ?_) (fun c_771_3 => ?_)
      · exact absurd (by rw [hn0]; rfl) c_771_3
      · refine lv_bipush (v := (-11)) hx hb dL_law_774 (by decide) ?_
        refine lv_goto (tgt := 794) hx hb dL_law_776 (by decide) ?_
        refine lv_icmp_ne (tgt := 801) hx hb dL_law_794 (by decide) (fun c_794_4 => ?_) (fun c_794_4 => ?_)
        · exact absurd c_794_4 (by decide)
        · refine lv_iconst (v := 1) hx hb dL_law_797 (by decide) ?_
          refine lv_goto (tgt := 802) hx hb dL_law_798 (by decide) ?_
          refine lv_istore (lv' := [(16, .int 1), (26, .int 0), (18, .int z9), (19, .int kd), (20, .int (nI y)), (21, .int (nI i)), (22, .int (nI r)), (23, .int (nI h)), (24, .int (nI k)), (25, .int (nI u)), (17, .int tn), (0, .ref b), (1, .ref a0), (2, .ref (al 0)), (3, .ref (al 1)), (4, .ref (al 2)), (5, .ref (al 3)), (6, .ref (al 4)), (7, .ref (al 5)), (8, .ref (al 6)), (9, .ref (al 7)), (10, .ref (al 8)), (11, .ref (al 9)), (12, .ref (al 10)), (13, .ref (al 11)), (14, .ref (al 12)), (15, .ref (al 13))]) hx hb dL_law_802 hl (by decide) rfl (fun ls hl => ?_)
          refine lv_aload_n hx hb dL_law_804 rfl (lv_at hl 13 rfl) ?_
          refine lv_iconst (v := 5) hx hb dL_law_805 (by decide) ?_
          refine lv_dup2_11 hx hb dL_law_806 rfl rfl ?_
          refine xiald hx hb hE.1.1 (hP.arr 0 (by decide)) 0 rfl (k := 5) rfl (show _ < 7 by omega) (by decide) dL_law_807 ?_
          refine W.eq (g2 := F0 m 808 ls [.int (τ 25 0), .int 5, .ref (al 0)]) (congrArg (fun z => F0 m 808 ls [.int z, .int 5, .ref (al 0)]) (lr_n5 hR)) ?_
          refine lv_iload hx hb dL_law_808 (lv_at hl 1 rfl) ?_
          refine lv_if_eq (tgt := 821) hx hb dL_law_810 (by decide) (fun c_810_5 => ?_) (fun c_810_5 => ?_)
          · refine lv_iconst (v := 0) hx hb dL_law_821 (by decide) ?_
            refine lv_isub hx hb dL_law_822 ?_
            refine xiast hx hb hE.1.1 hS (hP.arr 0 (by decide)) (hP.oarr 0 (by decide)) 0 rfl (k := 5) rfl (show _ < 7 by omega) (by decide) dL_law_823 (fun H1 locs1 he1 z1 oq1 hS => ?_)
            have hP := hP.put 0 5 (by decide) he1 oq1
            have hC := hC.offL (f := 0) (by decide) z1 oq1
            refine lv_aload hx hb dL_law_824 (lv_at hl 17 rfl) ?_
            refine lv_iload hx hb dL_law_826 (lv_at hl 5 rfl) ?_
            refine lv_iload hx hb dL_law_828 (lv_at hl 1 rfl) ?_
            refine lv_if_eq (tgt := 837) hx hb dL_law_830 (by decide) (fun c_830_6 => ?_) (fun c_830_6 => ?_)
            · refine lv_aload hx hb dL_law_837 (lv_at hl 17 rfl) ?_
              refine lv_iload hx hb dL_law_839 (lv_at hl 5 rfl) ?_
              refine xiald hx hb hE.1.1 (hP.arr 4 (by decide)) 0 rfl (k := i) rfl (show _ < 60 by omega) (by decide) dL_law_841 ?_
              rw [show (up μ 0 5 ((τ 25 0) - 0)) 4 i = μ 4 i from by simp [up]]
              refine xiast hx hb hE.1.1 hS (hP.arr 4 (by decide)) (hP.oarr 4 (by decide)) 0 rfl (k := i) rfl (show _ < 60 by omega) (by decide) dL_law_842 (fun H1 locs1 he1 z1 oq1 hS => ?_)
              have hP := hP.put 4 i (by decide) he1 oq1
              have hC := hC.offL (f := 4) (by decide) z1 oq1
              refine lv_goto (tgt := 2555) hx hb dL_law_843 (by decide) ?_
              have hRf : LR (up (up μ 0 5 ((τ 25 0) - 0)) 4 i (μ 4 i)) (thr τ 1) nT nW := by rw [Int32.sub_zero, up_eq (lr_n5 hR), up_id]; exact hR.th
              exact kk _ _ _ _ _ (show cc9 + 3 ≤ cc9 + 10 by omega) (show ss9 + 18 ≤ ss9 + 300 by omega) hS (LINV.of hC hP hRf) (lv_sub hl [0, 10, 4, 11, 12, 13, 14, 15, 16, 17, 18, 19, 20, 21, 22, 23, 24, 25, 26] rfl)
            · exact absurd c_830_6 (by decide)
          · exact absurd c_810_5 (by decide)
    · have hn0 : nT ≠ 0 := nI_gt0 c_732_2
      have hi := hiT hn0
      refine lv_aload_n hx hb dL_law_735 rfl (lv_at hl 12 rfl) ?_
      refine lv_aload hx hb dL_law_736 (lv_at hl 15 rfl) ?_
      refine lv_aload hx hb dL_law_738 (lv_at hl 16 rfl) ?_
      refine lv_aload hx hb dL_law_740 (lv_at hl 17 rfl) ?_
      refine lv_aload hx hb dL_law_742 (lv_at hl 18 rfl) ?_
      refine lv_iload hx hb dL_law_744 (lv_at hl 3 rfl) ?_
      refine hcallS (n := 6) C hE (kL_canBack l G (fun q => H.size ≤ q) (fun q => s.heap.size ≤ q) al μ τ nT nW hR i hi) wML_L_135 wST_L_canBack wIN_L wCO_L_canBack (by decide) rfl ⟨Nat.le_of_ble_eq_true rfl, Nat.le_of_ble_eq_true rfl⟩ hS (fun q h => Nat.le_trans hS.1 h) (fun q h => h) hP rfl hl.1 (Nat.le_of_ble_eq_true rfl) dL_law_746 ⟨by show cc9 + 0 ≤ 709356; omega, by show ss9 + 0 ≤ 6973399; omega⟩ (fun E ce q9 H1 locs1 hx9 _ _ _ _ _ => hx9.elim) (fun v H1 locs1 hv hk hS => ?_)
      have hP := hP.old hk
      have hC := hC.old hk
      rcases hv with ⟨rfl, hcb⟩ | ⟨rfl, hcb⟩
      · skip
        refine lv_if_eq (tgt := 756) hx hb dL_law_749 (by decide) (fun c_749_7 => ?_) (fun c_749_7 => ?_)
        · exact absurd c_749_7 (by decide)
        · refine lv_iconst (v := 1) hx hb dL_law_752 (by decide) ?_
          refine lv_goto (tgt := 757) hx hb dL_law_753 (by decide) ?_
          refine lv_istore (lv' := [(26, .int 1), (18, .int z9), (19, .int kd), (20, .int (nI y)), (21, .int (nI i)), (22, .int (nI r)), (23, .int (nI h)), (24, .int (nI k)), (25, .int (nI u)), (16, .int 1), (17, .int tn), (0, .ref b), (1, .ref a0), (2, .ref (al 0)), (3, .ref (al 1)), (4, .ref (al 2)), (5, .ref (al 3)), (6, .ref (al 4)), (7, .ref (al 5)), (8, .ref (al 6)), (9, .ref (al 7)), (10, .ref (al 8)), (11, .ref (al 9)), (12, .ref (al 10)), (13, .ref (al 11)), (14, .ref (al 12)), (15, .ref (al 13))]) hx hb dL_law_757 hl (by decide) rfl (fun ls hl => ?_)
          refine lv_aload_n hx hb dL_law_759 rfl (lv_at hl 12 rfl) ?_
          refine lv_iconst (v := 2) hx hb dL_law_760 (by decide) ?_
          refine lv_iload hx hb dL_law_761 (lv_at hl 4 rfl) ?_
          refine lv_iconst (v := 0) hx hb dL_law_763 (by decide) ?_
          refine lv_iconst (v := 0) hx hb dL_law_764 (by decide) ?_
          have hcm : cm_giveBack τ nT (nI i) (τ 8 i) (up (up τ 9 i 1) 25 0 ((τ 25 0) - (τ 8 i))) := by
            unfold cm_giveBack
            rw [ht0]
            exact Or.inr (Or.inr (Or.inr ⟨i, hi, rfl, hcb.1, hcb.2, rfl, rfl⟩))
          refine hcallH (n := 5) C hE hN (hD_giveBack l G (AxL s.heap.size al) hl9 a0 τ (up (up τ 9 i 1) 25 0 ((τ 25 0) - (τ 8 i))) (τ 8 i) nT nW N (nI i) hcm) wML_L_127 wST_L_does wIN_L wCW_L_does (by decide) rfl ⟨Nat.le_of_ble_eq_true rfl, Nat.le_of_ble_eq_true rfl⟩ hS (fun q h => h.1) (fun q h => AxL.new hP hS.1 q h) hC rfl hl.1 (Nat.le_of_ble_eq_true rfl) dL_law_765 ⟨by show cc9 + 0 + 3 ≤ 709356; omega, by show ss9 + 0 + 18 ≤ 6973399; omega⟩ (fun v H1 locs1 hv hk hS => ?_)
          obtain ⟨rfl, nT', nW', hC⟩ := hv
          have hP := hP.keptL hk (fun q hq h => h.2 hq)
          refine W.eq (g2 := F0 m 768 ls [.int (τ 8 i)]) (congrArg (fun z => F0 m 768 ls [.int z]) (dres0 (by simp [up]; exact h27))) ?_
          refine lv_aload_n hx hb dL_law_768 rfl (lv_at hl 13 rfl) ?_
          refine lv_iconst (v := 0) hx hb dL_law_769 (by decide) ?_
          refine xiald hx hb hE.1.1 (hP.arr 0 (by decide)) 0 rfl (k := 0) rfl (show _ < 7 by omega) (by decide) dL_law_770 ?_
          refine W.eq (g2 := F0 m 771 ls [.int (nI nT), .int (τ 8 i)]) (congrArg (fun z => F0 m 771 ls [.int z, .int (τ 8 i)]) (lr_n0 hR)) ?_
          refine lv_if_ne (tgt := 779) hx hb dL_law_771 (by decide) (fun c_771_8 => ?_) (fun c_771_8 => ?_)
          · refine lv_iload hx hb dL_law_779 (lv_at hl 0 rfl) ?_
            refine lv_if_eq (tgt := 792) hx hb dL_law_781 (by decide) (fun c_781_9 => ?_) (fun c_781_9 => ?_)
            · exact absurd c_781_9 (by decide)
            · refine lv_aload hx hb dL_law_784 (lv_at hl 17 rfl) ?_
              refine lv_iload hx hb dL_law_786 (lv_at hl 4 rfl) ?_
              refine xiald hx hb hE.1.1 (hP.arr 4 (by decide)) 0 rfl (k := i) rfl (show _ < 60 by omega) (by decide) dL_law_788 ?_
              refine W.eq (g2 := F0 m 789 ls [.int (τ 8 i), .int (τ 8 i)]) (congrArg (fun z => F0 m 789 ls [.int z, .int (τ 8 i)]) (lr_c hR hi hcb.1.1)) ?_
              refine lv_goto (tgt := 794) hx hb dL_law_789 (by decide) ?_
              refine lv_icmp_ne (tgt := 801) hx hb dL_law_794 (by decide) (fun c_794_10 => ?_) (fun c_794_10 => ?_)
              · exact absurd rfl c_794_10
              · refine lv_iconst (v := 1) hx hb dL_law_797 (by decide) ?_
                refine lv_goto (tgt := 802) hx hb dL_law_798 (by decide) ?_
                refine lv_istore (lv' := [(16, .int 1), (26, .int 1), (18, .int z9), (19, .int kd), (20, .int (nI y)), (21, .int (nI i)), (22, .int (nI r)), (23, .int (nI h)), (24, .int (nI k)), (25, .int (nI u)), (17, .int tn), (0, .ref b), (1, .ref a0), (2, .ref (al 0)), (3, .ref (al 1)), (4, .ref (al 2)), (5, .ref (al 3)), (6, .ref (al 4)), (7, .ref (al 5)), (8, .ref (al 6)), (9, .ref (al 7)), (10, .ref (al 8)), (11, .ref (al 9)), (12, .ref (al 10)), (13, .ref (al 11)), (14, .ref (al 12)), (15, .ref (al 13))]) hx hb dL_law_802 hl (by decide) rfl (fun ls hl => ?_)
                refine lv_aload_n hx hb dL_law_804 rfl (lv_at hl 13 rfl) ?_
                refine lv_iconst (v := 5) hx hb dL_law_805 (by decide) ?_
                refine lv_dup2_11 hx hb dL_law_806 rfl rfl ?_
                refine xiald hx hb hE.1.1 (hP.arr 0 (by decide)) 0 rfl (k := 5) rfl (show _ < 7 by omega) (by decide) dL_law_807 ?_
                refine W.eq (g2 := F0 m 808 ls [.int (τ 25 0), .int 5, .ref (al 0)]) (congrArg (fun z => F0 m 808 ls [.int z, .int 5, .ref (al 0)]) (lr_n5 hR)) ?_
                refine lv_iload hx hb dL_law_808 (lv_at hl 1 rfl) ?_
                refine lv_if_eq (tgt := 821) hx hb dL_law_810 (by decide) (fun c_810_11 => ?_) (fun c_810_11 => ?_)
                · exact absurd c_810_11 (by decide)
                · refine lv_aload hx hb dL_law_813 (lv_at hl 17 rfl) ?_
                  refine lv_iload hx hb dL_law_815 (lv_at hl 5 rfl) ?_
                  refine xiald hx hb hE.1.1 (hP.arr 4 (by decide)) 0 rfl (k := i) rfl (show _ < 60 by omega) (by decide) dL_law_817 ?_
                  refine W.eq (g2 := F0 m 818 ls [.int (τ 8 i), .int (τ 25 0), .int 5, .ref (al 0)]) (congrArg (fun z => F0 m 818 ls [.int z, .int (τ 25 0), .int 5, .ref (al 0)]) (lr_c hR hi hcb.1.1)) ?_
                  refine lv_goto (tgt := 822) hx hb dL_law_818 (by decide) ?_
                  refine lv_isub hx hb dL_law_822 ?_
                  refine xiast hx hb hE.1.1 hS (hP.arr 0 (by decide)) (hP.oarr 0 (by decide)) 0 rfl (k := 5) rfl (show _ < 7 by omega) (by decide) dL_law_823 (fun H1 locs1 he1 z1 oq1 hS => ?_)
                  have hP := hP.put 0 5 (by decide) he1 oq1
                  have hC := hC.offL (f := 0) (by decide) z1 oq1
                  refine lv_aload hx hb dL_law_824 (lv_at hl 17 rfl) ?_
                  refine lv_iload hx hb dL_law_826 (lv_at hl 5 rfl) ?_
                  refine lv_iload hx hb dL_law_828 (lv_at hl 1 rfl) ?_
                  refine lv_if_eq (tgt := 837) hx hb dL_law_830 (by decide) (fun c_830_12 => ?_) (fun c_830_12 => ?_)
                  · exact absurd c_830_12 (by decide)
                  · refine lv_iconst (v := (-1)) hx hb dL_law_833 (by decide) ?_
                    refine lv_goto (tgt := 842) hx hb dL_law_834 (by decide) ?_
                    refine xiast hx hb hE.1.1 hS (hP.arr 4 (by decide)) (hP.oarr 4 (by decide)) 0 rfl (k := i) rfl (show _ < 60 by omega) (by decide) dL_law_842 (fun H1 locs1 he1 z1 oq1 hS => ?_)
                    have hP := hP.put 4 i (by decide) he1 oq1
                    have hC := hC.offL (f := 4) (by decide) z1 oq1
                    refine lv_goto (tgt := 2555) hx hb dL_law_843 (by decide) ?_
                    have hRf : LR (up (up μ 0 5 ((τ 25 0) - (τ 8 i))) 4 i (-1)) (up (up τ 9 i 1) 25 0 ((τ 25 0) - (τ 8 i))) nT nW := by rw [up_cm (by decide)]; exact hR.c4.n5
                    exact kk _ _ _ _ _ (show cc9 + 0 + 3 ≤ cc9 + 10 by omega) (show ss9 + 0 + 18 ≤ ss9 + 300 by omega) hS (LINV.of hC hP hRf) (lv_sub hl [0, 10, 4, 11, 12, 13, 14, 15, 16, 17, 18, 19, 20, 21, 22, 23, 24, 25, 26] rfl)
          · exact absurd (nIe (b := 0) (by omega) (by decide) c_771_8) hn0
      · skip
        refine lv_if_eq (tgt := 756) hx hb dL_law_749 (by decide) (fun c_749_13 => ?_) (fun c_749_13 => ?_)
        · refine lv_iconst (v := 0) hx hb dL_law_756 (by decide) ?_
          refine lv_istore (lv' := [(26, .int 0), (18, .int z9), (19, .int kd), (20, .int (nI y)), (21, .int (nI i)), (22, .int (nI r)), (23, .int (nI h)), (24, .int (nI k)), (25, .int (nI u)), (16, .int 1), (17, .int tn), (0, .ref b), (1, .ref a0), (2, .ref (al 0)), (3, .ref (al 1)), (4, .ref (al 2)), (5, .ref (al 3)), (6, .ref (al 4)), (7, .ref (al 5)), (8, .ref (al 6)), (9, .ref (al 7)), (10, .ref (al 8)), (11, .ref (al 9)), (12, .ref (al 10)), (13, .ref (al 11)), (14, .ref (al 12)), (15, .ref (al 13))]) hx hb dL_law_757 hl (by decide) rfl (fun ls hl => ?_)
          refine lv_aload_n hx hb dL_law_759 rfl (lv_at hl 12 rfl) ?_
          refine lv_iconst (v := 2) hx hb dL_law_760 (by decide) ?_
          refine lv_iload hx hb dL_law_761 (lv_at hl 4 rfl) ?_
          refine lv_iconst (v := 0) hx hb dL_law_763 (by decide) ?_
          refine lv_iconst (v := 0) hx hb dL_law_764 (by decide) ?_
          have hcm : cm_giveBack τ nT (nI i) 0 (thr τ 2) := gb_cm hi hcb
          refine hcallH (n := 5) C hE hN (hD_giveBack l G (AxL s.heap.size al) hl9 a0 τ (thr τ 2) 0 nT nW N (nI i) hcm) wML_L_127 wST_L_does wIN_L wCW_L_does (by decide) rfl ⟨Nat.le_of_ble_eq_true rfl, Nat.le_of_ble_eq_true rfl⟩ hS (fun q h => h.1) (fun q h => AxL.new hP hS.1 q h) hC rfl hl.1 (Nat.le_of_ble_eq_true rfl) dL_law_765 ⟨by show cc9 + 0 + 3 ≤ 709356; omega, by show ss9 + 0 + 18 ≤ 6973399; omega⟩ (fun v H1 locs1 hv hk hS => ?_)
          obtain ⟨rfl, nT', nW', hC⟩ := hv
          have hP := hP.keptL hk (fun q hq h => h.2 hq)
          refine W.eq (g2 := F0 m 768 ls [.int ((-13))]) (congrArg (fun z => F0 m 768 ls [.int z]) (dres2 thr_27)) ?_
          refine lv_aload_n hx hb dL_law_768 rfl (lv_at hl 13 rfl) ?_
          refine lv_iconst (v := 0) hx hb dL_law_769 (by decide) ?_
          refine xiald hx hb hE.1.1 (hP.arr 0 (by decide)) 0 rfl (k := 0) rfl (show _ < 7 by omega) (by decide) dL_law_770 ?_
          refine W.eq (g2 := F0 m 771 ls [.int (nI nT), .int (-13)]) (congrArg (fun z => F0 m 771 ls [.int z, .int (-13)]) (lr_n0 hR)) ?_
          refine lv_if_ne (tgt := 779) hx hb dL_law_771 (by decide) (fun c_771_14 => ?_) (fun c_771_14 => ?_)
          · refine lv_iload hx hb dL_law_779 (lv_at hl 0 rfl) ?_
            refine lv_if_eq (tgt := 792) hx hb dL_law_781 (by decide) (fun c_781_15 => ?_) (fun c_781_15 => ?_)
            · refine lv_bipush (v := (-13)) hx hb dL_law_792 (by decide) ?_
              refine lv_icmp_ne (tgt := 801) hx hb dL_law_794 (by decide) (fun c_794_16 => ?_) (fun c_794_16 => ?_)
              · exact absurd c_794_16 (by decide)
              · refine lv_iconst (v := 1) hx hb dL_law_797 (by decide) ?_
                refine lv_goto (tgt := 802) hx hb dL_law_798 (by decide) ?_
                refine lv_istore (lv' := [(16, .int 1), (26, .int 0), (18, .int z9), (19, .int kd), (20, .int (nI y)), (21, .int (nI i)), (22, .int (nI r)), (23, .int (nI h)), (24, .int (nI k)), (25, .int (nI u)), (17, .int tn), (0, .ref b), (1, .ref a0), (2, .ref (al 0)), (3, .ref (al 1)), (4, .ref (al 2)), (5, .ref (al 3)), (6, .ref (al 4)), (7, .ref (al 5)), (8, .ref (al 6)), (9, .ref (al 7)), (10, .ref (al 8)), (11, .ref (al 9)), (12, .ref (al 10)), (13, .ref (al 11)), (14, .ref (al 12)), (15, .ref (al 13))]) hx hb dL_law_802 hl (by decide) rfl (fun ls hl => ?_)
                refine lv_aload_n hx hb dL_law_804 rfl (lv_at hl 13 rfl) ?_
                refine lv_iconst (v := 5) hx hb dL_law_805 (by decide) ?_
                refine lv_dup2_11 hx hb dL_law_806 rfl rfl ?_
                refine xiald hx hb hE.1.1 (hP.arr 0 (by decide)) 0 rfl (k := 5) rfl (show _ < 7 by omega) (by decide) dL_law_807 ?_
                refine W.eq (g2 := F0 m 808 ls [.int (τ 25 0), .int 5, .ref (al 0)]) (congrArg (fun z => F0 m 808 ls [.int z, .int 5, .ref (al 0)]) (lr_n5 hR)) ?_
                refine lv_iload hx hb dL_law_808 (lv_at hl 1 rfl) ?_
                refine lv_if_eq (tgt := 821) hx hb dL_law_810 (by decide) (fun c_810_17 => ?_) (fun c_810_17 => ?_)
                · refine lv_iconst (v := 0) hx hb dL_law_821 (by decide) ?_
                  refine lv_isub hx hb dL_law_822 ?_
                  refine xiast hx hb hE.1.1 hS (hP.arr 0 (by decide)) (hP.oarr 0 (by decide)) 0 rfl (k := 5) rfl (show _ < 7 by omega) (by decide) dL_law_823 (fun H1 locs1 he1 z1 oq1 hS => ?_)
                  have hP := hP.put 0 5 (by decide) he1 oq1
                  have hC := hC.offL (f := 0) (by decide) z1 oq1
                  refine lv_aload hx hb dL_law_824 (lv_at hl 17 rfl) ?_
                  refine lv_iload hx hb dL_law_826 (lv_at hl 5 rfl) ?_
                  refine lv_iload hx hb dL_law_828 (lv_at hl 1 rfl) ?_
                  refine lv_if_eq (tgt := 837) hx hb dL_law_830 (by decide) (fun c_830_18 => ?_) (fun c_830_18 => ?_)
                  · refine lv_aload hx hb dL_law_837 (lv_at hl 17 rfl) ?_
                    refine lv_iload hx hb dL_law_839 (lv_at hl 5 rfl) ?_
                    refine xiald hx hb hE.1.1 (hP.arr 4 (by decide)) 0 rfl (k := i) rfl (show _ < 60 by omega) (by decide) dL_law_841 ?_
                    rw [show (up μ 0 5 ((τ 25 0) - 0)) 4 i = μ 4 i from by simp [up]]
                    refine xiast hx hb hE.1.1 hS (hP.arr 4 (by decide)) (hP.oarr 4 (by decide)) 0 rfl (k := i) rfl (show _ < 60 by omega) (by decide) dL_law_842 (fun H1 locs1 he1 z1 oq1 hS => ?_)
                    have hP := hP.put 4 i (by decide) he1 oq1
                    have hC := hC.offL (f := 4) (by decide) z1 oq1
                    refine lv_goto (tgt := 2555) hx hb dL_law_843 (by decide) ?_
                    have hRf : LR (up (up μ 0 5 ((τ 25 0) - 0)) 4 i (μ 4 i)) (thr τ 2) nT nW := by rw [Int32.sub_zero, up_eq (lr_n5 hR), up_id]; exact hR.th
                    exact kk _ _ _ _ _ (show cc9 + 0 + 3 ≤ cc9 + 10 by omega) (show ss9 + 0 + 18 ≤ ss9 + 300 by omega) hS (LINV.of hC hP hRf) (lv_sub hl [0, 10, 4, 11, 12, 13, 14, 15, 16, 17, 18, 19, 20, 21, 22, 23, 24, 25, 26] rfl)
                  · exact absurd c_830_18 (by decide)
                · exact absurd c_810_17 (by decide)
            · exact absurd c_781_15 (by decide)
          · exact absurd (nIe (b := 0) (by omega) (by decide) c_771_14) hn0
        · exact absurd c_749_13 (by decide)
