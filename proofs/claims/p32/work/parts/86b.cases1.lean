theorem nlt2 {a b : Nat} (ha : a < 2 ^ 31) (h : ¬ nI b ≤ nI a) : a < b := Nat.lt_of_not_le (fun z => h (by
  have h2 : b < 2 ^ 31 := by omega
  exact (nI_leI h2 ha).mpr z))
set_option maxHeartbeats 4000000 in
set_option maxRecDepth 100000 in
theorem LC_adv (l : Launch) (hl9 : l.stackTraces = false) {p : Program} {e : Env} {s : State} {m : MethodId} {below : List Frame} {meth : Method} {c : Code} {b : Nat} {G : GE} {a0 : Nat} {al : Nat → Nat} (C : CallFix p m c cL_law 30 s #[Value.ref b] gTb RL) (hE : EN (fun q => s.heap.size ≤ q) G s s.heap) (hN : NCX s) {N cc9 ss9 : Nat} {Qw : State → Prop} {H : Heap} {locs : List Loc} {ls : Array Slot} (hcc : cc9 ≤ 700000) (hss : ss9 ≤ 6900000) (hN9 : N ≤ 200) {τ μ : SG} {nT nW : Nat} (hS : va_S (fun q => s.heap.size ≤ q) s.heap H locs) (hC : CST G (AxL s.heap.size al) a0 τ nT nW N H) (hP : PL G (fun q => s.heap.size ≤ q) al μ 14 H) (hR : LR μ τ nT nW) (ht0 : thr τ 0 = τ) {z9 kd tn : Int32} {y i r h k u : Nat} (hy : y < 67108864) (hiT : nT ≠ 0 → i < nT) (hi0 : nT = 0 → i = 0) (hr9 : r < 12) (hh4 : h < 4) (hk6 : k < 6) (hu0 : nW ≠ 0 → u < nW) (hl : lv_has ls 30 [(18, .int z9), (19, .int kd), (20, .int (nI y)), (21, .int (nI i)), (22, .int (nI r)), (23, .int (nI h)), (24, .int (nI k)), (25, .int (nI u)), (16, .int 1), (17, .int tn), (0, .ref b), (1, .ref a0), (2, .ref (al 0)), (3, .ref (al 1)), (4, .ref (al 2)), (5, .ref (al 3)), (6, .ref (al 4)), (7, .ref (al 5)), (8, .ref (al 6)), (9, .ref (al 7)), (10, .ref (al 8)), (11, .ref (al 9)), (12, .ref (al 10)), (13, .ref (al 11)), (14, .ref (al 12)), (15, .ref (al 13))])
    (kk : ∀ (H1 : Heap) (locs1 : List Loc) (ls1 : Array Slot) (cc1 ss1 : Nat), cc1 ≤ cc9 + 10 → ss1 ≤ ss9 + 300 → va_S (fun q => s.heap.size ≤ q) s.heap H1 locs1 → LINV G s.heap.size a0 al (N + 1) H1 → lv_has ls1 30 [(16, .int 1), (17, .int tn), (20, .int (nI y)), (0, .ref b), (1, .ref a0), (2, .ref (al 0)), (3, .ref (al 1)), (4, .ref (al 2)), (5, .ref (al 3)), (6, .ref (al 4)), (7, .ref (al 5)), (8, .ref (al 6)), (9, .ref (al 7)), (10, .ref (al 8)), (11, .ref (al 9)), (12, .ref (al 10)), (13, .ref (al 11)), (14, .ref (al 12)), (15, .ref (al 13))] → W p l e room_1 s m #[Value.ref b] below meth c H1 locs1 cc1 ss1 Qw (F0 m 2555 ls1 [])) : W p l e room_1 s m #[Value.ref b] below meth c H locs cc9 ss9 Qw (F0 m 2473 ls []) := by
  have hx := C.1
  have hb := C.2.1
  have hown := C.2.2.2.1
  have hts := C.2.2.2.2
  obtain ⟨h60, h10⟩ := lr_n60 hR
  have h27 : τ 27 0 = 0 := by rw [← ht0]; exact thr_27
  have hi60 : i < 60 := by
    rcases Nat.eq_zero_or_pos nT with z | z
    · rw [hi0 z]; omega
    · have := hiT (by omega); omega
  have hMB : ∀ q, McL al q → s.heap.size ≤ q := by
    rintro q ⟨f, hf, rfl⟩
    exact hP.oarr f hf
  have hZ := hC.Z
  obtain ⟨D9, hD9, eD9⟩ := hC.D
  obtain ⟨K9, hK9, eK9⟩ := hC.K
  have hm12 : y / 3 % 12 < 12 := Nat.mod_lt _ (by decide)
  refine lv_aload_n hx hb dL_law_2473 rfl (lv_at hl 12 rfl) ?_
  refine lv_iconst (v := 2) hx hb dL_law_2474 (by decide) ?_
  refine xiald hx hb hE.1.1 (hP.arr 0 (by decide)) 0 rfl (k := 2) rfl (show _ < 7 by omega) (by decide) dL_law_2475 ?_
  refine W.eq (g2 := F0 m 2476 ls [.int (τ 26 0)]) (congrArg (fun z => F0 m 2476 ls [.int z]) (lr_n2 hR)) ?_
  refine lv_sipush (v := 1900) hx hb dL_law_2476 (by decide) ?_
  refine lv_icmp_ge (tgt := 2555) hx hb dL_law_2479 (by decide) (fun c_2479_1 => ?_) (fun c_2479_1 => ?_)
  · have hC := hC.more
    have hRf : LR μ τ nT nW := hR
    exact kk _ _ _ _ _ (show cc9 ≤ cc9 + 10 by omega) (show ss9 ≤ ss9 + 300 by omega) hS (LINV.of hC hP hRf) (lv_sub hl [8, 9, 2, 10, 11, 12, 13, 14, 15, 16, 17, 18, 19, 20, 21, 22, 23, 24, 25] rfl)
  · have hD19 : D9 < 1900 := by rw [eD9] at c_2479_1; exact nlt2 (by omega) c_2479_1
    refine lv_iload hx hb dL_law_2482 (lv_at hl 2 rfl) ?_
    refine lv_iconst (v := 3) hx hb dL_law_2484 (by decide) ?_
    refine lv_irem hx hb dL_law_2485 (by decide) ?_
    refine lv_if_ne (tgt := 2501) hx hb dL_law_2486 (by decide) (fun c_2486_2 => ?_) (fun c_2486_2 => ?_)
    · refine lv_iconst (v := 1) hx hb dL_law_2501 (by decide) ?_
      refine W.eq (g2 := F0 m 2502 ls [.int (nI 1)]) (congrArg (fun z => F0 m 2502 ls [.int z]) (rfl)) ?_
      refine lv_istore (lv' := [(26, .int (nI 1)), (18, .int z9), (19, .int kd), (20, .int (nI y)), (21, .int (nI i)), (22, .int (nI r)), (23, .int (nI h)), (24, .int (nI k)), (25, .int (nI u)), (16, .int 1), (17, .int tn), (0, .ref b), (1, .ref a0), (2, .ref (al 0)), (3, .ref (al 1)), (4, .ref (al 2)), (5, .ref (al 3)), (6, .ref (al 4)), (7, .ref (al 5)), (8, .ref (al 6)), (9, .ref (al 7)), (10, .ref (al 8)), (11, .ref (al 9)), (12, .ref (al 10)), (13, .ref (al 11)), (14, .ref (al 12)), (15, .ref (al 13))]) hx hb dL_law_2502 hl (by decide) rfl (fun ls hl => ?_)
      refine lv_iconst (v := 0) hx hb dL_law_2504 (by decide) ?_
      refine lv_istore (lv' := [(27, .int 0), (26, .int (nI 1)), (18, .int z9), (19, .int kd), (20, .int (nI y)), (21, .int (nI i)), (22, .int (nI r)), (23, .int (nI h)), (24, .int (nI k)), (25, .int (nI u)), (16, .int 1), (17, .int tn), (0, .ref b), (1, .ref a0), (2, .ref (al 0)), (3, .ref (al 1)), (4, .ref (al 2)), (5, .ref (al 3)), (6, .ref (al 4)), (7, .ref (al 5)), (8, .ref (al 6)), (9, .ref (al 7)), (10, .ref (al 8)), (11, .ref (al 9)), (12, .ref (al 10)), (13, .ref (al 11)), (14, .ref (al 12)), (15, .ref (al 13))]) hx hb dL_law_2505 hl (by decide) rfl (fun ls hl => ?_)
      have L2507 : ∀ (n9 : Nat) (μ1 τ1 : SG) (j : Nat) (h1 : j ≤ 1) (h2 : 1 < j + n9) (hR1 : LR μ1 τ1 nT nW) (hT : mDays nT (1 - j) τ1 = mDays nT 1 τ) (H : Heap) (locs : List Loc) (ls : Array Slot), va_S (fun q => s.heap.size ≤ q) s.heap H locs → PL G (fun q => s.heap.size ≤ q) al μ1 14 H → CST G (AxL s.heap.size al) a0 τ nT nW N H → lv_has ls 30 [(27, .int (nI j)), (26, .int (nI 1)), (16, .int 1), (17, .int tn), (20, .int (nI y)), (0, .ref b), (1, .ref a0), (2, .ref (al 0)), (3, .ref (al 1)), (4, .ref (al 2)), (5, .ref (al 3)), (6, .ref (al 4)), (7, .ref (al 5)), (8, .ref (al 6)), (9, .ref (al 7)), (10, .ref (al 8)), (11, .ref (al 9)), (12, .ref (al 10)), (13, .ref (al 11)), (14, .ref (al 12)), (15, .ref (al 13))] → W p l e room_1 s m #[Value.ref b] below meth c H locs (cc9) (ss9) Qw (F0 m 2507 ls []) := by
        intro n9
        induction n9 with
        | zero =>
          intro μ1 τ1 j h1 h2 hR1 hT H locs ls hS hP hC hl
          exact absurd True.intro (by omega)
        | succ n9 ih2507 =>
          intro μ1 τ1 j h1 h2 hR1 hT H locs ls hS hP hC hl
          refine lv_iload hx hb dL_law_2507 (lv_at hl 0 rfl) ?_
          refine lv_iload hx hb dL_law_2509 (lv_at hl 1 rfl) ?_
          refine lv_icmp_ge (tgt := 2536) hx hb dL_law_2511 (by decide) (fun c_2511_3 => ?_) (fun c_2511_3 => ?_)
          · have ej := nI_eqle (n := 1) h1 (by omega) c_2511_3
            rw [ej, Nat.sub_self] at hT
            have eT : τ1 = mDays nT 1 τ := hT
            subst eT
            refine lv_aload_n hx hb dL_law_2536 rfl (lv_at hl 6 rfl) ?_
            refine lv_iload hx hb dL_law_2537 (lv_at hl 1 rfl) ?_
            have hcm : cm_advance τ nT (nI 1) ((mDays nT 1 τ) 26 0) (mDays nT 1 τ) := Or.inr (Or.inr ⟨1, by omega, by omega, rfl, by rw [eD9, nI_addN]; exact (nI_leI (b := 2000) (by omega) (by decide)).mpr (by omega), by rw [ht0], by rw [ht0]⟩)
            have h27p : (mDays nT 1 τ) 27 0 = 0 := (mDays_ne (by decide) _ _).trans h27
            obtain ⟨ad, σ, qs, f, D, rfl, hPX, hR0, hI0⟩ := hC
            have h80 : nT ≤ 80 ∧ nW ≤ 12 ∧ f ≤ nT := ⟨hR0.1.2.2.1, hR0.1.2.2.2.2.2.1, hR0.1.2.1⟩
            refine hcallV (n := 1) C hE (kP_advance l G (AxL s.heap.size al) ad σ qs nT nW hl9 (nI 1) f hR0.1.1 h80.2.2 h80.1) wML_L_165 wIM_X5_advance wSE_X5_X5_advance wIN_X5 wCO_X5_advance (by decide) rfl ⟨Nat.le_of_ble_eq_true rfl, Nat.le_of_ble_eq_true rfl⟩ (orec hE (hPX.main rfl) (show mcl[7]? = some (RX5, TX5, 8) from rfl)) hS (fun q h => h.1) (fun q h => AxL.new hP hS.1 q h) hPX rfl hl.1 (Nat.le_of_ble_eq_true rfl) dL_law_2539 ⟨by show cc9 + 2 ≤ 709356; omega, by show ss9 + 12 ≤ 6973399; omega⟩ (fun E ce q9 H1 locs1 hx9 hk9 hS9 hc9 hv9 hf9 => by
              rcases sx_advance hR0 hI0 hx9 hcm with ⟨-, z, -⟩ | ⟨-, z, -⟩ <;> exact absurd (h27p.symm.trans z) (by decide)) (fun v H1 locs1 hv hk hS => ?_)
            obtain ⟨e27, rfl, ad', σ', qs', nT', nW', f', D', ea', hP2, hR2, hI2⟩ := st_advance hR0 hI0 hv hcm
            have hC : CST G (AxL s.heap.size al) (ad 0 0) (mDays nT 1 τ) nT' nW' (N + 1) H1 := ⟨ad', σ', qs', f', D', ea', hP2, hR2, hI2⟩
            have hP := hP.keptL hk (fun q hq h => h.2 hq)
            refine lv_aload_n hx hb dL_law_2542 rfl (lv_at hl 7 rfl) ?_
            refine lv_iconst (v := 2) hx hb dL_law_2543 (by decide) ?_
            refine xiald hx hb hE.1.1 (hP.arr 0 (by decide)) 0 rfl (k := 2) rfl (show _ < 7 by omega) (by decide) dL_law_2544 ?_
            refine W.eq (g2 := F0 m 2545 ls [.int ((mDays nT 1 τ) 26 0), .int ((mDays nT 1 τ) 26 0)]) (congrArg (fun z => F0 m 2545 ls [.int z, .int ((mDays nT 1 τ) 26 0)]) (lr_n2 hR1)) ?_
            refine lv_icmp_ne (tgt := 2552) hx hb dL_law_2545 (by decide) (fun c_2545_4 => ?_) (fun c_2545_4 => ?_)
            · exact absurd rfl c_2545_4
            · refine lv_iconst (v := 1) hx hb dL_law_2548 (by decide) ?_
              refine lv_goto (tgt := 2553) hx hb dL_law_2549 (by decide) ?_
              refine lv_istore (lv' := [(16, .int 1), (27, .int (nI j)), (26, .int (nI 1)), (17, .int tn), (20, .int (nI y)), (0, .ref b), (1, .ref (ad 0 0)), (2, .ref (al 0)), (3, .ref (al 1)), (4, .ref (al 2)), (5, .ref (al 3)), (6, .ref (al 4)), (7, .ref (al 5)), (8, .ref (al 6)), (9, .ref (al 7)), (10, .ref (al 8)), (11, .ref (al 9)), (12, .ref (al 10)), (13, .ref (al 11)), (14, .ref (al 12)), (15, .ref (al 13))]) hx hb dL_law_2553 hl (by decide) rfl (fun ls hl => ?_)
              have hRf : LR μ1 (mDays nT 1 τ) nT nW := hR1
              exact kk _ _ _ _ _ (show cc9 + 2 ≤ cc9 + 10 by omega) (show ss9 + 12 ≤ ss9 + 300 by omega) hS (LINV.of hC hP hRf) (lv_sub hl [0, 3, 4, 5, 6, 7, 8, 9, 10, 11, 12, 13, 14, 15, 16, 17, 18, 19, 20] rfl)
          · have hj := nI_lt' (n := 1) h1 (by omega) c_2511_3
            refine lv_aload_n hx hb dL_law_2514 rfl (lv_at hl 7 rfl) ?_
            refine lv_aload hx hb dL_law_2515 (lv_at hl 9 rfl) ?_
            refine lv_aload hx hb dL_law_2517 (lv_at hl 10 rfl) ?_
            refine lv_aload hx hb dL_law_2519 (lv_at hl 11 rfl) ?_
            refine lv_aload hx hb dL_law_2521 (lv_at hl 12 rfl) ?_
            refine lv_aload hx hb dL_law_2523 (lv_at hl 13 rfl) ?_
            refine lv_aload hx hb dL_law_2525 (lv_at hl 20 rfl) ?_
            refine hcallS (n := 7) C hE (kL_ends l G (fun q => McL al q ∨ H.size ≤ q) al μ1 τ1 nT nW hR1 ) wML_L_161 wST_L_ends wIN_L wCO_L_ends (by decide) rfl ⟨Nat.le_of_ble_eq_true rfl, Nat.le_of_ble_eq_true rfl⟩ hS (fun q h => h.elim (fun h => hMB q h) (fun h => Nat.le_trans hS.1 h)) (fun q h => Or.inr h) (hP.any (fun q h => Or.inl h)) rfl hl.1 (Nat.le_of_ble_eq_true rfl) dL_law_2527 ⟨by show cc9 + 0 ≤ 709356; omega, by show ss9 + 0 ≤ 6973399; omega⟩ (fun E ce q9 H1 locs1 hx9 _ _ _ _ _ => hx9.elim) (fun v H1 locs1 hv hk hS => ?_)
            obtain ⟨rfl, μ_5, hR_6, hP⟩ := hv
            have hP := hP.any (B := (fun q => s.heap.size ≤ q)) (fun q h => hMB q h)
            have hC := hC.kept hk (fun q hq hlt h => h.elim hq.2 (fun h => absurd hlt (Nat.not_lt.mpr h)))
            refine lv_iinc (v := (nI (j + 1))) (lv' := [(27, .int (nI (j + 1))), (26, .int (nI 1)), (16, .int 1), (17, .int tn), (20, .int (nI y)), (0, .ref b), (1, .ref a0), (2, .ref (al 0)), (3, .ref (al 1)), (4, .ref (al 2)), (5, .ref (al 3)), (6, .ref (al 4)), (7, .ref (al 5)), (8, .ref (al 6)), (9, .ref (al 7)), (10, .ref (al 8)), (11, .ref (al 9)), (12, .ref (al 10)), (13, .ref (al 11)), (14, .ref (al 12)), (15, .ref (al 13))]) hx hb dL_law_2530 hl (k := 0) rfl (nI_1 _) (by decide) rfl (fun ls hl => ?_)
            refine lv_goto (tgt := 2507) hx hb dL_law_2533 (by decide) ?_
            exact ih2507 _ _ (j + 1) (by omega) (by omega) hR_6 (by rw [show 1 - j = (1 - (j + 1)) + 1 by omega] at hT; exact hT) _ _ _ hS hP hC (lv_sub hl [0, 1, 2, 3, 4, 5, 6, 7, 8, 9, 10, 11, 12, 13, 14, 15, 16, 17, 18, 19, 20] rfl)
      exact L2507 (1 + 1) μ τ 0 (by omega) (by omega) hR rfl _ _ _ hS hP hC (lv_sub hl [0, 1, 10, 11, 4, 12, 13, 14, 15, 16, 17, 18, 19, 20, 21, 22, 23, 24, 25, 26, 27] rfl)
    · refine lv_iconst (v := 1) hx hb dL_law_2489 (by decide) ?_
      refine lv_iload hx hb dL_law_2490 (lv_at hl 2 rfl) ?_
      refine lv_iconst (v := 3) hx hb dL_law_2492 (by decide) ?_
      refine lv_idiv hx hb dL_law_2493 (by decide) ?_
      refine lv_bipush (v := 12) hx hb dL_law_2494 (by decide) ?_
      refine lv_irem hx hb dL_law_2496 (by decide) ?_
      refine W.eq (g2 := F0 m 2497 ls [.int (nI (y / 3 % 12)), .int 1]) (congrArg (fun z => F0 m 2497 ls [.int z, .int 1]) (yq hy (a := 3) (b := 12) (by decide) (by decide) (by decide) (by decide))) ?_
      refine lv_iadd hx hb dL_law_2497 ?_
      refine W.eq (g2 := F0 m 2498 ls [.int (nI (1 + y / 3 % 12))]) (congrArg (fun z => F0 m 2498 ls [.int z]) (nI_addN 1 _)) ?_
      refine lv_goto (tgt := 2502) hx hb dL_law_2498 (by decide) ?_
      refine lv_istore (lv' := [(26, .int (nI (1 + y / 3 % 12))), (18, .int z9), (19, .int kd), (20, .int (nI y)), (21, .int (nI i)), (22, .int (nI r)), (23, .int (nI h)), (24, .int (nI k)), (25, .int (nI u)), (16, .int 1), (17, .int tn), (0, .ref b), (1, .ref a0), (2, .ref (al 0)), (3, .ref (al 1)), (4, .ref (al 2)), (5, .ref (al 3)), (6, .ref (al 4)), (7, .ref (al 5)), (8, .ref (al 6)), (9, .ref (al 7)), (10, .ref (al 8)), (11, .ref (al 9)), (12, .ref (al 10)), (13, .ref (al 11)), (14, .ref (al 12)), (15, .ref (al 13))]) hx hb dL_law_2502 hl (by decide) rfl (fun ls hl => ?_)
      refine lv_iconst (v := 0) hx hb dL_law_2504 (by decide) ?_
      refine lv_istore (lv' := [(27, .int 0), (26, .int (nI (1 + y / 3 % 12))), (18, .int z9), (19, .int kd), (20, .int (nI y)), (21, .int (nI i)), (22, .int (nI r)), (23, .int (nI h)), (24, .int (nI k)), (25, .int (nI u)), (16, .int 1), (17, .int tn), (0, .ref b), (1, .ref a0), (2, .ref (al 0)), (3, .ref (al 1)), (4, .ref (al 2)), (5, .ref (al 3)), (6, .ref (al 4)), (7, .ref (al 5)), (8, .ref (al 6)), (9, .ref (al 7)), (10, .ref (al 8)), (11, .ref (al 9)), (12, .ref (al 10)), (13, .ref (al 11)), (14, .ref (al 12)), (15, .ref (al 13))]) hx hb dL_law_2505 hl (by decide) rfl (fun ls hl => ?_)
      have L2507 : ∀ (n9 : Nat) (μ1 τ1 : SG) (j : Nat) (h1 : j ≤ (1 + y / 3 % 12)) (h2 : (1 + y / 3 % 12) < j + n9) (hR1 : LR μ1 τ1 nT nW) (hT : mDays nT ((1 + y / 3 % 12) - j) τ1 = mDays nT (1 + y / 3 % 12) τ) (H : Heap) (locs : List Loc) (ls : Array Slot), va_S (fun q => s.heap.size ≤ q) s.heap H locs → PL G (fun q => s.heap.size ≤ q) al μ1 14 H → CST G (AxL s.heap.size al) a0 τ nT nW N H → lv_has ls 30 [(27, .int (nI j)), (26, .int (nI (1 + y / 3 % 12))), (16, .int 1), (17, .int tn), (20, .int (nI y)), (0, .ref b), (1, .ref a0), (2, .ref (al 0)), (3, .ref (al 1)), (4, .ref (al 2)), (5, .ref (al 3)), (6, .ref (al 4)), (7, .ref (al 5)), (8, .ref (al 6)), (9, .ref (al 7)), (10, .ref (al 8)), (11, .ref (al 9)), (12, .ref (al 10)), (13, .ref (al 11)), (14, .ref (al 12)), (15, .ref (al 13))] → W p l e room_1 s m #[Value.ref b] below meth c H locs (cc9) (ss9) Qw (F0 m 2507 ls []) := by
        intro n9
        induction n9 with
        | zero =>
          intro μ1 τ1 j h1 h2 hR1 hT H locs ls hS hP hC hl
          exact absurd True.intro (by omega)
        | succ n9 ih2507 =>
          intro μ1 τ1 j h1 h2 hR1 hT H locs ls hS hP hC hl
          refine lv_iload hx hb dL_law_2507 (lv_at hl 0 rfl) ?_
          refine lv_iload hx hb dL_law_2509 (lv_at hl 1 rfl) ?_
          refine lv_icmp_ge (tgt := 2536) hx hb dL_law_2511 (by decide) (fun c_2511_7 => ?_) (fun c_2511_7 => ?_)
          · have ej := nI_eqle (n := (1 + y / 3 % 12)) h1 (by omega) c_2511_7
            rw [ej, Nat.sub_self] at hT
            have eT : τ1 = mDays nT (1 + y / 3 % 12) τ := hT
            subst eT
            refine lv_aload_n hx hb dL_law_2536 rfl (lv_at hl 6 rfl) ?_
            refine lv_iload hx hb dL_law_2537 (lv_at hl 1 rfl) ?_
            have hcm : cm_advance τ nT (nI (1 + y / 3 % 12)) ((mDays nT (1 + y / 3 % 12) τ) 26 0) (mDays nT (1 + y / 3 % 12) τ) := Or.inr (Or.inr ⟨(1 + y / 3 % 12), by omega, by omega, rfl, by rw [eD9, nI_addN]; exact (nI_leI (b := 2000) (by omega) (by decide)).mpr (by omega), by rw [ht0], by rw [ht0]⟩)
            have h27p : (mDays nT (1 + y / 3 % 12) τ) 27 0 = 0 := (mDays_ne (by decide) _ _).trans h27
            obtain ⟨ad, σ, qs, f, D, rfl, hPX, hR0, hI0⟩ := hC
            have h80 : nT ≤ 80 ∧ nW ≤ 12 ∧ f ≤ nT := ⟨hR0.1.2.2.1, hR0.1.2.2.2.2.2.1, hR0.1.2.1⟩
            refine hcallV (n := 1) C hE (kP_advance l G (AxL s.heap.size al) ad σ qs nT nW hl9 (nI (1 + y / 3 % 12)) f hR0.1.1 h80.2.2 h80.1) wML_L_165 wIM_X5_advance wSE_X5_X5_advance wIN_X5 wCO_X5_advance (by decide) rfl ⟨Nat.le_of_ble_eq_true rfl, Nat.le_of_ble_eq_true rfl⟩ (orec hE (hPX.main rfl) (show mcl[7]? = some (RX5, TX5, 8) from rfl)) hS (fun q h => h.1) (fun q h => AxL.new hP hS.1 q h) hPX rfl hl.1 (Nat.le_of_ble_eq_true rfl) dL_law_2539 ⟨by show cc9 + 2 ≤ 709356; omega, by show ss9 + 12 ≤ 6973399; omega⟩ (fun E ce q9 H1 locs1 hx9 hk9 hS9 hc9 hv9 hf9 => by
              rcases sx_advance hR0 hI0 hx9 hcm with ⟨-, z, -⟩ | ⟨-, z, -⟩ <;> exact absurd (h27p.symm.trans z) (by decide)) (fun v H1 locs1 hv hk hS => ?_)
            obtain ⟨e27, rfl, ad', σ', qs', nT', nW', f', D', ea', hP2, hR2, hI2⟩ := st_advance hR0 hI0 hv hcm
            have hC : CST G (AxL s.heap.size al) (ad 0 0) (mDays nT (1 + y / 3 % 12) τ) nT' nW' (N + 1) H1 := ⟨ad', σ', qs', f', D', ea', hP2, hR2, hI2⟩
            have hP := hP.keptL hk (fun q hq h => h.2 hq)
            refine lv_aload_n hx hb dL_law_2542 rfl (lv_at hl 7 rfl) ?_
            refine lv_iconst (v := 2) hx hb dL_law_2543 (by decide) ?_
            refine xiald hx hb hE.1.1 (hP.arr 0 (by decide)) 0 rfl (k := 2) rfl (show _ < 7 by omega) (by decide) dL_law_2544 ?_
            refine W.eq (g2 := F0 m 2545 ls [.int ((mDays nT (1 + y / 3 % 12) τ) 26 0), .int ((mDays nT (1 + y / 3 % 12) τ) 26 0)]) (congrArg (fun z => F0 m 2545 ls [.int z, .int ((mDays nT (1 + y / 3 % 12) τ) 26 0)]) (lr_n2 hR1)) ?_
            refine lv_icmp_ne (tgt := 2552) hx hb dL_law_2545 (by decide) (fun c_2545_8 => ?_) (fun c_2545_8 => ?_)
            · exact absurd rfl c_2545_8
            · refine lv_iconst (v := 1) hx hb dL_law_2548 (by decide) ?_
              refine lv_goto (tgt := 2553) hx hb dL_law_2549 (by decide) ?_
              refine lv_istore (lv' := [(16, .int 1), (27, .int (nI j)), (26, .int (nI (1 + y / 3 % 12))), (17, .int tn), (20, .int (nI y)), (0, .ref b), (1, .ref (ad 0 0)), (2, .ref (al 0)), (3, .ref (al 1)), (4, .ref (al 2)), (5, .ref (al 3)), (6, .ref (al 4)), (7, .ref (al 5)), (8, .ref (al 6)), (9, .ref (al 7)), (10, .ref (al 8)), (11, .ref (al 9)), (12, .ref (al 10)), (13, .ref (al 11)), (14, .ref (al 12)), (15, .ref (al 13))]) hx hb dL_law_2553 hl (by decide) rfl (fun ls hl => ?_)
              have hRf : LR μ1 (mDays nT (1 + y / 3 % 12) τ) nT nW := hR1
              exact kk _ _ _ _ _ (show cc9 + 2 ≤ cc9 + 10 by omega) (show ss9 + 12 ≤ ss9 + 300 by omega) hS (LINV.of hC hP hRf) (lv_sub hl [0, 3, 4, 5, 6, 7, 8, 9, 10, 11, 12, 13, 14, 15, 16, 17, 18, 19, 20] rfl)
          · have hj := nI_lt' (n := (1 + y / 3 % 12)) h1 (by omega) c_2511_7
            refine lv_aload_n hx hb dL_law_2514 rfl (lv_at hl 7 rfl) ?_
            refine lv_aload hx hb dL_law_2515 (lv_at hl 9 rfl) ?_
            refine lv_aload hx hb dL_law_2517 (lv_at hl 10 rfl) ?_
            refine lv_aload hx hb dL_law_2519 (lv_at hl 11 rfl) ?_
            refine lv_aload hx hb dL_law_2521 (lv_at hl 12 rfl) ?_
            refine lv_aload hx hb dL_law_2523 (lv_at hl 13 rfl) ?_
            refine lv_aload hx hb dL_law_2525 (lv_at hl 20 rfl) ?_
            refine hcallS (n := 7) C hE (kL_ends l G (fun q => McL al q ∨ H.size ≤ q) al μ1 τ1 nT nW hR1 ) wML_L_161 wST_L_ends wIN_L wCO_L_ends (by decide) rfl ⟨Nat.le_of_ble_eq_true rfl, Nat.le_of_ble_eq_true rfl⟩ hS (fun q h => h.elim (fun h => hMB q h) (fun h => Nat.le_trans hS.1 h)) (fun q h => Or.inr h) (hP.any (fun q h => Or.inl h)) rfl hl.1 (Nat.le_of_ble_eq_true rfl) dL_law_2527 ⟨by show cc9 + 0 ≤ 709356; omega, by show ss9 + 0 ≤ 6973399; omega⟩ (fun E ce q9 H1 locs1 hx9 _ _ _ _ _ => hx9.elim) (fun v H1 locs1 hv hk hS => ?_)
            obtain ⟨rfl, μ_9, hR_10, hP⟩ := hv
            have hP := hP.any (B := (fun q => s.heap.size ≤ q)) (fun q h => hMB q h)
            have hC := hC.kept hk (fun q hq hlt h => h.elim hq.2 (fun h => absurd hlt (Nat.not_lt.mpr h)))
            refine lv_iinc (v := (nI (j + 1))) (lv' := [(27, .int (nI (j + 1))), (26, .int (nI (1 + y / 3 % 12))), (16, .int 1), (17, .int tn), (20, .int (nI y)), (0, .ref b), (1, .ref a0), (2, .ref (al 0)), (3, .ref (al 1)), (4, .ref (al 2)), (5, .ref (al 3)), (6, .ref (al 4)), (7, .ref (al 5)), (8, .ref (al 6)), (9, .ref (al 7)), (10, .ref (al 8)), (11, .ref (al 9)), (12, .ref (al 10)), (13, .ref (al 11)), (14, .ref (al 12)), (15, .ref (al 13))]) hx hb dL_law_2530 hl (k := 0) rfl (nI_1 _) (by decide) rfl (fun ls hl => ?_)
            refine lv_goto (tgt := 2507) hx hb dL_law_2533 (by decide) ?_
            exact ih2507 _ _ (j + 1) (by omega) (by omega) hR_10 (by rw [show (1 + y / 3 % 12) - j = ((1 + y / 3 % 12) - (j + 1)) + 1 by omega] at hT; exact hT) _ _ _ hS hP hC (lv_sub hl [0, 1, 2, 3, 4, 5, 6, 7, 8, 9, 10, 11, 12, 13, 14, 15, 16, 17, 18, 19, 20] rfl)
      exact L2507 ((1 + y / 3 % 12) + 1) μ τ 0 (by omega) (by omega) hR rfl _ _ _ hS hP hC (lv_sub hl [0, 1, 10, 11, 4, 12, 13, 14, 15, 16, 17, 18, 19, 20, 21, 22, 23, 24, 25, 26, 27] rfl)
set_option maxHeartbeats 4000000 in
set_option maxRecDepth 100000 in
theorem LC_price (l : Launch) (hl9 : l.stackTraces = false) {p : Program} {e : Env} {s : State} {m : MethodId} {below : List Frame} {meth : Method} {c : Code} {b : Nat} {G : GE} {a0 : Nat} {al : Nat → Nat} (C : CallFix p m c cL_law 30 s #[Value.ref b] gTb RL) (hE : EN (fun q => s.heap.size ≤ q) G s s.heap) (hN : NCX s) {N cc9 ss9 : Nat} {Qw : State → Prop} {H : Heap} {locs : List Loc} {ls : Array Slot} (hcc : cc9 ≤ 700000) (hss : ss9 ≤ 6900000) (hN9 : N ≤ 200) {τ μ : SG} {nT nW : Nat} (hS : va_S (fun q => s.heap.size ≤ q) s.heap H locs) (hC : CST G (AxL s.heap.size al) a0 τ nT nW N H) (hP : PL G (fun q => s.heap.size ≤ q) al μ 14 H) (hR : LR μ τ nT nW) (ht0 : thr τ 0 = τ) {z9 kd tn : Int32} {y i r h k u : Nat} (hy : y < 67108864) (hiT : nT ≠ 0 → i < nT) (hi0 : nT = 0 → i = 0) (hr9 : r < 12) (hh4 : h < 4) (hk6 : k < 6) (hu0 : nW ≠ 0 → u < nW) (hl : lv_has ls 30 [(18, .int z9), (19, .int kd), (20, .int (nI y)), (21, .int (nI i)), (22, .int (nI r)), (23, .int (nI h)), (24, .int (nI k)), (25, .int (nI u)), (16, .int 1), (17, .int tn), (0, .ref b), (1, .ref a0), (2, .ref (al 0)), (3, .ref (al 1)), (4, .ref (al 2)), (5, .ref (al 3)), (6, .ref (al 4)), (7, .ref (al 5)), (8, .ref (al 6)), (9, .ref (al 7)), (10, .ref (al 8)), (11, .ref (al 9)), (12, .ref (al 10)), (13, .ref (al 11)), (14, .ref (al 12)), (15, .ref (al 13))])
    (kk : ∀ (H1 : Heap) (locs1 : List Loc) (ls1 : Array Slot) (cc1 ss1 : Nat), cc1 ≤ cc9 + 10 → ss1 ≤ ss9 + 300 → va_S (fun q => s.heap.size ≤ q) s.heap H1 locs1 → LINV G s.heap.size a0 al (N + 1) H1 → lv_has ls1 30 [(16, .int 1), (17, .int tn), (20, .int (nI y)), (0, .ref b), (1, .ref a0), (2, .ref (al 0)), (3, .ref (al 1)), (4, .ref (al 2)), (5, .ref (al 3)), (6, .ref (al 4)), (7, .ref (al 5)), (8, .ref (al 6)), (9, .ref (al 7)), (10, .ref (al 8)), (11, .ref (al 9)), (12, .ref (al 10)), (13, .ref (al 11)), (14, .ref (al 12)), (15, .ref (al 13))] → W p l e room_1 s m #[Value.ref b] below meth c H1 locs1 cc1 ss1 Qw (F0 m 2555 ls1 [])) : W p l e room_1 s m #[Value.ref b] below meth c H locs cc9 ss9 Qw (F0 m 2363 ls []) := by
  have hx := C.1
  have hb := C.2.1
  have hown := C.2.2.2.1
  have hts := C.2.2.2.2
  obtain ⟨h60, h10⟩ := lr_n60 hR
  have h27 : τ 27 0 = 0 := by rw [← ht0]; exact thr_27
  have hi60 : i < 60 := by
    rcases Nat.eq_zero_or_pos nT with z | z
    · rw [hi0 z]; omega
    · have := hiT (by omega); omega
  have hMB : ∀ q, McL al q → s.heap.size ≤ q := by
    rintro q ⟨f, hf, rfl⟩
    exact hP.oarr f hf
  have hZ := hC.Z
  obtain ⟨D9, hD9, eD9⟩ := hC.D
  obtain ⟨K9, hK9, eK9⟩ := hC.K
  have hm1 : y / 5 % 2001 < 2001 := Nat.mod_lt _ (by decide)
  refine lv_iload hx hb dL_law_2363 (lv_at hl 1 rfl) ?_
  refine lv_bipush (v := 30) hx hb dL_law_2365 (by decide) ?_
  refine lv_icmp_ne (tgt := 2473) hx hb dL_law_2367 (by decide) (fun c_2367_1 => ?_) (fun c_2367_1 => ?_)
  · exact LC_adv l hl9 C hE hN hcc hss hN9 hS hC hP hR ht0 hy hiT hi0 hr9 hh4 hk6 hu0 (lv_sub hl [0, 1, 2, 3, 4, 5, 6, 7, 8, 9, 10, 11, 12, 13, 14, 15, 16, 17, 18, 19, 20, 21, 22, 23, 24, 25] rfl) kk
  · refine lv_iload hx hb dL_law_2370 (lv_at hl 2 rfl) ?_
    refine lv_iconst (v := 5) hx hb dL_law_2372 (by decide) ?_
    refine lv_idiv hx hb dL_law_2373 (by decide) ?_
    refine lv_sipush (v := 2001) hx hb dL_law_2374 (by decide) ?_
    refine lv_irem hx hb dL_law_2377 (by decide) ?_
    refine W.eq (g2 := F0 m 2378 ls [.int (nI (y / 5 % 2001))]) (congrArg (fun z => F0 m 2378 ls [.int z]) (yq hy (a := 5) (b := 2001) (by decide) (by decide) (by decide) (by decide))) ?_
    refine lv_istore (lv' := [(26, .int (nI (y / 5 % 2001))), (18, .int z9), (19, .int kd), (20, .int (nI y)), (21, .int (nI i)), (22, .int (nI r)), (23, .int (nI h)), (24, .int (nI k)), (25, .int (nI u)), (16, .int 1), (17, .int tn), (0, .ref b), (1, .ref a0), (2, .ref (al 0)), (3, .ref (al 1)), (4, .ref (al 2)), (5, .ref (al 3)), (6, .ref (al 4)), (7, .ref (al 5)), (8, .ref (al 6)), (9, .ref (al 7)), (10, .ref (al 8)), (11, .ref (al 9)), (12, .ref (al 10)), (13, .ref (al 11)), (14, .ref (al 12)), (15, .ref (al 13))]) hx hb dL_law_2378 hl (by decide) rfl (fun ls hl => ?_)
    refine lv_iload hx hb dL_law_2380 (lv_at hl 3 rfl) ?_
    refine lv_iconst (v := 5) hx hb dL_law_2382 (by decide) ?_
    refine lv_irem hx hb dL_law_2383 (by decide) ?_
    refine lv_if_ne (tgt := 2391) hx hb dL_law_2384 (by decide) (fun c_2384_2 => ?_) (fun c_2384_2 => ?_)
    · refine lv_iconst (v := 0) hx hb dL_law_2391 (by decide) ?_
      refine lv_istore (lv' := [(27, .int 0), (26, .int (nI (y / 5 % 2001))), (18, .int z9), (19, .int kd), (20, .int (nI y)), (21, .int (nI i)), (22, .int (nI r)), (23, .int (nI h)), (24, .int (nI k)), (25, .int (nI u)), (16, .int 1), (17, .int tn), (0, .ref b), (1, .ref a0), (2, .ref (al 0)), (3, .ref (al 1)), (4, .ref (al 2)), (5, .ref (al 3)), (6, .ref (al 4)), (7, .ref (al 5)), (8, .ref (al 6)), (9, .ref (al 7)), (10, .ref (al 8)), (11, .ref (al 9)), (12, .ref (al 10)), (13, .ref (al 11)), (14, .ref (al 12)), (15, .ref (al 13))]) hx hb dL_law_2392 hl (by decide) rfl (fun ls hl => ?_)
      refine lv_aload_n hx hb dL_law_2394 rfl (lv_at hl 13 rfl) ?_
      refine lv_iload hx hb dL_law_2395 (lv_at hl 0 rfl) ?_
      refine lv_if_eq (tgt := 2404) hx hb dL_law_2397 (by decide) (fun c_2397_3 => ?_) (fun c_2397_3 => ?_)
      · refine lv_iload hx hb dL_law_2404 (lv_at hl 7 rfl) ?_
        refine lv_iload hx hb dL_law_2406 (lv_at hl 1 rfl) ?_
        have hcm : cm_setPrice τ (nI h) (nI (y / 5 % 2001)) (τ 0 h) (up τ 0 h (nI (y / 5 % 2001))) := by
          unfold cm_setPrice
          rw [ht0]
          exact Or.inr (Or.inr (Or.inr ⟨h, hh4, rfl, inB_n (b := 10000) (by omega) (by decide), rfl, rfl⟩))
        have h27p : (up τ 0 h (nI (y / 5 % 2001))) 27 0 = 0 := by simp [up]; exact h27
        obtain ⟨ad, σ, qs, f, D, rfl, hPX, hR0, hI0⟩ := hC
        have h80 : nT ≤ 80 ∧ nW ≤ 12 ∧ f ≤ nT := ⟨hR0.1.2.2.1, hR0.1.2.2.2.2.2.1, hR0.1.2.1⟩
        refine hcallV (n := 2) C hE (kP_setPrice l G (AxL s.heap.size al) ad σ qs nT nW hl9 (nI h) (nI (y / 5 % 2001))) wML_L_158 wIM_X5_setPrice wSE_X5_X5_setPrice wIN_X5 wCO_X5_setPrice (by decide) rfl ⟨Nat.le_of_ble_eq_true rfl, Nat.le_of_ble_eq_true rfl⟩ (orec hE (hPX.main rfl) (show mcl[7]? = some (RX5, TX5, 8) from rfl)) hS (fun q h => h.1) (fun q h => AxL.new hP hS.1 q h) hPX rfl hl.1 (Nat.le_of_ble_eq_true rfl) dL_law_2408 ⟨by show cc9 + 2 ≤ 709356; omega, by show ss9 + 12 ≤ 6973399; omega⟩ (fun E ce q9 H1 locs1 hx9 hk9 hS9 hc9 hv9 hf9 => by
          rcases sx_setPrice hR0 hI0 hx9 hcm with ⟨-, z, -⟩ | ⟨-, z, -⟩ <;> exact absurd (h27p.symm.trans z) (by decide)) (fun v H1 locs1 hv hk hS => ?_)
        obtain ⟨e27, rfl, ad', σ', qs', nT', nW', f', D', ea', hP2, hR2, hI2⟩ := st_setPrice hR0 hI0 hv hcm
        have hC : CST G (AxL s.heap.size al) (ad 0 0) (up τ 0 h (nI (y / 5 % 2001))) nT' nW' (N + 1) H1 := ⟨ad', σ', qs', f', D', ea', hP2, hR2, hI2⟩
        have hP := hP.keptL hk (fun q hq h => h.2 hq)
        refine lv_iload hx hb dL_law_2411 (lv_at hl 0 rfl) ?_
        refine lv_if_eq (tgt := 2422) hx hb dL_law_2413 (by decide) (fun c_2413_4 => ?_) (fun c_2413_4 => ?_)
        · refine lv_aload_n hx hb dL_law_2422 rfl (lv_at hl 15 rfl) ?_
          refine lv_iload hx hb dL_law_2423 (lv_at hl 7 rfl) ?_
          refine xiald hx hb hE.1.1 (hP.arr 1 (by decide)) 0 rfl (k := h) rfl (show _ < 4 by omega) (by decide) dL_law_2425 ?_
          refine W.eq (g2 := F0 m 2426 ls [.int (τ 0 h), .int (τ 0 h)]) (congrArg (fun z => F0 m 2426 ls [.int z, .int (τ 0 h)]) (lr_p hR hh4)) ?_
          refine lv_icmp_ne (tgt := 2433) hx hb dL_law_2426 (by decide) (fun c_2426_5 => ?_) (fun c_2426_5 => ?_)
          · exact absurd rfl c_2426_5
          · refine lv_iconst (v := 1) hx hb dL_law_2429 (by decide) ?_
            refine lv_goto (tgt := 2434) hx hb dL_law_2430 (by decide) ?_
            refine lv_istore (lv' := [(16, .int 1), (27, .int 0), (26, .int (nI (y / 5 % 2001))), (18, .int z9), (19, .int kd), (20, .int (nI y)), (21, .int (nI i)), (22, .int (nI r)), (23, .int (nI h)), (24, .int (nI k)), (25, .int (nI u)), (17, .int tn), (0, .ref b), (1, .ref (ad 0 0)), (2, .ref (al 0)), (3, .ref (al 1)), (4, .ref (al 2)), (5, .ref (al 3)), (6, .ref (al 4)), (7, .ref (al 5)), (8, .ref (al 6)), (9, .ref (al 7)), (10, .ref (al 8)), (11, .ref (al 9)), (12, .ref (al 10)), (13, .ref (al 11)), (14, .ref (al 12)), (15, .ref (al 13))]) hx hb dL_law_2434 hl (by decide) rfl (fun ls hl => ?_)
            refine lv_aload_n hx hb dL_law_2436 rfl (lv_at hl 14 rfl) ?_
            refine lv_iconst (v := 3) hx hb dL_law_2437 (by decide) ?_
            refine lv_iload hx hb dL_law_2438 (lv_at hl 1 rfl) ?_
            refine lv_if_eq (tgt := 2448) hx hb dL_law_2440 (by decide) (fun c_2440_6 => ?_) (fun c_2440_6 => ?_)
            · refine lv_aload_n hx hb dL_law_2448 rfl (lv_at hl 14 rfl) ?_
              refine lv_iconst (v := 3) hx hb dL_law_2449 (by decide) ?_
              refine xiald hx hb hE.1.1 (hP.arr 0 (by decide)) 0 rfl (k := 3) rfl (show _ < 7 by omega) (by decide) dL_law_2450 ?_
              refine W.eq (g2 := F0 m 2451 ls [.int (τ 1 0), .int 3, .ref (al 0)]) (congrArg (fun z => F0 m 2451 ls [.int z, .int 3, .ref (al 0)]) (lr_n3 hR)) ?_
              refine xiast hx hb hE.1.1 hS (hP.arr 0 (by decide)) (hP.oarr 0 (by decide)) 0 rfl (k := 3) rfl (show _ < 7 by omega) (by decide) dL_law_2451 (fun H1 locs1 he1 z1 oq1 hS => ?_)
              have hP := hP.put 0 3 (by decide) he1 oq1
              have hC := hC.offL (f := 0) (by decide) z1 oq1
              refine lv_aload_n hx hb dL_law_2452 rfl (lv_at hl 15 rfl) ?_
              refine lv_iload hx hb dL_law_2453 (lv_at hl 8 rfl) ?_
              refine lv_iload hx hb dL_law_2455 (lv_at hl 1 rfl) ?_
              refine lv_if_eq (tgt := 2467) hx hb dL_law_2457 (by decide) (fun c_2457_7 => ?_) (fun c_2457_7 => ?_)
              · refine lv_iload hx hb dL_law_2467 (lv_at hl 2 rfl) ?_
                refine xiast hx hb hE.1.1 hS (hP.arr 1 (by decide)) (hP.oarr 1 (by decide)) 0 rfl (k := h) rfl (show _ < 4 by omega) (by decide) dL_law_2469 (fun H1 locs1 he1 z1 oq1 hS => ?_)
                have hP := hP.put 1 h (by decide) he1 oq1
                have hC := hC.offL (f := 1) (by decide) z1 oq1
                refine lv_goto (tgt := 2555) hx hb dL_law_2470 (by decide) ?_
                have hRf : LR (up (up μ 0 3 (τ 1 0)) 1 h (nI (y / 5 % 2001))) (up τ 0 h (nI (y / 5 % 2001))) nT nW := by rw [up_eq (lr_n3 hR)]; exact hR.p1 (by omega)
                exact kk _ _ _ _ _ (show cc9 + 2 ≤ cc9 + 10 by omega) (show ss9 + 12 ≤ ss9 + 300 by omega) hS (LINV.of hC hP hRf) (lv_sub hl [0, 11, 5, 12, 13, 14, 15, 16, 17, 18, 19, 20, 21, 22, 23, 24, 25, 26, 27] rfl)
              · exact absurd c_2457_7 (by decide)
            · exact absurd c_2440_6 (by decide)
        · exact absurd c_2413_4 (by decide)
      · exact absurd c_2397_3 (by decide)
    · refine lv_iconst (v := 1) hx hb dL_law_2387 (by decide) ?_
      refine lv_goto (tgt := 2392) hx hb dL_law_2388 (by decide) ?_
      refine lv_istore (lv' := [(27, .int 1), (26, .int (nI (y / 5 % 2001))), (18, .int z9), (19, .int kd), (20, .int (nI y)), (21, .int (nI i)), (22, .int (nI r)), (23, .int (nI h)), (24, .int (nI k)), (25, .int (nI u)), (16, .int 1), (17, .int tn), (0, .ref b), (1, .ref a0), (2, .ref (al 0)), (3, .ref (al 1)), (4, .ref (al 2)), (5, .ref (al 3)), (6, .ref (al 4)), (7, .ref (al 5)), (8, .ref (al 6)), (9, .ref (al 7)), (10, .ref (al 8)), (11, .ref (al 9)), (12, .ref (al 10)), (13, .ref (al 11)), (14, .ref (al 12)), (15, .ref (al 13))]) hx hb dL_law_2392 hl (by decide) rfl (fun ls hl => ?_)
      refine lv_aload_n hx hb dL_law_2394 rfl (lv_at hl 13 rfl) ?_
      refine lv_iload hx hb dL_law_2395 (lv_at hl 0 rfl) ?_
      refine lv_if_eq (tgt := 2404) hx hb dL_law_2397 (by decide) (fun c_2397_8 => ?_) (fun c_2397_8 => ?_)
      · exact absurd c_2397_8 (by decide)
      · refine lv_iconst (v := (-1)) hx hb dL_law_2400 (by decide) ?_
        refine lv_goto (tgt := 2406) hx hb dL_law_2401 (by decide) ?_
        refine lv_iload hx hb dL_law_2406 (lv_at hl 1 rfl) ?_
        have hcm : cm_setPrice τ (-1) (nI (y / 5 % 2001)) (τ 1 0) (up τ 1 0 (nI (y / 5 % 2001))) := by
          unfold cm_setPrice
          rw [ht0]
          exact Or.inr (Or.inr (Or.inl ⟨rfl, inB_n (b := 10000) (by omega) (by decide), rfl, rfl⟩))
        have h27p : (up τ 1 0 (nI (y / 5 % 2001))) 27 0 = 0 := by simp [up]; exact h27
        obtain ⟨ad, σ, qs, f, D, rfl, hPX, hR0, hI0⟩ := hC
        have h80 : nT ≤ 80 ∧ nW ≤ 12 ∧ f ≤ nT := ⟨hR0.1.2.2.1, hR0.1.2.2.2.2.2.1, hR0.1.2.1⟩
        refine hcallV (n := 2) C hE (kP_setPrice l G (AxL s.heap.size al) ad σ qs nT nW hl9 (-1) (nI (y / 5 % 2001))) wML_L_158 wIM_X5_setPrice wSE_X5_X5_setPrice wIN_X5 wCO_X5_setPrice (by decide) rfl ⟨Nat.le_of_ble_eq_true rfl, Nat.le_of_ble_eq_true rfl⟩ (orec hE (hPX.main rfl) (show mcl[7]? = some (RX5, TX5, 8) from rfl)) hS (fun q h => h.1) (fun q h => AxL.new hP hS.1 q h) hPX rfl hl.1 (Nat.le_of_ble_eq_true rfl) dL_law_2408 ⟨by show cc9 + 2 ≤ 709356; omega, by show ss9 + 12 ≤ 6973399; omega⟩ (fun E ce q9 H1 locs1 hx9 hk9 hS9 hc9 hv9 hf9 => by
          rcases sx_setPrice hR0 hI0 hx9 hcm with ⟨-, z, -⟩ | ⟨-, z, -⟩ <;> exact absurd (h27p.symm.trans z) (by decide)) (fun v H1 locs1 hv hk hS => ?_)
        obtain ⟨e27, rfl, ad', σ', qs', nT', nW', f', D', ea', hP2, hR2, hI2⟩ := st_setPrice hR0 hI0 hv hcm
        have hC : CST G (AxL s.heap.size al) (ad 0 0) (up τ 1 0 (nI (y / 5 % 2001))) nT' nW' (N + 1) H1 := ⟨ad', σ', qs', f', D', ea', hP2, hR2, hI2⟩
        have hP := hP.keptL hk (fun q hq h => h.2 hq)
        refine lv_iload hx hb dL_law_2411 (lv_at hl 0 rfl) ?_
        refine lv_if_eq (tgt := 2422) hx hb dL_law_2413 (by decide) (fun c_2413_9 => ?_) (fun c_2413_9 => ?_)
        · exact absurd c_2413_9 (by decide)
        · refine lv_aload_n hx hb dL_law_2416 rfl (lv_at hl 14 rfl) ?_
          refine lv_iconst (v := 3) hx hb dL_law_2417 (by decide) ?_
          refine xiald hx hb hE.1.1 (hP.arr 0 (by decide)) 0 rfl (k := 3) rfl (show _ < 7 by omega) (by decide) dL_law_2418 ?_
          refine W.eq (g2 := F0 m 2419 ls [.int (τ 1 0), .int (τ 1 0)]) (congrArg (fun z => F0 m 2419 ls [.int z, .int (τ 1 0)]) (lr_n3 hR)) ?_
          refine lv_goto (tgt := 2426) hx hb dL_law_2419 (by decide) ?_
          refine lv_icmp_ne (tgt := 2433) hx hb dL_law_2426 (by decide) (fun c_2426_10 => ?_) (fun c_2426_10 => ?_)
          · exact absurd rfl c_2426_10
          · refine lv_iconst (v := 1) hx hb dL_law_2429 (by decide) ?_
            refine lv_goto (tgt := 2434) hx hb dL_law_2430 (by decide) ?_
            refine lv_istore (lv' := [(16, .int 1), (27, .int 1), (26, .int (nI (y / 5 % 2001))), (18, .int z9), (19, .int kd), (20, .int (nI y)), (21, .int (nI i)), (22, .int (nI r)), (23, .int (nI h)), (24, .int (nI k)), (25, .int (nI u)), (17, .int tn), (0, .ref b), (1, .ref (ad 0 0)), (2, .ref (al 0)), (3, .ref (al 1)), (4, .ref (al 2)), (5, .ref (al 3)), (6, .ref (al 4)), (7, .ref (al 5)), (8, .ref (al 6)), (9, .ref (al 7)), (10, .ref (al 8)), (11, .ref (al 9)), (12, .ref (al 10)), (13, .ref (al 11)), (14, .ref (al 12)), (15, .ref (al 13))]) hx hb dL_law_2434 hl (by decide) rfl (fun ls hl => ?_)
            refine lv_aload_n hx hb dL_law_2436 rfl (lv_at hl 14 rfl) ?_
            refine lv_iconst (v := 3) hx hb dL_law_2437 (by decide) ?_
            refine lv_iload hx hb dL_law_2438 (lv_at hl 1 rfl) ?_
            refine lv_if_eq (tgt := 2448) hx hb dL_law_2440 (by decide) (fun c_2440_11 => ?_) (fun c_2440_11 => ?_)
            · exact absurd c_2440_11 (by decide)
            · refine lv_iload hx hb dL_law_2443 (lv_at hl 2 rfl) ?_
              refine lv_goto (tgt := 2451) hx hb dL_law_2445 (by decide) ?_
              refine xiast hx hb hE.1.1 hS (hP.arr 0 (by decide)) (hP.oarr 0 (by decide)) 0 rfl (k := 3) rfl (show _ < 7 by omega) (by decide) dL_law_2451 (fun H1 locs1 he1 z1 oq1 hS => ?_)
              have hP := hP.put 0 3 (by decide) he1 oq1
              have hC := hC.offL (f := 0) (by decide) z1 oq1
              refine lv_aload_n hx hb dL_law_2452 rfl (lv_at hl 15 rfl) ?_
              refine lv_iload hx hb dL_law_2453 (lv_at hl 8 rfl) ?_
              refine lv_iload hx hb dL_law_2455 (lv_at hl 1 rfl) ?_
              refine lv_if_eq (tgt := 2467) hx hb dL_law_2457 (by decide) (fun c_2457_12 => ?_) (fun c_2457_12 => ?_)
              · exact absurd c_2457_12 (by decide)
              · refine lv_aload_n hx hb dL_law_2460 rfl (lv_at hl 15 rfl) ?_
                refine lv_iload hx hb dL_law_2461 (lv_at hl 8 rfl) ?_
                refine xiald hx hb hE.1.1 (hP.arr 1 (by decide)) 0 rfl (k := h) rfl (show _ < 4 by omega) (by decide) dL_law_2463 ?_
                rw [show (up μ 0 3 (nI (y / 5 % 2001))) 1 h = μ 1 h from by simp [up]]
                refine W.eq (g2 := F0 m 2464 ls [.int (τ 0 h), .int (nI h), .ref (al 1)]) (congrArg (fun z => F0 m 2464 ls [.int z, .int (nI h), .ref (al 1)]) (lr_p hR hh4)) ?_
                refine lv_goto (tgt := 2469) hx hb dL_law_2464 (by decide) ?_
                refine xiast hx hb hE.1.1 hS (hP.arr 1 (by decide)) (hP.oarr 1 (by decide)) 0 rfl (k := h) rfl (show _ < 4 by omega) (by decide) dL_law_2469 (fun H1 locs1 he1 z1 oq1 hS => ?_)
                have hP := hP.put 1 h (by decide) he1 oq1
                have hC := hC.offL (f := 1) (by decide) z1 oq1
                refine lv_goto (tgt := 2555) hx hb dL_law_2470 (by decide) ?_
                have hRf : LR (up (up μ 0 3 (nI (y / 5 % 2001))) 1 h (τ 0 h)) (up τ 1 0 (nI (y / 5 % 2001))) nT nW := by rw [up_eq (show (up μ 0 3 (nI (y / 5 % 2001))) 1 h = τ 0 h from (up_f (by decide)).trans (lr_p hR hh4))]; exact hR.n3 (by omega)
                exact kk _ _ _ _ _ (show cc9 + 2 ≤ cc9 + 10 by omega) (show ss9 + 12 ≤ ss9 + 300 by omega) hS (LINV.of hC hP hRf) (lv_sub hl [0, 11, 5, 12, 13, 14, 15, 16, 17, 18, 19, 20, 21, 22, 23, 24, 25, 26, 27] rfl)
set_option maxHeartbeats 4000000 in
set_option maxRecDepth 100000 in
theorem LC_give (l : Launch) (hl9 : l.stackTraces = false) {p : Program} {e : Env} {s : State} {m : MethodId} {below : List Frame} {meth : Method} {c : Code} {b : Nat} {G : GE} {a0 : Nat} {al : Nat → Nat} (C : CallFix p m c cL_law 30 s #[Value.ref b] gTb RL) (hE : EN (fun q => s.heap.size ≤ q) G s s.heap) (hN : NCX s) {N cc9 ss9 : Nat} {Qw : State → Prop} {H : Heap} {locs : List Loc} {ls : Array Slot} (hcc : cc9 ≤ 700000) (hss : ss9 ≤ 6900000) (hN9 : N ≤ 200) {τ μ : SG} {nT nW : Nat} (hS : va_S (fun q => s.heap.size ≤ q) s.heap H locs) (hC : CST G (AxL s.heap.size al) a0 τ nT nW N H) (hP : PL G (fun q => s.heap.size ≤ q) al μ 14 H) (hR : LR μ τ nT nW) (ht0 : thr τ 0 = τ) {z9 kd tn : Int32} {y i r h k u : Nat} (hy : y < 67108864) (hiT : nT ≠ 0 → i < nT) (hi0 : nT = 0 → i = 0) (hr9 : r < 12) (hh4 : h < 4) (hk6 : k < 6) (hu0 : nW ≠ 0 → u < nW) (hl : lv_has ls 30 [(18, .int z9), (19, .int kd), (20, .int (nI y)), (21, .int (nI i)), (22, .int (nI r)), (23, .int (nI h)), (24, .int (nI k)), (25, .int (nI u)), (16, .int 1), (17, .int tn), (0, .ref b), (1, .ref a0), (2, .ref (al 0)), (3, .ref (al 1)), (4, .ref (al 2)), (5, .ref (al 3)), (6, .ref (al 4)), (7, .ref (al 5)), (8, .ref (al 6)), (9, .ref (al 7)), (10, .ref (al 8)), (11, .ref (al 9)), (12, .ref (al 10)), (13, .ref (al 11)), (14, .ref (al 12)), (15, .ref (al 13))])
    (kk : ∀ (H1 : Heap) (locs1 : List Loc) (ls1 : Array Slot) (cc1 ss1 : Nat), cc1 ≤ cc9 + 10 → ss1 ≤ ss9 + 300 → va_S (fun q => s.heap.size ≤ q) s.heap H1 locs1 → LINV G s.heap.size a0 al (N + 1) H1 → lv_has ls1 30 [(16, .int 1), (17, .int tn), (20, .int (nI y)), (0, .ref b), (1, .ref a0), (2, .ref (al 0)), (3, .ref (al 1)), (4, .ref (al 2)), (5, .ref (al 3)), (6, .ref (al 4)), (7, .ref (al 5)), (8, .ref (al 6)), (9, .ref (al 7)), (10, .ref (al 8)), (11, .ref (al 9)), (12, .ref (al 10)), (13, .ref (al 11)), (14, .ref (al 12)), (15, .ref (al 13))] → W p l e room_1 s m #[Value.ref b] below meth c H1 locs1 cc1 ss1 Qw (F0 m 2555 ls1 [])) : W p l e room_1 s m #[Value.ref b] below meth c H locs cc9 ss9 Qw (F0 m 2244 ls []) := by
  have hx := C.1
  have hb := C.2.1
  have hown := C.2.2.2.1
  have hts := C.2.2.2.2
  obtain ⟨h60, h10⟩ := lr_n60 hR
  have h27 : τ 27 0 = 0 := by rw [← ht0]; exact thr_27
  have hi60 : i < 60 := by
    rcases Nat.eq_zero_or_pos nT with z | z
    · rw [hi0 z]; omega
    · have := hiT (by omega); omega
  have hMB : ∀ q, McL al q → s.heap.size ≤ q := by
    rintro q ⟨f, hf, rfl⟩
    exact hP.oarr f hf
  have hZ := hC.Z
  obtain ⟨D9, hD9, eD9⟩ := hC.D
  obtain ⟨K9, hK9, eK9⟩ := hC.K
  have hm5 : y / 9 % 5000 < 5000 := Nat.mod_lt _ (by decide)
  refine lv_iload hx hb dL_law_2244 (lv_at hl 1 rfl) ?_
  refine lv_bipush (v := 29) hx hb dL_law_2246 (by decide) ?_
  refine lv_icmp_ne (tgt := 2363) hx hb dL_law_2248 (by decide) (fun c_2248_1 => ?_) (fun c_2248_1 => ?_)
  · exact LC_price l hl9 C hE hN hcc hss hN9 hS hC hP hR ht0 hy hiT hi0 hr9 hh4 hk6 hu0 (lv_sub hl [0, 1, 2, 3, 4, 5, 6, 7, 8, 9, 10, 11, 12, 13, 14, 15, 16, 17, 18, 19, 20, 21, 22, 23, 24, 25] rfl) kk
  · refine lv_iconst (v := 1) hx hb dL_law_2251 (by decide) ?_
    refine lv_iload hx hb dL_law_2252 (lv_at hl 2 rfl) ?_
    refine lv_bipush (v := 9) hx hb dL_law_2254 (by decide) ?_
    refine lv_idiv hx hb dL_law_2256 (by decide) ?_
    refine lv_sipush (v := 5000) hx hb dL_law_2257 (by decide) ?_
    refine lv_irem hx hb dL_law_2260 (by decide) ?_
    refine W.eq (g2 := F0 m 2261 ls [.int (nI (y / 9 % 5000)), .int 1]) (congrArg (fun z => F0 m 2261 ls [.int z, .int 1]) (yq hy (a := 9) (b := 5000) (by decide) (by decide) (by decide) (by decide))) ?_
    refine lv_iadd hx hb dL_law_2261 ?_
    refine W.eq (g2 := F0 m 2262 ls [.int (nI (1 + y / 9 % 5000))]) (congrArg (fun z => F0 m 2262 ls [.int z]) (nI_addN 1 _)) ?_
    refine lv_istore (lv' := [(26, .int (nI (1 + y / 9 % 5000))), (18, .int z9), (19, .int kd), (20, .int (nI y)), (21, .int (nI i)), (22, .int (nI r)), (23, .int (nI h)), (24, .int (nI k)), (25, .int (nI u)), (16, .int 1), (17, .int tn), (0, .ref b), (1, .ref a0), (2, .ref (al 0)), (3, .ref (al 1)), (4, .ref (al 2)), (5, .ref (al 3)), (6, .ref (al 4)), (7, .ref (al 5)), (8, .ref (al 6)), (9, .ref (al 7)), (10, .ref (al 8)), (11, .ref (al 9)), (12, .ref (al 10)), (13, .ref (al 11)), (14, .ref (al 12)), (15, .ref (al 13))]) hx hb dL_law_2262 hl (by decide) rfl (fun ls hl => ?_)
    refine lv_iload hx hb dL_law_2264 (lv_at hl 3 rfl) ?_
    refine lv_iconst (v := 3) hx hb dL_law_2266 (by decide) ?_
    refine lv_irem hx hb dL_law_2267 (by decide) ?_
    refine lv_if_ne (tgt := 2275) hx hb dL_law_2268 (by decide) (fun c_2268_2 => ?_) (fun c_2268_2 => ?_)
    · refine lv_iload hx hb dL_law_2275 (lv_at hl 7 rfl) ?_
      refine lv_istore (lv' := [(27, .int (nI k)), (26, .int (nI (1 + y / 9 % 5000))), (18, .int z9), (19, .int kd), (20, .int (nI y)), (21, .int (nI i)), (22, .int (nI r)), (23, .int (nI h)), (24, .int (nI k)), (25, .int (nI u)), (16, .int 1), (17, .int tn), (0, .ref b), (1, .ref a0), (2, .ref (al 0)), (3, .ref (al 1)), (4, .ref (al 2)), (5, .ref (al 3)), (6, .ref (al 4)), (7, .ref (al 5)), (8, .ref (al 6)), (9, .ref (al 7)), (10, .ref (al 8)), (11, .ref (al 9)), (12, .ref (al 10)), (13, .ref (al 11)), (14, .ref (al 12)), (15, .ref (al 13))]) hx hb dL_law_2277 hl (by decide) rfl (fun ls hl => ?_)
      refine lv_iload hx hb dL_law_2279 (lv_at hl 0 rfl) ?_
      refine lv_if_lt (tgt := 2302) hx hb dL_law_2281 (by decide) (fun c_2281_3 => ?_) (fun c_2281_3 => ?_)
      · exact absurd c_2281_3 (nI_pos (by omega))
      · refine lv_aload hx hb dL_law_2284 (lv_at hl 16 rfl) ?_
        refine lv_iload hx hb dL_law_2286 (lv_at hl 8 rfl) ?_
        refine xiald hx hb hE.1.1 (hP.arr 2 (by decide)) 0 rfl (k := k) rfl (show _ < 6 by omega) (by decide) dL_law_2288 ?_
        refine W.eq (g2 := F0 m 2289 ls [.int (τ 2 k)]) (congrArg (fun z => F0 m 2289 ls [.int z]) (lr_l hR hk6)) ?_
        refine lv_aload_n hx hb dL_law_2289 rfl (lv_at hl 14 rfl) ?_
        refine lv_iconst (v := 2) hx hb dL_law_2290 (by decide) ?_
        refine xiald hx hb hE.1.1 (hP.arr 0 (by decide)) 0 rfl (k := 2) rfl (show _ < 7 by omega) (by decide) dL_law_2291 ?_
        refine W.eq (g2 := F0 m 2292 ls [.int (τ 26 0), .int (τ 2 k)]) (congrArg (fun z => F0 m 2292 ls [.int z, .int (τ 2 k)]) (lr_n2 hR)) ?_
        refine lv_icmp_lt (tgt := 2302) hx hb dL_law_2292 (by decide) (fun c_2292_4 => ?_) (fun c_2292_4 => ?_)
        · refine lv_iconst (v := 0) hx hb dL_law_2302 (by decide) ?_
          refine lv_istore (lv' := [(28, .int 0), (27, .int (nI k)), (26, .int (nI (1 + y / 9 % 5000))), (18, .int z9), (19, .int kd), (20, .int (nI y)), (21, .int (nI i)), (22, .int (nI r)), (23, .int (nI h)), (24, .int (nI k)), (25, .int (nI u)), (16, .int 1), (17, .int tn), (0, .ref b), (1, .ref a0), (2, .ref (al 0)), (3, .ref (al 1)), (4, .ref (al 2)), (5, .ref (al 3)), (6, .ref (al 4)), (7, .ref (al 5)), (8, .ref (al 6)), (9, .ref (al 7)), (10, .ref (al 8)), (11, .ref (al 9)), (12, .ref (al 10)), (13, .ref (al 11)), (14, .ref (al 12)), (15, .ref (al 13))]) hx hb dL_law_2303 hl (by decide) rfl (fun ls hl => ?_)
          refine lv_aload hx hb dL_law_2305 (lv_at hl 28 rfl) ?_
          refine lv_iload hx hb dL_law_2307 (lv_at hl 8 rfl) ?_
          refine lv_dup2_11 hx hb dL_law_2309 rfl rfl ?_
          refine xiald hx hb hE.1.1 (hP.arr 13 (by decide)) 0 rfl (k := h) rfl (show _ < 5 by omega) (by decide) dL_law_2310 ?_
          refine lv_iload hx hb dL_law_2311 (lv_at hl 2 rfl) ?_
          refine lv_iload hx hb dL_law_2313 (lv_at hl 0 rfl) ?_
          refine lv_iadd hx hb dL_law_2315 ?_
          refine lv_iadd hx hb dL_law_2316 ?_
          refine xiast hx hb hE.1.1 hS (hP.arr 13 (by decide)) (hP.oarr 13 (by decide)) 0 rfl (k := h) rfl (show _ < 5 by omega) (by decide) dL_law_2317 (fun H1 locs1 he1 z1 oq1 hS => ?_)
          have hP := hP.put 13 h (by decide) he1 oq1
          have hC := hC.offL (f := 13) (by decide) z1 oq1
          refine lv_aload hx hb dL_law_2318 (lv_at hl 28 rfl) ?_
          refine lv_iconst (v := 4) hx hb dL_law_2320 (by decide) ?_
          refine lv_dup2_11 hx hb dL_law_2321 rfl rfl ?_
          refine xiald hx hb hE.1.1 (hP.arr 13 (by decide)) 0 rfl (k := 4) rfl (show _ < 5 by omega) (by decide) dL_law_2322 ?_
          refine lv_iload hx hb dL_law_2323 (lv_at hl 0 rfl) ?_
          refine lv_isub hx hb dL_law_2325 ?_
          refine xiast hx hb hE.1.1 hS (hP.arr 13 (by decide)) (hP.oarr 13 (by decide)) 0 rfl (k := 4) rfl (show _ < 5 by omega) (by decide) dL_law_2326 (fun H1 locs1 he1 z1 oq1 hS => ?_)
          have hP := hP.put 13 4 (by decide) he1 oq1
          have hC := hC.offL (f := 13) (by decide) z1 oq1
          refine lv_aload_n hx hb dL_law_2327 rfl (lv_at hl 15 rfl) ?_
          refine lv_iconst (v := 5) hx hb dL_law_2328 (by decide) ?_
          refine lv_dup2_11 hx hb dL_law_2329 rfl rfl ?_
          refine xiald hx hb hE.1.1 (hP.arr 0 (by decide)) 0 rfl (k := 5) rfl (show _ < 7 by omega) (by decide) dL_law_2330 ?_
          rw [show (up (up μ 13 h ((μ 13 h) + ((nI (1 + y / 9 % 5000)) + 0))) 13 4 (((up μ 13 h ((μ 13 h) + ((nI (1 + y / 9 % 5000)) + 0))) 13 4) - 0)) 0 5 = μ 0 5 from by simp [up]]
          refine W.eq (g2 := F0 m 2331 ls [.int (τ 25 0), .int 5, .ref (al 0)]) (congrArg (fun z => F0 m 2331 ls [.int z, .int 5, .ref (al 0)]) (lr_n5 hR)) ?_
          refine lv_iload hx hb dL_law_2331 (lv_at hl 2 rfl) ?_
          refine lv_iadd hx hb dL_law_2333 ?_
          refine xiast hx hb hE.1.1 hS (hP.arr 0 (by decide)) (hP.oarr 0 (by decide)) 0 rfl (k := 5) rfl (show _ < 7 by omega) (by decide) dL_law_2334 (fun H1 locs1 he1 z1 oq1 hS => ?_)
          have hP := hP.put 0 5 (by decide) he1 oq1
          have hC := hC.offL (f := 0) (by decide) z1 oq1
          refine lv_aload_n hx hb dL_law_2335 rfl (lv_at hl 14 rfl) ?_
          refine lv_iload hx hb dL_law_2336 (lv_at hl 8 rfl) ?_
          refine lv_iload hx hb dL_law_2338 (lv_at hl 2 rfl) ?_
          refine lv_iload hx hb dL_law_2340 (lv_at hl 1 rfl) ?_
          have hcm : cm_give τ (nI h) (nI (1 + y / 9 % 5000)) (nI k) ((nI (1 + y / 9 % 5000)) + 0) (mGive τ h (nI (1 + y / 9 % 5000)) 0) := by
            unfold cm_give
            rw [ht0]
            exact Or.inr (Or.inr ⟨h, false, hh4, rfl, Or.inr ⟨nI_ne1' hk6, k, hk6, rfl, (fBel_lt.mpr c_2292_4).symm⟩, inB_1 (b := 100000) (by omega) (by omega) (by decide), rfl, rfl⟩)
          have h27p : (mGive τ h (nI (1 + y / 9 % 5000)) 0) 27 0 = 0 := by simp [mGive, up]; exact h27
          obtain ⟨ad, σ, qs, f, D, rfl, hPX, hR0, hI0⟩ := hC
          have h80 : nT ≤ 80 ∧ nW ≤ 12 ∧ f ≤ nT := ⟨hR0.1.2.2.1, hR0.1.2.2.2.2.2.1, hR0.1.2.1⟩
          refine hcallV (n := 3) C hE (kP_give l G (AxL s.heap.size al) ad σ qs nT nW hl9 (nI h) (nI (1 + y / 9 % 5000)) (nI k)) wML_L_155 wIM_X5_give wSE_X5_X5_give wIN_X5 wCO_X5_give (by decide) rfl ⟨Nat.le_of_ble_eq_true rfl, Nat.le_of_ble_eq_true rfl⟩ (orec hE (hPX.main rfl) (show mcl[7]? = some (RX5, TX5, 8) from rfl)) hS (fun q h => h.1) (fun q h => AxL.new hP hS.1 q h) hPX rfl hl.1 (Nat.le_of_ble_eq_true rfl) dL_law_2342 ⟨by show cc9 + 4 ≤ 709356; omega, by show ss9 + 24 ≤ 6973399; omega⟩ (fun E ce q9 H1 locs1 hx9 hk9 hS9 hc9 hv9 hf9 => by
            rcases sx_give hR0 hI0 hx9 hcm with ⟨-, z, -⟩ | ⟨-, z, -⟩ <;> exact absurd (h27p.symm.trans z) (by decide)) (fun v H1 locs1 hv hk hS => ?_)
          obtain ⟨e27, rfl, ad', σ', qs', nT', nW', f', D', ea', hP2, hR2, hI2⟩ := st_give hR0 hI0 hv hcm
          have hC : CST G (AxL s.heap.size al) (ad 0 0) (mGive τ h (nI (1 + y / 9 % 5000)) 0) nT' nW' (N + 1) H1 := ⟨ad', σ', qs', f', D', ea', hP2, hR2, hI2⟩
          have hP := hP.keptL hk (fun q hq h => h.2 hq)
          refine lv_iload hx hb dL_law_2345 (lv_at hl 2 rfl) ?_
          refine lv_iload hx hb dL_law_2347 (lv_at hl 0 rfl) ?_
          refine lv_iadd hx hb dL_law_2349 ?_
          refine lv_icmp_ne (tgt := 2357) hx hb dL_law_2350 (by decide) (fun c_2350_5 => ?_) (fun c_2350_5 => ?_)
          · exact absurd rfl c_2350_5
          · refine lv_iconst (v := 1) hx hb dL_law_2353 (by decide) ?_
            refine lv_goto (tgt := 2358) hx hb dL_law_2354 (by decide) ?_
            refine lv_istore (lv' := [(16, .int 1), (28, .int 0), (27, .int (nI k)), (26, .int (nI (1 + y / 9 % 5000))), (18, .int z9), (19, .int kd), (20, .int (nI y)), (21, .int (nI i)), (22, .int (nI r)), (23, .int (nI h)), (24, .int (nI k)), (25, .int (nI u)), (17, .int tn), (0, .ref b), (1, .ref (ad 0 0)), (2, .ref (al 0)), (3, .ref (al 1)), (4, .ref (al 2)), (5, .ref (al 3)), (6, .ref (al 4)), (7, .ref (al 5)), (8, .ref (al 6)), (9, .ref (al 7)), (10, .ref (al 8)), (11, .ref (al 9)), (12, .ref (al 10)), (13, .ref (al 11)), (14, .ref (al 12)), (15, .ref (al 13))]) hx hb dL_law_2358 hl (by decide) rfl (fun ls hl => ?_)
            refine lv_goto (tgt := 2555) hx hb dL_law_2360 (by decide) ?_
            have hRf : LR (up (up (up μ 13 h ((μ 13 h) + ((nI (1 + y / 9 % 5000)) + 0))) 13 4 (((up μ 13 h ((μ 13 h) + ((nI (1 + y / 9 % 5000)) + 0))) 13 4) - 0)) 0 5 ((τ 25 0) + (nI (1 + y / 9 % 5000)))) (mGive τ h (nI (1 + y / 9 % 5000)) 0) nT nW := hR.give hh4
            exact kk _ _ _ _ _ (show cc9 + 4 ≤ cc9 + 10 by omega) (show ss9 + 24 ≤ ss9 + 300 by omega) hS (LINV.of hC hP hRf) (lv_sub hl [0, 12, 6, 13, 14, 15, 16, 17, 18, 19, 20, 21, 22, 23, 24, 25, 26, 27, 28] rfl)
        · refine lv_iload hx hb dL_law_2295 (lv_at hl 1 rfl) ?_
          refine lv_iconst (v := 4) hx hb dL_law_2297 (by decide) ?_
          refine lv_idiv hx hb dL_law_2298 (by decide) ?_
          refine lv_goto (tgt := 2303) hx hb dL_law_2299 (by decide) ?_
          refine lv_istore (lv' := [(28, .int ((nI (1 + y / 9 % 5000)) / 4)), (27, .int (nI k)), (26, .int (nI (1 + y / 9 % 5000))), (18, .int z9), (19, .int kd), (20, .int (nI y)), (21, .int (nI i)), (22, .int (nI r)), (23, .int (nI h)), (24, .int (nI k)), (25, .int (nI u)), (16, .int 1), (17, .int tn), (0, .ref b), (1, .ref a0), (2, .ref (al 0)), (3, .ref (al 1)), (4, .ref (al 2)), (5, .ref (al 3)), (6, .ref (al 4)), (7, .ref (al 5)), (8, .ref (al 6)), (9, .ref (al 7)), (10, .ref (al 8)), (11, .ref (al 9)), (12, .ref (al 10)), (13, .ref (al 11)), (14, .ref (al 12)), (15, .ref (al 13))]) hx hb dL_law_2303 hl (by decide) rfl (fun ls hl => ?_)
          refine lv_aload hx hb dL_law_2305 (lv_at hl 28 rfl) ?_
          refine lv_iload hx hb dL_law_2307 (lv_at hl 8 rfl) ?_
          refine lv_dup2_11 hx hb dL_law_2309 rfl rfl ?_
          refine xiald hx hb hE.1.1 (hP.arr 13 (by decide)) 0 rfl (k := h) rfl (show _ < 5 by omega) (by decide) dL_law_2310 ?_
          refine lv_iload hx hb dL_law_2311 (lv_at hl 2 rfl) ?_
          refine lv_iload hx hb dL_law_2313 (lv_at hl 0 rfl) ?_
          refine lv_iadd hx hb dL_law_2315 ?_
          refine lv_iadd hx hb dL_law_2316 ?_
          refine xiast hx hb hE.1.1 hS (hP.arr 13 (by decide)) (hP.oarr 13 (by decide)) 0 rfl (k := h) rfl (show _ < 5 by omega) (by decide) dL_law_2317 (fun H1 locs1 he1 z1 oq1 hS => ?_)
          have hP := hP.put 13 h (by decide) he1 oq1
          have hC := hC.offL (f := 13) (by decide) z1 oq1
          refine lv_aload hx hb dL_law_2318 (lv_at hl 28 rfl) ?_
          refine lv_iconst (v := 4) hx hb dL_law_2320 (by decide) ?_
          refine lv_dup2_11 hx hb dL_law_2321 rfl rfl ?_
          refine xiald hx hb hE.1.1 (hP.arr 13 (by decide)) 0 rfl (k := 4) rfl (show _ < 5 by omega) (by decide) dL_law_2322 ?_
          refine lv_iload hx hb dL_law_2323 (lv_at hl 0 rfl) ?_
          refine lv_isub hx hb dL_law_2325 ?_
          refine xiast hx hb hE.1.1 hS (hP.arr 13 (by decide)) (hP.oarr 13 (by decide)) 0 rfl (k := 4) rfl (show _ < 5 by omega) (by decide) dL_law_2326 (fun H1 locs1 he1 z1 oq1 hS => ?_)
          have hP := hP.put 13 4 (by decide) he1 oq1
          have hC := hC.offL (f := 13) (by decide) z1 oq1
          refine lv_aload_n hx hb dL_law_2327 rfl (lv_at hl 15 rfl) ?_
          refine lv_iconst (v := 5) hx hb dL_law_2328 (by decide) ?_
          refine lv_dup2_11 hx hb dL_law_2329 rfl rfl ?_
          refine xiald hx hb hE.1.1 (hP.arr 0 (by decide)) 0 rfl (k := 5) rfl (show _ < 7 by omega) (by decide) dL_law_2330 ?_
          rw [show (up (up μ 13 h ((μ 13 h) + ((nI (1 + y / 9 % 5000)) + ((nI (1 + y / 9 % 5000)) / 4)))) 13 4 (((up μ 13 h ((μ 13 h) + ((nI (1 + y / 9 % 5000)) + ((nI (1 + y / 9 % 5000)) / 4)))) 13 4) - ((nI (1 + y / 9 % 5000)) / 4))) 0 5 = μ 0 5 from by simp [up]]
          refine W.eq (g2 := F0 m 2331 ls [.int (τ 25 0), .int 5, .ref (al 0)]) (congrArg (fun z => F0 m 2331 ls [.int z, .int 5, .ref (al 0)]) (lr_n5 hR)) ?_
          refine lv_iload hx hb dL_law_2331 (lv_at hl 2 rfl) ?_
          refine lv_iadd hx hb dL_law_2333 ?_
          refine xiast hx hb hE.1.1 hS (hP.arr 0 (by decide)) (hP.oarr 0 (by decide)) 0 rfl (k := 5) rfl (show _ < 7 by omega) (by decide) dL_law_2334 (fun H1 locs1 he1 z1 oq1 hS => ?_)
          have hP := hP.put 0 5 (by decide) he1 oq1
          have hC := hC.offL (f := 0) (by decide) z1 oq1
          refine lv_aload_n hx hb dL_law_2335 rfl (lv_at hl 14 rfl) ?_
          refine lv_iload hx hb dL_law_2336 (lv_at hl 8 rfl) ?_
          refine lv_iload hx hb dL_law_2338 (lv_at hl 2 rfl) ?_
          refine lv_iload hx hb dL_law_2340 (lv_at hl 1 rfl) ?_
          have hcm : cm_give τ (nI h) (nI (1 + y / 9 % 5000)) (nI k) ((nI (1 + y / 9 % 5000)) + ((nI (1 + y / 9 % 5000)) / 4)) (mGive τ h (nI (1 + y / 9 % 5000)) ((nI (1 + y / 9 % 5000)) / 4)) := by
            unfold cm_give
            rw [ht0]
            exact Or.inr (Or.inr ⟨h, true, hh4, rfl, Or.inr ⟨nI_ne1' hk6, k, hk6, rfl, (fBel_ge.mpr c_2292_4).symm⟩, inB_1 (b := 100000) (by omega) (by omega) (by decide), rfl, rfl⟩)
          have h27p : (mGive τ h (nI (1 + y / 9 % 5000)) ((nI (1 + y / 9 % 5000)) / 4)) 27 0 = 0 := by simp [mGive, up]; exact h27
          obtain ⟨ad, σ, qs, f, D, rfl, hPX, hR0, hI0⟩ := hC
          have h80 : nT ≤ 80 ∧ nW ≤ 12 ∧ f ≤ nT := ⟨hR0.1.2.2.1, hR0.1.2.2.2.2.2.1, hR0.1.2.1⟩
          refine hcallV (n := 3) C hE (kP_give l G (AxL s.heap.size al) ad σ qs nT nW hl9 (nI h) (nI (1 + y / 9 % 5000)) (nI k)) wML_L_155 wIM_X5_give wSE_X5_X5_give wIN_X5 wCO_X5_give (by decide) rfl ⟨Nat.le_of_ble_eq_true rfl, Nat.le_of_ble_eq_true rfl⟩ (orec hE (hPX.main rfl) (show mcl[7]? = some (RX5, TX5, 8) from rfl)) hS (fun q h => h.1) (fun q h => AxL.new hP hS.1 q h) hPX rfl hl.1 (Nat.le_of_ble_eq_true rfl) dL_law_2342 ⟨by show cc9 + 4 ≤ 709356; omega, by show ss9 + 24 ≤ 6973399; omega⟩ (fun E ce q9 H1 locs1 hx9 hk9 hS9 hc9 hv9 hf9 => by
            rcases sx_give hR0 hI0 hx9 hcm with ⟨-, z, -⟩ | ⟨-, z, -⟩ <;> exact absurd (h27p.symm.trans z) (by decide)) (fun v H1 locs1 hv hk hS => ?_)
          obtain ⟨e27, rfl, ad', σ', qs', nT', nW', f', D', ea', hP2, hR2, hI2⟩ := st_give hR0 hI0 hv hcm
          have hC : CST G (AxL s.heap.size al) (ad 0 0) (mGive τ h (nI (1 + y / 9 % 5000)) ((nI (1 + y / 9 % 5000)) / 4)) nT' nW' (N + 1) H1 := ⟨ad', σ', qs', f', D', ea', hP2, hR2, hI2⟩
          have hP := hP.keptL hk (fun q hq h => h.2 hq)
          refine lv_iload hx hb dL_law_2345 (lv_at hl 2 rfl) ?_
          refine lv_iload hx hb dL_law_2347 (lv_at hl 0 rfl) ?_
          refine lv_iadd hx hb dL_law_2349 ?_
          refine lv_icmp_ne (tgt := 2357) hx hb dL_law_2350 (by decide) (fun c_2350_6 => ?_) (fun c_2350_6 => ?_)
          · exact absurd rfl c_2350_6
          · refine lv_iconst (v := 1) hx hb dL_law_2353 (by decide) ?_
            refine lv_goto (tgt := 2358) hx hb dL_law_2354 (by decide) ?_
            refine lv_istore (lv' := [(16, .int 1), (28, .int ((nI (1 + y / 9 % 5000)) / 4)), (27, .int (nI k)), (26, .int (nI (1 + y / 9 % 5000))), (18, .int z9), (19, .int kd), (20, .int (nI y)), (21, .int (nI i)), (22, .int (nI r)), (23, .int (nI h)), (24, .int (nI k)), (25, .int (nI u)), (17, .int tn), (0, .ref b), (1, .ref (ad 0 0)), (2, .ref (al 0)), (3, .ref (al 1)), (4, .ref (al 2)), (5, .ref (al 3)), (6, .ref (al 4)), (7, .ref (al 5)), (8, .ref (al 6)), (9, .ref (al 7)), (10, .ref (al 8)), (11, .ref (al 9)), (12, .ref (al 10)), (13, .ref (al 11)), (14, .ref (al 12)), (15, .ref (al 13))]) hx hb dL_law_2358 hl (by decide) rfl (fun ls hl => ?_)
            refine lv_goto (tgt := 2555) hx hb dL_law_2360 (by decide) ?_
            have hRf : LR (up (up (up μ 13 h ((μ 13 h) + ((nI (1 + y / 9 % 5000)) + ((nI (1 + y / 9 % 5000)) / 4)))) 13 4 (((up μ 13 h ((μ 13 h) + ((nI (1 + y / 9 % 5000)) + ((nI (1 + y / 9 % 5000)) / 4)))) 13 4) - ((nI (1 + y / 9 % 5000)) / 4))) 0 5 ((τ 25 0) + (nI (1 + y / 9 % 5000)))) (mGive τ h (nI (1 + y / 9 % 5000)) ((nI (1 + y / 9 % 5000)) / 4)) nT nW := hR.give hh4
            exact kk _ _ _ _ _ (show cc9 + 4 ≤ cc9 + 10 by omega) (show ss9 + 24 ≤ ss9 + 300 by omega) hS (LINV.of hC hP hRf) (lv_sub hl [0, 12, 6, 13, 14, 15, 16, 17, 18, 19, 20, 21, 22, 23, 24, 25, 26, 27, 28] rfl)
    · refine lv_iconst (v := (-1)) hx hb dL_law_2271 (by decide) ?_
      refine lv_goto (tgt := 2277) hx hb dL_law_2272 (by decide) ?_
      refine lv_istore (lv' := [(27, .int (-1)), (26, .int (nI (1 + y / 9 % 5000))), (18, .int z9), (19, .int kd), (20, .int (nI y)), (21, .int (nI i)), (22, .int (nI r)), (23, .int (nI h)), (24, .int (nI k)), (25, .int (nI u)), (16, .int 1), (17, .int tn), (0, .ref b), (1, .ref a0), (2, .ref (al 0)), (3, .ref (al 1)), (4, .ref (al 2)), (5, .ref (al 3)), (6, .ref (al 4)), (7, .ref (al 5)), (8, .ref (al 6)), (9, .ref (al 7)), (10, .ref (al 8)), (11, .ref (al 9)), (12, .ref (al 10)), (13, .ref (al 11)), (14, .ref (al 12)), (15, .ref (al 13))]) hx hb dL_law_2277 hl (by decide) rfl (fun ls hl => ?_)
      refine lv_iload hx hb dL_law_2279 (lv_at hl 0 rfl) ?_
      refine lv_if_lt (tgt := 2302) hx hb dL_law_2281 (by decide) (fun c_2281_7 => ?_) (fun c_2281_7 => ?_)
      · refine lv_iconst (v := 0) hx hb dL_law_2302 (by decide) ?_
        refine lv_istore (lv' := [(28, .int 0), (27, .int (-1)), (26, .int (nI (1 + y / 9 % 5000))), (18, .int z9), (19, .int kd), (20, .int (nI y)), (21, .int (nI i)), (22, .int (nI r)), (23, .int (nI h)), (24, .int (nI k)), (25, .int (nI u)), (16, .int 1), (17, .int tn), (0, .ref b), (1, .ref a0), (2, .ref (al 0)), (3, .ref (al 1)), (4, .ref (al 2)), (5, .ref (al 3)), (6, .ref (al 4)), (7, .ref (al 5)), (8, .ref (al 6)), (9, .ref (al 7)), (10, .ref (al 8)), (11, .ref (al 9)), (12, .ref (al 10)), (13, .ref (al 11)), (14, .ref (al 12)), (15, .ref (al 13))]) hx hb dL_law_2303 hl (by decide) rfl (fun ls hl => ?_)
        refine lv_aload hx hb dL_law_2305 (lv_at hl 28 rfl) ?_
        refine lv_iload hx hb dL_law_2307 (lv_at hl 8 rfl) ?_
        refine lv_dup2_11 hx hb dL_law_2309 rfl rfl ?_
        refine xiald hx hb hE.1.1 (hP.arr 13 (by decide)) 0 rfl (k := h) rfl (show _ < 5 by omega) (by decide) dL_law_2310 ?_
        refine lv_iload hx hb dL_law_2311 (lv_at hl 2 rfl) ?_
        refine lv_iload hx hb dL_law_2313 (lv_at hl 0 rfl) ?_
        refine lv_iadd hx hb dL_law_2315 ?_
        refine lv_iadd hx hb dL_law_2316 ?_
        refine xiast hx hb hE.1.1 hS (hP.arr 13 (by decide)) (hP.oarr 13 (by decide)) 0 rfl (k := h) rfl (show _ < 5 by omega) (by decide) dL_law_2317 (fun H1 locs1 he1 z1 oq1 hS => ?_)
        have hP := hP.put 13 h (by decide) he1 oq1
        have hC := hC.offL (f := 13) (by decide) z1 oq1
        refine lv_aload hx hb dL_law_2318 (lv_at hl 28 rfl) ?_
        refine lv_iconst (v := 4) hx hb dL_law_2320 (by decide) ?_
        refine lv_dup2_11 hx hb dL_law_2321 rfl rfl ?_
        refine xiald hx hb hE.1.1 (hP.arr 13 (by decide)) 0 rfl (k := 4) rfl (show _ < 5 by omega) (by decide) dL_law_2322 ?_
        refine lv_iload hx hb dL_law_2323 (lv_at hl 0 rfl) ?_
        refine lv_isub hx hb dL_law_2325 ?_
        refine xiast hx hb hE.1.1 hS (hP.arr 13 (by decide)) (hP.oarr 13 (by decide)) 0 rfl (k := 4) rfl (show _ < 5 by omega) (by decide) dL_law_2326 (fun H1 locs1 he1 z1 oq1 hS => ?_)
        have hP := hP.put 13 4 (by decide) he1 oq1
        have hC := hC.offL (f := 13) (by decide) z1 oq1
        refine lv_aload_n hx hb dL_law_2327 rfl (lv_at hl 15 rfl) ?_
        refine lv_iconst (v := 5) hx hb dL_law_2328 (by decide) ?_
        refine lv_dup2_11 hx hb dL_law_2329 rfl rfl ?_
        refine xiald hx hb hE.1.1 (hP.arr 0 (by decide)) 0 rfl (k := 5) rfl (show _ < 7 by omega) (by decide) dL_law_2330 ?_
        rw [show (up (up μ 13 h ((μ 13 h) + ((nI (1 + y / 9 % 5000)) + 0))) 13 4 (((up μ 13 h ((μ 13 h) + ((nI (1 + y / 9 % 5000)) + 0))) 13 4) - 0)) 0 5 = μ 0 5 from by simp [up]]
        refine W.eq (g2 := F0 m 2331 ls [.int (τ 25 0), .int 5, .ref (al 0)]) (congrArg (fun z => F0 m 2331 ls [.int z, .int 5, .ref (al 0)]) (lr_n5 hR)) ?_
        refine lv_iload hx hb dL_law_2331 (lv_at hl 2 rfl) ?_
        refine lv_iadd hx hb dL_law_2333 ?_
        refine xiast hx hb hE.1.1 hS (hP.arr 0 (by decide)) (hP.oarr 0 (by decide)) 0 rfl (k := 5) rfl (show _ < 7 by omega) (by decide) dL_law_2334 (fun H1 locs1 he1 z1 oq1 hS => ?_)
        have hP := hP.put 0 5 (by decide) he1 oq1
        have hC := hC.offL (f := 0) (by decide) z1 oq1
        refine lv_aload_n hx hb dL_law_2335 rfl (lv_at hl 14 rfl) ?_
        refine lv_iload hx hb dL_law_2336 (lv_at hl 8 rfl) ?_
        refine lv_iload hx hb dL_law_2338 (lv_at hl 2 rfl) ?_
        refine lv_iload hx hb dL_law_2340 (lv_at hl 1 rfl) ?_
        have hcm : cm_give τ (nI h) (nI (1 + y / 9 % 5000)) (-1) ((nI (1 + y / 9 % 5000)) + 0) (mGive τ h (nI (1 + y / 9 % 5000)) 0) := by
          unfold cm_give
          rw [ht0]
          exact Or.inr (Or.inr ⟨h, false, hh4, rfl, Or.inl ⟨rfl, rfl⟩, inB_1 (b := 100000) (by omega) (by omega) (by decide), rfl, rfl⟩)
        have h27p : (mGive τ h (nI (1 + y / 9 % 5000)) 0) 27 0 = 0 := by simp [mGive, up]; exact h27
        obtain ⟨ad, σ, qs, f, D, rfl, hPX, hR0, hI0⟩ := hC
        have h80 : nT ≤ 80 ∧ nW ≤ 12 ∧ f ≤ nT := ⟨hR0.1.2.2.1, hR0.1.2.2.2.2.2.1, hR0.1.2.1⟩
        refine hcallV (n := 3) C hE (kP_give l G (AxL s.heap.size al) ad σ qs nT nW hl9 (nI h) (nI (1 + y / 9 % 5000)) (-1)) wML_L_155 wIM_X5_give wSE_X5_X5_give wIN_X5 wCO_X5_give (by decide) rfl ⟨Nat.le_of_ble_eq_true rfl, Nat.le_of_ble_eq_true rfl⟩ (orec hE (hPX.main rfl) (show mcl[7]? = some (RX5, TX5, 8) from rfl)) hS (fun q h => h.1) (fun q h => AxL.new hP hS.1 q h) hPX rfl hl.1 (Nat.le_of_ble_eq_true rfl) dL_law_2342 ⟨by show cc9 + 4 ≤ 709356; omega, by show ss9 + 24 ≤ 6973399; omega⟩ (fun E ce q9 H1 locs1 hx9 hk9 hS9 hc9 hv9 hf9 => by
          rcases sx_give hR0 hI0 hx9 hcm with ⟨-, z, -⟩ | ⟨-, z, -⟩ <;> exact absurd (h27p.symm.trans z) (by decide)) (fun v H1 locs1 hv hk hS => ?_)
        obtain ⟨e27, rfl, ad', σ', qs', nT', nW', f', D', ea', hP2, hR2, hI2⟩ := st_give hR0 hI0 hv hcm
        have hC : CST G (AxL s.heap.size al) (ad 0 0) (mGive τ h (nI (1 + y / 9 % 5000)) 0) nT' nW' (N + 1) H1 := ⟨ad', σ', qs', f', D', ea', hP2, hR2, hI2⟩
        have hP := hP.keptL hk (fun q hq h => h.2 hq)
        refine lv_iload hx hb dL_law_2345 (lv_at hl 2 rfl) ?_
        refine lv_iload hx hb dL_law_2347 (lv_at hl 0 rfl) ?_
        refine lv_iadd hx hb dL_law_2349 ?_
        refine lv_icmp_ne (tgt := 2357) hx hb dL_law_2350 (by decide) (fun c_2350_8 => ?_) (fun c_2350_8 => ?_)
        · exact absurd rfl c_2350_8
        · refine lv_iconst (v := 1) hx hb dL_law_2353 (by decide) ?_
          refine lv_goto (tgt := 2358) hx hb dL_law_2354 (by decide) ?_
          refine lv_istore (lv' := [(16, .int 1), (28, .int 0), (27, .int (-1)), (26, .int (nI (1 + y / 9 % 5000))), (18, .int z9), (19, .int kd), (20, .int (nI y)), (21, .int (nI i)), (22, .int (nI r)), (23, .int (nI h)), (24, .int (nI k)), (25, .int (nI u)), (17, .int tn), (0, .ref b), (1, .ref (ad 0 0)), (2, .ref (al 0)), (3, .ref (al 1)), (4, .ref (al 2)), (5, .ref (al 3)), (6, .ref (al 4)), (7, .ref (al 5)), (8, .ref (al 6)), (9, .ref (al 7)), (10, .ref (al 8)), (11, .ref (al 9)), (12, .ref (al 10)), (13, .ref (al 11)), (14, .ref (al 12)), (15, .ref (al 13))]) hx hb dL_law_2358 hl (by decide) rfl (fun ls hl => ?_)
          refine lv_goto (tgt := 2555) hx hb dL_law_2360 (by decide) ?_
          have hRf : LR (up (up (up μ 13 h ((μ 13 h) + ((nI (1 + y / 9 % 5000)) + 0))) 13 4 (((up μ 13 h ((μ 13 h) + ((nI (1 + y / 9 % 5000)) + 0))) 13 4) - 0)) 0 5 ((τ 25 0) + (nI (1 + y / 9 % 5000)))) (mGive τ h (nI (1 + y / 9 % 5000)) 0) nT nW := hR.give hh4
          exact kk _ _ _ _ _ (show cc9 + 4 ≤ cc9 + 10 by omega) (show ss9 + 24 ≤ ss9 + 300 by omega) hS (LINV.of hC hP hRf) (lv_sub hl [0, 12, 6, 13, 14, 15, 16, 17, 18, 19, 20, 21, 22, 23, 24, 25, 26, 27, 28] rfl)
      · exact absurd c_2281_7 (by decide)
set_option maxHeartbeats 4000000 in
set_option maxRecDepth 100000 in
theorem LC_sell (l : Launch) (hl9 : l.stackTraces = false) {p : Program} {e : Env} {s : State} {m : MethodId} {below : List Frame} {meth : Method} {c : Code} {b : Nat} {G : GE} {a0 : Nat} {al : Nat → Nat} (C : CallFix p m c cL_law 30 s #[Value.ref b] gTb RL) (hE : EN (fun q => s.heap.size ≤ q) G s s.heap) (hN : NCX s) {N cc9 ss9 : Nat} {Qw : State → Prop} {H : Heap} {locs : List Loc} {ls : Array Slot} (hcc : cc9 ≤ 700000) (hss : ss9 ≤ 6900000) (hN9 : N ≤ 200) {τ μ : SG} {nT nW : Nat} (hS : va_S (fun q => s.heap.size ≤ q) s.heap H locs) (hC : CST G (AxL s.heap.size al) a0 τ nT nW N H) (hP : PL G (fun q => s.heap.size ≤ q) al μ 14 H) (hR : LR μ τ nT nW) (ht0 : thr τ 0 = τ) {z9 kd tn : Int32} {y i r h k u : Nat} (hy : y < 67108864) (hiT : nT ≠ 0 → i < nT) (hi0 : nT = 0 → i = 0) (hr9 : r < 12) (hh4 : h < 4) (hk6 : k < 6) (hu0 : nW ≠ 0 → u < nW) (hl : lv_has ls 30 [(18, .int z9), (19, .int kd), (20, .int (nI y)), (21, .int (nI i)), (22, .int (nI r)), (23, .int (nI h)), (24, .int (nI k)), (25, .int (nI u)), (16, .int 1), (17, .int tn), (0, .ref b), (1, .ref a0), (2, .ref (al 0)), (3, .ref (al 1)), (4, .ref (al 2)), (5, .ref (al 3)), (6, .ref (al 4)), (7, .ref (al 5)), (8, .ref (al 6)), (9, .ref (al 7)), (10, .ref (al 8)), (11, .ref (al 9)), (12, .ref (al 10)), (13, .ref (al 11)), (14, .ref (al 12)), (15, .ref (al 13))])
    (kk : ∀ (H1 : Heap) (locs1 : List Loc) (ls1 : Array Slot) (cc1 ss1 : Nat), cc1 ≤ cc9 + 10 → ss1 ≤ ss9 + 300 → va_S (fun q => s.heap.size ≤ q) s.heap H1 locs1 → LINV G s.heap.size a0 al (N + 1) H1 → lv_has ls1 30 [(16, .int 1), (17, .int tn), (20, .int (nI y)), (0, .ref b), (1, .ref a0), (2, .ref (al 0)), (3, .ref (al 1)), (4, .ref (al 2)), (5, .ref (al 3)), (6, .ref (al 4)), (7, .ref (al 5)), (8, .ref (al 6)), (9, .ref (al 7)), (10, .ref (al 8)), (11, .ref (al 9)), (12, .ref (al 10)), (13, .ref (al 11)), (14, .ref (al 12)), (15, .ref (al 13))] → W p l e room_1 s m #[Value.ref b] below meth c H1 locs1 cc1 ss1 Qw (F0 m 2555 ls1 [])) : W p l e room_1 s m #[Value.ref b] below meth c H locs cc9 ss9 Qw (F0 m 2126 ls []) := by
  have hx := C.1
  have hb := C.2.1
  have hown := C.2.2.2.1
  have hts := C.2.2.2.2
  obtain ⟨h60, h10⟩ := lr_n60 hR
  have h27 : τ 27 0 = 0 := by rw [← ht0]; exact thr_27
  have hi60 : i < 60 := by
    rcases Nat.eq_zero_or_pos nT with z | z
    · rw [hi0 z]; omega
    · have := hiT (by omega); omega
  have hMB : ∀ q, McL al q → s.heap.size ≤ q := by
    rintro q ⟨f, hf, rfl⟩
    exact hP.oarr f hf
  have hZ := hC.Z
  obtain ⟨D9, hD9, eD9⟩ := hC.D
  obtain ⟨K9, hK9, eK9⟩ := hC.K
  have hm5 : y / 9 % 5000 < 5000 := Nat.mod_lt _ (by decide)
  refine lv_iload hx hb dL_law_2126 (lv_at hl 1 rfl) ?_
  refine lv_bipush (v := 28) hx hb dL_law_2128 (by decide) ?_
  refine lv_icmp_ne (tgt := 2244) hx hb dL_law_2130 (by decide) (fun c_2130_1 => ?_) (fun c_2130_1 => ?_)
  · exact LC_give l hl9 C hE hN hcc hss hN9 hS hC hP hR ht0 hy hiT hi0 hr9 hh4 hk6 hu0 (lv_sub hl [0, 1, 2, 3, 4, 5, 6, 7, 8, 9, 10, 11, 12, 13, 14, 15, 16, 17, 18, 19, 20, 21, 22, 23, 24, 25] rfl) kk
  · refine lv_aload_n hx hb dL_law_2133 rfl (lv_at hl 12 rfl) ?_
    refine lv_iconst (v := 1) hx hb dL_law_2134 (by decide) ?_
    refine xiald hx hb hE.1.1 (hP.arr 0 (by decide)) 0 rfl (k := 1) rfl (show _ < 7 by omega) (by decide) dL_law_2135 ?_
    refine W.eq (g2 := F0 m 2136 ls [.int (nI nW)]) (congrArg (fun z => F0 m 2136 ls [.int z]) (lr_n1 hR)) ?_
    refine lv_if_le (tgt := 2244) hx hb dL_law_2136 (by decide) (fun c_2136_2 => ?_) (fun c_2136_2 => ?_)
    · exact LC_give l hl9 C hE hN hcc hss hN9 hS hC hP hR ht0 hy hiT hi0 hr9 hh4 hk6 hu0 (lv_sub hl [0, 1, 2, 3, 4, 5, 6, 7, 8, 9, 10, 11, 12, 13, 14, 15, 16, 17, 18, 19, 20, 21, 22, 23, 24, 25] rfl) kk
    · have hu := hu0 (nI_gt0 c_2136_2)
      obtain ⟨ho9, b9, le9, fe9, hho, hb9, hle, hfe, ea9, e17, e18, e19, e20⟩ := lr_a hR hu
      refine lv_iconst (v := 1) hx hb dL_law_2139 (by decide) ?_
      refine lv_iload hx hb dL_law_2140 (lv_at hl 2 rfl) ?_
      refine lv_bipush (v := 9) hx hb dL_law_2142 (by decide) ?_
      refine lv_idiv hx hb dL_law_2144 (by decide) ?_
      refine lv_sipush (v := 5000) hx hb dL_law_2145 (by decide) ?_
      refine lv_irem hx hb dL_law_2148 (by decide) ?_
      refine W.eq (g2 := F0 m 2149 ls [.int (nI (y / 9 % 5000)), .int 1]) (congrArg (fun z => F0 m 2149 ls [.int z, .int 1]) (yq hy (a := 9) (b := 5000) (by decide) (by decide) (by decide) (by decide))) ?_
      refine lv_iadd hx hb dL_law_2149 ?_
      refine W.eq (g2 := F0 m 2150 ls [.int (nI (1 + y / 9 % 5000))]) (congrArg (fun z => F0 m 2150 ls [.int z]) (nI_addN 1 _)) ?_
      refine lv_istore (lv' := [(26, .int (nI (1 + y / 9 % 5000))), (18, .int z9), (19, .int kd), (20, .int (nI y)), (21, .int (nI i)), (22, .int (nI r)), (23, .int (nI h)), (24, .int (nI k)), (25, .int (nI u)), (16, .int 1), (17, .int tn), (0, .ref b), (1, .ref a0), (2, .ref (al 0)), (3, .ref (al 1)), (4, .ref (al 2)), (5, .ref (al 3)), (6, .ref (al 4)), (7, .ref (al 5)), (8, .ref (al 6)), (9, .ref (al 7)), (10, .ref (al 8)), (11, .ref (al 9)), (12, .ref (al 10)), (13, .ref (al 11)), (14, .ref (al 12)), (15, .ref (al 13))]) hx hb dL_law_2150 hl (by decide) rfl (fun ls hl => ?_)
      refine lv_aload hx hb dL_law_2152 (lv_at hl 22 rfl) ?_
      refine lv_iload hx hb dL_law_2154 (lv_at hl 8 rfl) ?_
      refine xiald hx hb hE.1.1 (hP.arr 9 (by decide)) 0 rfl (k := u) rfl (show _ < 10 by omega) (by decide) dL_law_2156 ?_
      refine lv_iconst (v := 4) hx hb dL_law_2157 (by decide) ?_
      refine lv_irem hx hb dL_law_2158 (by decide) ?_
      refine W.eq (g2 := F0 m 2159 ls [.int (nI ho9)]) (congrArg (fun z => F0 m 2159 ls [.int z]) ((lr_aho hR hu).trans e17)) ?_
      refine lv_istore (lv' := [(27, .int (nI ho9)), (26, .int (nI (1 + y / 9 % 5000))), (18, .int z9), (19, .int kd), (20, .int (nI y)), (21, .int (nI i)), (22, .int (nI r)), (23, .int (nI h)), (24, .int (nI k)), (25, .int (nI u)), (16, .int 1), (17, .int tn), (0, .ref b), (1, .ref a0), (2, .ref (al 0)), (3, .ref (al 1)), (4, .ref (al 2)), (5, .ref (al 3)), (6, .ref (al 4)), (7, .ref (al 5)), (8, .ref (al 6)), (9, .ref (al 7)), (10, .ref (al 8)), (11, .ref (al 9)), (12, .ref (al 10)), (13, .ref (al 11)), (14, .ref (al 12)), (15, .ref (al 13))]) hx hb dL_law_2159 hl (by decide) rfl (fun ls hl => ?_)
      refine lv_iload hx hb dL_law_2161 (lv_at hl 0 rfl) ?_
      refine lv_iload hx hb dL_law_2163 (lv_at hl 7 rfl) ?_
      refine lv_icmp_ne (tgt := 2172) hx hb dL_law_2165 (by decide) (fun c_2165_3 => ?_) (fun c_2165_3 => ?_)
      · refine lv_iload hx hb dL_law_2172 (lv_at hl 1 rfl) ?_
        refine lv_aload hx hb dL_law_2174 (lv_at hl 25 rfl) ?_
        refine lv_iload hx hb dL_law_2176 (lv_at hl 9 rfl) ?_
        refine xiald hx hb hE.1.1 (hP.arr 11 (by decide)) 0 rfl (k := u) rfl (show _ < 10 by omega) (by decide) dL_law_2178 ?_
        refine W.eq (g2 := F0 m 2179 ls [.int (τ 22 u), .int (nI (1 + y / 9 % 5000))]) (congrArg (fun z => F0 m 2179 ls [.int z, .int (nI (1 + y / 9 % 5000))]) ((lr_b hR u).2.1)) ?_
        refine lv_imul hx hb dL_law_2179 ?_
        refine lv_bipush (v := 100) hx hb dL_law_2180 (by decide) ?_
        refine lv_idiv hx hb dL_law_2182 (by decide) ?_
        refine lv_istore (lv' := [(28, .int (((nI (1 + y / 9 % 5000)) * (τ 22 u)) / 100)), (27, .int (nI ho9)), (26, .int (nI (1 + y / 9 % 5000))), (18, .int z9), (19, .int kd), (20, .int (nI y)), (21, .int (nI i)), (22, .int (nI r)), (23, .int (nI h)), (24, .int (nI k)), (25, .int (nI u)), (16, .int 1), (17, .int tn), (0, .ref b), (1, .ref a0), (2, .ref (al 0)), (3, .ref (al 1)), (4, .ref (al 2)), (5, .ref (al 3)), (6, .ref (al 4)), (7, .ref (al 5)), (8, .ref (al 6)), (9, .ref (al 7)), (10, .ref (al 8)), (11, .ref (al 9)), (12, .ref (al 10)), (13, .ref (al 11)), (14, .ref (al 12)), (15, .ref (al 13))]) hx hb dL_law_2183 hl (by decide) rfl (fun ls hl => ?_)
        refine lv_aload hx hb dL_law_2185 (lv_at hl 28 rfl) ?_
        refine lv_iload hx hb dL_law_2187 (lv_at hl 1 rfl) ?_
        refine lv_dup2_11 hx hb dL_law_2189 rfl rfl ?_
        refine xiald hx hb hE.1.1 (hP.arr 13 (by decide)) 0 rfl (k := ho9) rfl (show _ < 5 by omega) (by decide) dL_law_2190 ?_
        refine lv_iload hx hb dL_law_2191 (lv_at hl 0 rfl) ?_
        refine lv_iadd hx hb dL_law_2193 ?_
        refine xiast hx hb hE.1.1 hS (hP.arr 13 (by decide)) (hP.oarr 13 (by decide)) 0 rfl (k := ho9) rfl (show _ < 5 by omega) (by decide) dL_law_2194 (fun H1 locs1 he1 z1 oq1 hS => ?_)
        have hP := hP.put 13 ho9 (by decide) he1 oq1
        have hC := hC.offL (f := 13) (by decide) z1 oq1
        refine lv_aload hx hb dL_law_2195 (lv_at hl 28 rfl) ?_
        refine lv_iload hx hb dL_law_2197 (lv_at hl 8 rfl) ?_
        refine lv_dup2_11 hx hb dL_law_2199 rfl rfl ?_
        refine xiald hx hb hE.1.1 (hP.arr 13 (by decide)) 0 rfl (k := h) rfl (show _ < 5 by omega) (by decide) dL_law_2200 ?_
        refine lv_iload hx hb dL_law_2201 (lv_at hl 2 rfl) ?_
        refine lv_iload hx hb dL_law_2203 (lv_at hl 0 rfl) ?_
        refine lv_isub hx hb dL_law_2205 ?_
        refine lv_iadd hx hb dL_law_2206 ?_
        refine xiast hx hb hE.1.1 hS (hP.arr 13 (by decide)) (hP.oarr 13 (by decide)) 0 rfl (k := h) rfl (show _ < 5 by omega) (by decide) dL_law_2207 (fun H1 locs1 he1 z1 oq1 hS => ?_)
        have hP := hP.put 13 h (by decide) he1 oq1
        have hC := hC.offL (f := 13) (by decide) z1 oq1
        refine lv_aload_n hx hb dL_law_2208 rfl (lv_at hl 15 rfl) ?_
        refine lv_iconst (v := 5) hx hb dL_law_2209 (by decide) ?_
        refine lv_dup2_11 hx hb dL_law_2210 rfl rfl ?_
        refine xiald hx hb hE.1.1 (hP.arr 0 (by decide)) 0 rfl (k := 5) rfl (show _ < 7 by omega) (by decide) dL_law_2211 ?_
        rw [show (up (up μ 13 ho9 ((μ 13 ho9) + (((nI (1 + y / 9 % 5000)) * (τ 22 u)) / 100))) 13 h (((up μ 13 ho9 ((μ 13 ho9) + (((nI (1 + y / 9 % 5000)) * (τ 22 u)) / 100))) 13 h) + ((nI (1 + y / 9 % 5000)) - (((nI (1 + y / 9 % 5000)) * (τ 22 u)) / 100)))) 0 5 = μ 0 5 from by simp [up]]
        refine W.eq (g2 := F0 m 2212 ls [.int (τ 25 0), .int 5, .ref (al 0)]) (congrArg (fun z => F0 m 2212 ls [.int z, .int 5, .ref (al 0)]) (lr_n5 hR)) ?_
        refine lv_iload hx hb dL_law_2212 (lv_at hl 2 rfl) ?_
        refine lv_iadd hx hb dL_law_2214 ?_
        refine xiast hx hb hE.1.1 hS (hP.arr 0 (by decide)) (hP.oarr 0 (by decide)) 0 rfl (k := 5) rfl (show _ < 7 by omega) (by decide) dL_law_2215 (fun H1 locs1 he1 z1 oq1 hS => ?_)
        have hP := hP.put 0 5 (by decide) he1 oq1
        have hC := hC.offL (f := 0) (by decide) z1 oq1
        refine lv_aload_n hx hb dL_law_2216 rfl (lv_at hl 14 rfl) ?_
        refine lv_iload hx hb dL_law_2217 (lv_at hl 8 rfl) ?_
        refine lv_iload hx hb dL_law_2219 (lv_at hl 10 rfl) ?_
        refine lv_iload hx hb dL_law_2221 (lv_at hl 2 rfl) ?_
        have hcm : cm_sell τ nW (nI h) (nI u) (nI (1 + y / 9 % 5000)) ((nI (1 + y / 9 % 5000)) - (((nI (1 + y / 9 % 5000)) * (τ 22 u)) / 100)) (mSell τ h ho9 (nI (1 + y / 9 % 5000)) (((nI (1 + y / 9 % 5000)) * (τ 22 u)) / 100)) := by
          have hOw : ((nI (1 + y / 9 % 5000)) * (τ 22 u)) / 100 = mOwn τ u (nI h) (nI (1 + y / 9 % 5000)) := by unfold mOwn; rw [e17]; exact (if_neg c_2165_3).symm
          unfold cm_sell
          rw [ht0]
          exact Or.inr (Or.inr ⟨h, u, ho9, hh4, rfl, hu, rfl, inB_1 (b := 100000) (by omega) (by omega) (by decide), hho, e17, by rw [← hOw], by rw [← hOw]⟩)
        have h27p : (mSell τ h ho9 (nI (1 + y / 9 % 5000)) (((nI (1 + y / 9 % 5000)) * (τ 22 u)) / 100)) 27 0 = 0 := by simp [mSell, up]; exact h27
        obtain ⟨ad, σ, qs, f, D, rfl, hPX, hR0, hI0⟩ := hC
        have h80 : nT ≤ 80 ∧ nW ≤ 12 ∧ f ≤ nT := ⟨hR0.1.2.2.1, hR0.1.2.2.2.2.2.1, hR0.1.2.1⟩
        refine hcallV (n := 3) C hE (kP_sell l G (AxL s.heap.size al) ad σ qs nT nW hl9 (nI h) (nI u) (nI (1 + y / 9 % 5000)) h80.2.1 (L_wf hR0)) wML_L_152 wIM_X5_sell wSE_X5_X5_sell wIN_X5 wCO_X5_sell (by decide) rfl ⟨Nat.le_of_ble_eq_true rfl, Nat.le_of_ble_eq_true rfl⟩ (orec hE (hPX.main rfl) (show mcl[7]? = some (RX5, TX5, 8) from rfl)) hS (fun q h => h.1) (fun q h => AxL.new hP hS.1 q h) hPX rfl hl.1 (Nat.le_of_ble_eq_true rfl) dL_law_2223 ⟨by show cc9 + 4 ≤ 709356; omega, by show ss9 + 24 ≤ 6973399; omega⟩ (fun E ce q9 H1 locs1 hx9 hk9 hS9 hc9 hv9 hf9 => by
          rcases sx_sell hR0 hI0 hx9 hcm with ⟨-, z, -⟩ | ⟨-, z, -⟩ <;> exact absurd (h27p.symm.trans z) (by decide)) (fun v H1 locs1 hv hk hS => ?_)
        obtain ⟨e27, rfl, ad', σ', qs', nT', nW', f', D', ea', hP2, hR2, hI2⟩ := st_sell hR0 hI0 hv hcm
        have hC : CST G (AxL s.heap.size al) (ad 0 0) (mSell τ h ho9 (nI (1 + y / 9 % 5000)) (((nI (1 + y / 9 % 5000)) * (τ 22 u)) / 100)) nT' nW' (N + 1) H1 := ⟨ad', σ', qs', f', D', ea', hP2, hR2, hI2⟩
        have hP := hP.keptL hk (fun q hq h => h.2 hq)
        refine lv_iload hx hb dL_law_2226 (lv_at hl 2 rfl) ?_
        refine lv_iload hx hb dL_law_2228 (lv_at hl 0 rfl) ?_
        refine lv_isub hx hb dL_law_2230 ?_
        refine lv_icmp_ne (tgt := 2238) hx hb dL_law_2231 (by decide) (fun c_2231_4 => ?_) (fun c_2231_4 => ?_)
        · exact absurd rfl c_2231_4
        · refine lv_iconst (v := 1) hx hb dL_law_2234 (by decide) ?_
          refine lv_goto (tgt := 2239) hx hb dL_law_2235 (by decide) ?_
          refine lv_istore (lv' := [(16, .int 1), (28, .int (((nI (1 + y / 9 % 5000)) * (τ 22 u)) / 100)), (27, .int (nI ho9)), (26, .int (nI (1 + y / 9 % 5000))), (18, .int z9), (19, .int kd), (20, .int (nI y)), (21, .int (nI i)), (22, .int (nI r)), (23, .int (nI h)), (24, .int (nI k)), (25, .int (nI u)), (17, .int tn), (0, .ref b), (1, .ref (ad 0 0)), (2, .ref (al 0)), (3, .ref (al 1)), (4, .ref (al 2)), (5, .ref (al 3)), (6, .ref (al 4)), (7, .ref (al 5)), (8, .ref (al 6)), (9, .ref (al 7)), (10, .ref (al 8)), (11, .ref (al 9)), (12, .ref (al 10)), (13, .ref (al 11)), (14, .ref (al 12)), (15, .ref (al 13))]) hx hb dL_law_2239 hl (by decide) rfl (fun ls hl => ?_)
          refine lv_goto (tgt := 2555) hx hb dL_law_2241 (by decide) ?_
          have hRf : LR (up (up (up μ 13 ho9 ((μ 13 ho9) + (((nI (1 + y / 9 % 5000)) * (τ 22 u)) / 100))) 13 h (((up μ 13 ho9 ((μ 13 ho9) + (((nI (1 + y / 9 % 5000)) * (τ 22 u)) / 100))) 13 h) + ((nI (1 + y / 9 % 5000)) - (((nI (1 + y / 9 % 5000)) * (τ 22 u)) / 100)))) 0 5 ((τ 25 0) + (nI (1 + y / 9 % 5000)))) (mSell τ h ho9 (nI (1 + y / 9 % 5000)) (((nI (1 + y / 9 % 5000)) * (τ 22 u)) / 100)) nT nW := hR.sell hho hh4
          exact kk _ _ _ _ _ (show cc9 + 4 ≤ cc9 + 10 by omega) (show ss9 + 24 ≤ ss9 + 300 by omega) hS (LINV.of hC hP hRf) (lv_sub hl [0, 12, 6, 13, 14, 15, 16, 17, 18, 19, 20, 21, 22, 23, 24, 25, 26, 27, 28] rfl)
      · refine lv_iconst (v := 0) hx hb dL_law_2168 (by decide) ?_
        refine lv_goto (tgt := 2183) hx hb dL_law_2169 (by decide) ?_
        refine lv_istore (lv' := [(28, .int 0), (27, .int (nI ho9)), (26, .int (nI (1 + y / 9 % 5000))), (18, .int z9), (19, .int kd), (20, .int (nI y)), (21, .int (nI i)), (22, .int (nI r)), (23, .int (nI h)), (24, .int (nI k)), (25, .int (nI u)), (16, .int 1), (17, .int tn), (0, .ref b), (1, .ref a0), (2, .ref (al 0)), (3, .ref (al 1)), (4, .ref (al 2)), (5, .ref (al 3)), (6, .ref (al 4)), (7, .ref (al 5)), (8, .ref (al 6)), (9, .ref (al 7)), (10, .ref (al 8)), (11, .ref (al 9)), (12, .ref (al 10)), (13, .ref (al 11)), (14, .ref (al 12)), (15, .ref (al 13))]) hx hb dL_law_2183 hl (by decide) rfl (fun ls hl => ?_)
        refine lv_aload hx hb dL_law_2185 (lv_at hl 28 rfl) ?_
        refine lv_iload hx hb dL_law_2187 (lv_at hl 1 rfl) ?_
        refine lv_dup2_11 hx hb dL_law_2189 rfl rfl ?_
        refine xiald hx hb hE.1.1 (hP.arr 13 (by decide)) 0 rfl (k := ho9) rfl (show _ < 5 by omega) (by decide) dL_law_2190 ?_
        refine lv_iload hx hb dL_law_2191 (lv_at hl 0 rfl) ?_
        refine lv_iadd hx hb dL_law_2193 ?_
        refine xiast hx hb hE.1.1 hS (hP.arr 13 (by decide)) (hP.oarr 13 (by decide)) 0 rfl (k := ho9) rfl (show _ < 5 by omega) (by decide) dL_law_2194 (fun H1 locs1 he1 z1 oq1 hS => ?_)
        have hP := hP.put 13 ho9 (by decide) he1 oq1
        have hC := hC.offL (f := 13) (by decide) z1 oq1
        refine lv_aload hx hb dL_law_2195 (lv_at hl 28 rfl) ?_
        refine lv_iload hx hb dL_law_2197 (lv_at hl 8 rfl) ?_
        refine lv_dup2_11 hx hb dL_law_2199 rfl rfl ?_
        refine xiald hx hb hE.1.1 (hP.arr 13 (by decide)) 0 rfl (k := h) rfl (show _ < 5 by omega) (by decide) dL_law_2200 ?_
        refine lv_iload hx hb dL_law_2201 (lv_at hl 2 rfl) ?_
        refine lv_iload hx hb dL_law_2203 (lv_at hl 0 rfl) ?_
        refine lv_isub hx hb dL_law_2205 ?_
        refine lv_iadd hx hb dL_law_2206 ?_
        refine xiast hx hb hE.1.1 hS (hP.arr 13 (by decide)) (hP.oarr 13 (by decide)) 0 rfl (k := h) rfl (show _ < 5 by omega) (by decide) dL_law_2207 (fun H1 locs1 he1 z1 oq1 hS => ?_)
        have hP := hP.put 13 h (by decide) he1 oq1
        have hC := hC.offL (f := 13) (by decide) z1 oq1
        refine lv_aload_n hx hb dL_law_2208 rfl (lv_at hl 15 rfl) ?_
        refine lv_iconst (v := 5) hx hb dL_law_2209 (by decide) ?_
        refine lv_dup2_11 hx hb dL_law_2210 rfl rfl ?_
        refine xiald hx hb hE.1.1 (hP.arr 0 (by decide)) 0 rfl (k := 5) rfl (show _ < 7 by omega) (by decide) dL_law_2211 ?_
        rw [show (up (up μ 13 ho9 ((μ 13 ho9) + 0)) 13 h (((up μ 13 ho9 ((μ 13 ho9) + 0)) 13 h) + ((nI (1 + y / 9 % 5000)) - 0))) 0 5 = μ 0 5 from by simp [up]]
        refine W.eq (g2 := F0 m 2212 ls [.int (τ 25 0), .int 5, .ref (al 0)]) (congrArg (fun z => F0 m 2212 ls [.int z, .int 5, .ref (al 0)]) (lr_n5 hR)) ?_
        refine lv_iload hx hb dL_law_2212 (lv_at hl 2 rfl) ?_
        refine lv_iadd hx hb dL_law_2214 ?_
        refine xiast hx hb hE.1.1 hS (hP.arr 0 (by decide)) (hP.oarr 0 (by decide)) 0 rfl (k := 5) rfl (show _ < 7 by omega) (by decide) dL_law_2215 (fun H1 locs1 he1 z1 oq1 hS => ?_)
        have hP := hP.put 0 5 (by decide) he1 oq1
        have hC := hC.offL (f := 0) (by decide) z1 oq1
        refine lv_aload_n hx hb dL_law_2216 rfl (lv_at hl 14 rfl) ?_
        refine lv_iload hx hb dL_law_2217 (lv_at hl 8 rfl) ?_
        refine lv_iload hx hb dL_law_2219 (lv_at hl 10 rfl) ?_
        refine lv_iload hx hb dL_law_2221 (lv_at hl 2 rfl) ?_
        have hcm : cm_sell τ nW (nI h) (nI u) (nI (1 + y / 9 % 5000)) ((nI (1 + y / 9 % 5000)) - 0) (mSell τ h ho9 (nI (1 + y / 9 % 5000)) 0) := by
          have hOw : 0 = mOwn τ u (nI h) (nI (1 + y / 9 % 5000)) := by unfold mOwn; rw [e17]; exact (if_pos c_2165_3).symm
          unfold cm_sell
          rw [ht0]
          exact Or.inr (Or.inr ⟨h, u, ho9, hh4, rfl, hu, rfl, inB_1 (b := 100000) (by omega) (by omega) (by decide), hho, e17, by rw [← hOw], by rw [← hOw]⟩)
        have h27p : (mSell τ h ho9 (nI (1 + y / 9 % 5000)) 0) 27 0 = 0 := by simp [mSell, up]; exact h27
        obtain ⟨ad, σ, qs, f, D, rfl, hPX, hR0, hI0⟩ := hC
        have h80 : nT ≤ 80 ∧ nW ≤ 12 ∧ f ≤ nT := ⟨hR0.1.2.2.1, hR0.1.2.2.2.2.2.1, hR0.1.2.1⟩
        refine hcallV (n := 3) C hE (kP_sell l G (AxL s.heap.size al) ad σ qs nT nW hl9 (nI h) (nI u) (nI (1 + y / 9 % 5000)) h80.2.1 (L_wf hR0)) wML_L_152 wIM_X5_sell wSE_X5_X5_sell wIN_X5 wCO_X5_sell (by decide) rfl ⟨Nat.le_of_ble_eq_true rfl, Nat.le_of_ble_eq_true rfl⟩ (orec hE (hPX.main rfl) (show mcl[7]? = some (RX5, TX5, 8) from rfl)) hS (fun q h => h.1) (fun q h => AxL.new hP hS.1 q h) hPX rfl hl.1 (Nat.le_of_ble_eq_true rfl) dL_law_2223 ⟨by show cc9 + 4 ≤ 709356; omega, by show ss9 + 24 ≤ 6973399; omega⟩ (fun E ce q9 H1 locs1 hx9 hk9 hS9 hc9 hv9 hf9 => by
          rcases sx_sell hR0 hI0 hx9 hcm with ⟨-, z, -⟩ | ⟨-, z, -⟩ <;> exact absurd (h27p.symm.trans z) (by decide)) (fun v H1 locs1 hv hk hS => ?_)
        obtain ⟨e27, rfl, ad', σ', qs', nT', nW', f', D', ea', hP2, hR2, hI2⟩ := st_sell hR0 hI0 hv hcm
        have hC : CST G (AxL s.heap.size al) (ad 0 0) (mSell τ h ho9 (nI (1 + y / 9 % 5000)) 0) nT' nW' (N + 1) H1 := ⟨ad', σ', qs', f', D', ea', hP2, hR2, hI2⟩
        have hP := hP.keptL hk (fun q hq h => h.2 hq)
        refine lv_iload hx hb dL_law_2226 (lv_at hl 2 rfl) ?_
        refine lv_iload hx hb dL_law_2228 (lv_at hl 0 rfl) ?_
        refine lv_isub hx hb dL_law_2230 ?_
        refine lv_icmp_ne (tgt := 2238) hx hb dL_law_2231 (by decide) (fun c_2231_5 => ?_) (fun c_2231_5 => ?_)
        · exact absurd rfl c_2231_5
        · refine lv_iconst (v := 1) hx hb dL_law_2234 (by decide) ?_
          refine lv_goto (tgt := 2239) hx hb dL_law_2235 (by decide) ?_
          refine lv_istore (lv' := [(16, .int 1), (28, .int 0), (27, .int (nI ho9)), (26, .int (nI (1 + y / 9 % 5000))), (18, .int z9), (19, .int kd), (20, .int (nI y)), (21, .int (nI i)), (22, .int (nI r)), (23, .int (nI h)), (24, .int (nI k)), (25, .int (nI u)), (17, .int tn), (0, .ref b), (1, .ref (ad 0 0)), (2, .ref (al 0)), (3, .ref (al 1)), (4, .ref (al 2)), (5, .ref (al 3)), (6, .ref (al 4)), (7, .ref (al 5)), (8, .ref (al 6)), (9, .ref (al 7)), (10, .ref (al 8)), (11, .ref (al 9)), (12, .ref (al 10)), (13, .ref (al 11)), (14, .ref (al 12)), (15, .ref (al 13))]) hx hb dL_law_2239 hl (by decide) rfl (fun ls hl => ?_)
          refine lv_goto (tgt := 2555) hx hb dL_law_2241 (by decide) ?_
          have hRf : LR (up (up (up μ 13 ho9 ((μ 13 ho9) + 0)) 13 h (((up μ 13 ho9 ((μ 13 ho9) + 0)) 13 h) + ((nI (1 + y / 9 % 5000)) - 0))) 0 5 ((τ 25 0) + (nI (1 + y / 9 % 5000)))) (mSell τ h ho9 (nI (1 + y / 9 % 5000)) 0) nT nW := hR.sell hho hh4
          exact kk _ _ _ _ _ (show cc9 + 4 ≤ cc9 + 10 by omega) (show ss9 + 24 ≤ ss9 + 300 by omega) hS (LINV.of hC hP hRf) (lv_sub hl [0, 12, 6, 13, 14, 15, 16, 17, 18, 19, 20, 21, 22, 23, 24, 25, 26, 27, 28] rfl)
set_option maxHeartbeats 4000000 in
set_option maxRecDepth 100000 in
theorem LC_share (l : Launch) (hl9 : l.stackTraces = false) {p : Program} {e : Env} {s : State} {m : MethodId} {below : List Frame} {meth : Method} {c : Code} {b : Nat} {G : GE} {a0 : Nat} {al : Nat → Nat} (C : CallFix p m c cL_law 30 s #[Value.ref b] gTb RL) (hE : EN (fun q => s.heap.size ≤ q) G s s.heap) (hN : NCX s) {N cc9 ss9 : Nat} {Qw : State → Prop} {H : Heap} {locs : List Loc} {ls : Array Slot} (hcc : cc9 ≤ 700000) (hss : ss9 ≤ 6900000) (hN9 : N ≤ 200) {τ μ : SG} {nT nW : Nat} (hS : va_S (fun q => s.heap.size ≤ q) s.heap H locs) (hC : CST G (AxL s.heap.size al) a0 τ nT nW N H) (hP : PL G (fun q => s.heap.size ≤ q) al μ 14 H) (hR : LR μ τ nT nW) (ht0 : thr τ 0 = τ) {z9 kd tn : Int32} {y i r h k u : Nat} (hy : y < 67108864) (hiT : nT ≠ 0 → i < nT) (hi0 : nT = 0 → i = 0) (hr9 : r < 12) (hh4 : h < 4) (hk6 : k < 6) (hu0 : nW ≠ 0 → u < nW) (hl : lv_has ls 30 [(18, .int z9), (19, .int kd), (20, .int (nI y)), (21, .int (nI i)), (22, .int (nI r)), (23, .int (nI h)), (24, .int (nI k)), (25, .int (nI u)), (16, .int 1), (17, .int tn), (0, .ref b), (1, .ref a0), (2, .ref (al 0)), (3, .ref (al 1)), (4, .ref (al 2)), (5, .ref (al 3)), (6, .ref (al 4)), (7, .ref (al 5)), (8, .ref (al 6)), (9, .ref (al 7)), (10, .ref (al 8)), (11, .ref (al 9)), (12, .ref (al 10)), (13, .ref (al 11)), (14, .ref (al 12)), (15, .ref (al 13))])
    (kk : ∀ (H1 : Heap) (locs1 : List Loc) (ls1 : Array Slot) (cc1 ss1 : Nat), cc1 ≤ cc9 + 10 → ss1 ≤ ss9 + 300 → va_S (fun q => s.heap.size ≤ q) s.heap H1 locs1 → LINV G s.heap.size a0 al (N + 1) H1 → lv_has ls1 30 [(16, .int 1), (17, .int tn), (20, .int (nI y)), (0, .ref b), (1, .ref a0), (2, .ref (al 0)), (3, .ref (al 1)), (4, .ref (al 2)), (5, .ref (al 3)), (6, .ref (al 4)), (7, .ref (al 5)), (8, .ref (al 6)), (9, .ref (al 7)), (10, .ref (al 8)), (11, .ref (al 9)), (12, .ref (al 10)), (13, .ref (al 11)), (14, .ref (al 12)), (15, .ref (al 13))] → W p l e room_1 s m #[Value.ref b] below meth c H1 locs1 cc1 ss1 Qw (F0 m 2555 ls1 [])) : W p l e room_1 s m #[Value.ref b] below meth c H locs cc9 ss9 Qw (F0 m 2070 ls []) := by
  have hx := C.1
  have hb := C.2.1
  have hown := C.2.2.2.1
  have hts := C.2.2.2.2
  obtain ⟨h60, h10⟩ := lr_n60 hR
  have h27 : τ 27 0 = 0 := by rw [← ht0]; exact thr_27
  have hi60 : i < 60 := by
    rcases Nat.eq_zero_or_pos nT with z | z
    · rw [hi0 z]; omega
    · have := hiT (by omega); omega
  have hMB : ∀ q, McL al q → s.heap.size ≤ q := by
    rintro q ⟨f, hf, rfl⟩
    exact hP.oarr f hf
  have hZ := hC.Z
  obtain ⟨D9, hD9, eD9⟩ := hC.D
  obtain ⟨K9, hK9, eK9⟩ := hC.K
  have hm1 : y / 11 % 101 < 101 := Nat.mod_lt _ (by decide)
  refine lv_iload hx hb dL_law_2070 (lv_at hl 1 rfl) ?_
  refine lv_bipush (v := 27) hx hb dL_law_2072 (by decide) ?_
  refine lv_icmp_ne (tgt := 2126) hx hb dL_law_2074 (by decide) (fun c_2074_1 => ?_) (fun c_2074_1 => ?_)
  · exact LC_sell l hl9 C hE hN hcc hss hN9 hS hC hP hR ht0 hy hiT hi0 hr9 hh4 hk6 hu0 (lv_sub hl [0, 1, 2, 3, 4, 5, 6, 7, 8, 9, 10, 11, 12, 13, 14, 15, 16, 17, 18, 19, 20, 21, 22, 23, 24, 25] rfl) kk
  · refine lv_aload_n hx hb dL_law_2077 rfl (lv_at hl 12 rfl) ?_
    refine lv_iconst (v := 1) hx hb dL_law_2078 (by decide) ?_
    refine xiald hx hb hE.1.1 (hP.arr 0 (by decide)) 0 rfl (k := 1) rfl (show _ < 7 by omega) (by decide) dL_law_2079 ?_
    refine W.eq (g2 := F0 m 2080 ls [.int (nI nW)]) (congrArg (fun z => F0 m 2080 ls [.int z]) (lr_n1 hR)) ?_
    refine lv_if_le (tgt := 2126) hx hb dL_law_2080 (by decide) (fun c_2080_2 => ?_) (fun c_2080_2 => ?_)
    · exact LC_sell l hl9 C hE hN hcc hss hN9 hS hC hP hR ht0 hy hiT hi0 hr9 hh4 hk6 hu0 (lv_sub hl [0, 1, 2, 3, 4, 5, 6, 7, 8, 9, 10, 11, 12, 13, 14, 15, 16, 17, 18, 19, 20, 21, 22, 23, 24, 25] rfl) kk
    · have hu := hu0 (nI_gt0 c_2080_2)
      obtain ⟨ho9, b9, le9, fe9, hho, hb9, hle, hfe, ea9, e17, e18, e19, e20⟩ := lr_a hR hu
      refine lv_iload hx hb dL_law_2083 (lv_at hl 2 rfl) ?_
      refine lv_bipush (v := 11) hx hb dL_law_2085 (by decide) ?_
      refine lv_idiv hx hb dL_law_2087 (by decide) ?_
      refine lv_bipush (v := 101) hx hb dL_law_2088 (by decide) ?_
      refine lv_irem hx hb dL_law_2090 (by decide) ?_
      refine W.eq (g2 := F0 m 2091 ls [.int (nI (y / 11 % 101))]) (congrArg (fun z => F0 m 2091 ls [.int z]) (yq hy (a := 11) (b := 101) (by decide) (by decide) (by decide) (by decide))) ?_
      refine lv_istore (lv' := [(26, .int (nI (y / 11 % 101))), (18, .int z9), (19, .int kd), (20, .int (nI y)), (21, .int (nI i)), (22, .int (nI r)), (23, .int (nI h)), (24, .int (nI k)), (25, .int (nI u)), (16, .int 1), (17, .int tn), (0, .ref b), (1, .ref a0), (2, .ref (al 0)), (3, .ref (al 1)), (4, .ref (al 2)), (5, .ref (al 3)), (6, .ref (al 4)), (7, .ref (al 5)), (8, .ref (al 6)), (9, .ref (al 7)), (10, .ref (al 8)), (11, .ref (al 9)), (12, .ref (al 10)), (13, .ref (al 11)), (14, .ref (al 12)), (15, .ref (al 13))]) hx hb dL_law_2091 hl (by decide) rfl (fun ls hl => ?_)
      refine lv_aload_n hx hb dL_law_2093 rfl (lv_at hl 12 rfl) ?_
      refine lv_iload hx hb dL_law_2094 (lv_at hl 8 rfl) ?_
      refine lv_iload hx hb dL_law_2096 (lv_at hl 0 rfl) ?_
      have hcm : cm_setShare τ nW (nI u) (nI (y / 11 % 101)) (τ 22 u) (up τ 22 u (nI (y / 11 % 101))) := by
        unfold cm_setShare
        rw [ht0]
        exact Or.inr (Or.inr ⟨u, hu, rfl, inB_n (b := 100) (by omega) (by decide), rfl, rfl⟩)
      have h27p : (up τ 22 u (nI (y / 11 % 101))) 27 0 = 0 := by simp [up]; exact h27
      obtain ⟨ad, σ, qs, f, D, rfl, hPX, hR0, hI0⟩ := hC
      have h80 : nT ≤ 80 ∧ nW ≤ 12 ∧ f ≤ nT := ⟨hR0.1.2.2.1, hR0.1.2.2.2.2.2.1, hR0.1.2.1⟩
      refine hcallV (n := 2) C hE (kP_setShare l G (AxL s.heap.size al) ad σ qs nT nW hl9 (nI u) (nI (y / 11 % 101)) h80.2.1) wML_L_149 wIM_X5_setShare wSE_X5_X5_setShare wIN_X5 wCO_X5_setShare (by decide) rfl ⟨Nat.le_of_ble_eq_true rfl, Nat.le_of_ble_eq_true rfl⟩ (orec hE (hPX.main rfl) (show mcl[7]? = some (RX5, TX5, 8) from rfl)) hS (fun q h => h.1) (fun q h => AxL.new hP hS.1 q h) hPX rfl hl.1 (Nat.le_of_ble_eq_true rfl) dL_law_2098 ⟨by show cc9 + 2 ≤ 709356; omega, by show ss9 + 12 ≤ 6973399; omega⟩ (fun E ce q9 H1 locs1 hx9 hk9 hS9 hc9 hv9 hf9 => by
        rcases sx_setShare hR0 hI0 hx9 hcm with ⟨-, z, -⟩ | ⟨-, z, -⟩ <;> exact absurd (h27p.symm.trans z) (by decide)) (fun v H1 locs1 hv hk hS => ?_)
      obtain ⟨e27, rfl, ad', σ', qs', nT', nW', f', D', ea', hP2, hR2, hI2⟩ := st_setShare hR0 hI0 hv hcm
      have hC : CST G (AxL s.heap.size al) (ad 0 0) (up τ 22 u (nI (y / 11 % 101))) nT' nW' (N + 1) H1 := ⟨ad', σ', qs', f', D', ea', hP2, hR2, hI2⟩
      have hP := hP.keptL hk (fun q hq h => h.2 hq)
      refine lv_aload hx hb dL_law_2101 (lv_at hl 24 rfl) ?_
      refine lv_iload hx hb dL_law_2103 (lv_at hl 8 rfl) ?_
      refine xiald hx hb hE.1.1 (hP.arr 11 (by decide)) 0 rfl (k := u) rfl (show _ < 10 by omega) (by decide) dL_law_2105 ?_
      refine W.eq (g2 := F0 m 2106 ls [.int (τ 22 u), .int (τ 22 u)]) (congrArg (fun z => F0 m 2106 ls [.int z, .int (τ 22 u)]) ((lr_b hR u).2.1)) ?_
      refine lv_icmp_ne (tgt := 2113) hx hb dL_law_2106 (by decide) (fun c_2106_3 => ?_) (fun c_2106_3 => ?_)
      · exact absurd rfl c_2106_3
      · refine lv_iconst (v := 1) hx hb dL_law_2109 (by decide) ?_
        refine lv_goto (tgt := 2114) hx hb dL_law_2110 (by decide) ?_
        refine lv_istore (lv' := [(16, .int 1), (26, .int (nI (y / 11 % 101))), (18, .int z9), (19, .int kd), (20, .int (nI y)), (21, .int (nI i)), (22, .int (nI r)), (23, .int (nI h)), (24, .int (nI k)), (25, .int (nI u)), (17, .int tn), (0, .ref b), (1, .ref (ad 0 0)), (2, .ref (al 0)), (3, .ref (al 1)), (4, .ref (al 2)), (5, .ref (al 3)), (6, .ref (al 4)), (7, .ref (al 5)), (8, .ref (al 6)), (9, .ref (al 7)), (10, .ref (al 8)), (11, .ref (al 9)), (12, .ref (al 10)), (13, .ref (al 11)), (14, .ref (al 12)), (15, .ref (al 13))]) hx hb dL_law_2114 hl (by decide) rfl (fun ls hl => ?_)
        refine lv_aload hx hb dL_law_2116 (lv_at hl 24 rfl) ?_
        refine lv_iload hx hb dL_law_2118 (lv_at hl 9 rfl) ?_
        refine lv_iload hx hb dL_law_2120 (lv_at hl 1 rfl) ?_
        refine xiast hx hb hE.1.1 hS (hP.arr 11 (by decide)) (hP.oarr 11 (by decide)) 0 rfl (k := u) rfl (show _ < 10 by omega) (by decide) dL_law_2122 (fun H1 locs1 he1 z1 oq1 hS => ?_)
        have hP := hP.put 11 u (by decide) he1 oq1
        have hC := hC.offL (f := 11) (by decide) z1 oq1
        refine lv_goto (tgt := 2555) hx hb dL_law_2123 (by decide) ?_
        have hRf : LR (up μ 11 u (nI (y / 11 % 101))) (up τ 22 u (nI (y / 11 % 101))) nT nW := hR.h11
        exact kk _ _ _ _ _ (show cc9 + 2 ≤ cc9 + 10 by omega) (show ss9 + 12 ≤ ss9 + 300 by omega) hS (LINV.of hC hP hRf) (lv_sub hl [0, 10, 4, 11, 12, 13, 14, 15, 16, 17, 18, 19, 20, 21, 22, 23, 24, 25, 26] rfl)
set_option maxHeartbeats 4000000 in
set_option maxRecDepth 100000 in
theorem LC_bring (l : Launch) (hl9 : l.stackTraces = false) {p : Program} {e : Env} {s : State} {m : MethodId} {below : List Frame} {meth : Method} {c : Code} {b : Nat} {G : GE} {a0 : Nat} {al : Nat → Nat} (C : CallFix p m c cL_law 30 s #[Value.ref b] gTb RL) (hE : EN (fun q => s.heap.size ≤ q) G s s.heap) (hN : NCX s) {N cc9 ss9 : Nat} {Qw : State → Prop} {H : Heap} {locs : List Loc} {ls : Array Slot} (hcc : cc9 ≤ 700000) (hss : ss9 ≤ 6900000) (hN9 : N ≤ 200) {τ μ : SG} {nT nW : Nat} (hS : va_S (fun q => s.heap.size ≤ q) s.heap H locs) (hC : CST G (AxL s.heap.size al) a0 τ nT nW N H) (hP : PL G (fun q => s.heap.size ≤ q) al μ 14 H) (hR : LR μ τ nT nW) (ht0 : thr τ 0 = τ) {z9 kd tn : Int32} {y i r h k u : Nat} (hy : y < 67108864) (hiT : nT ≠ 0 → i < nT) (hi0 : nT = 0 → i = 0) (hr9 : r < 12) (hh4 : h < 4) (hk6 : k < 6) (hu0 : nW ≠ 0 → u < nW) (hl : lv_has ls 30 [(18, .int z9), (19, .int kd), (20, .int (nI y)), (21, .int (nI i)), (22, .int (nI r)), (23, .int (nI h)), (24, .int (nI k)), (25, .int (nI u)), (16, .int 1), (17, .int tn), (0, .ref b), (1, .ref a0), (2, .ref (al 0)), (3, .ref (al 1)), (4, .ref (al 2)), (5, .ref (al 3)), (6, .ref (al 4)), (7, .ref (al 5)), (8, .ref (al 6)), (9, .ref (al 7)), (10, .ref (al 8)), (11, .ref (al 9)), (12, .ref (al 10)), (13, .ref (al 11)), (14, .ref (al 12)), (15, .ref (al 13))])
    (kk : ∀ (H1 : Heap) (locs1 : List Loc) (ls1 : Array Slot) (cc1 ss1 : Nat), cc1 ≤ cc9 + 10 → ss1 ≤ ss9 + 300 → va_S (fun q => s.heap.size ≤ q) s.heap H1 locs1 → LINV G s.heap.size a0 al (N + 1) H1 → lv_has ls1 30 [(16, .int 1), (17, .int tn), (20, .int (nI y)), (0, .ref b), (1, .ref a0), (2, .ref (al 0)), (3, .ref (al 1)), (4, .ref (al 2)), (5, .ref (al 3)), (6, .ref (al 4)), (7, .ref (al 5)), (8, .ref (al 6)), (9, .ref (al 7)), (10, .ref (al 8)), (11, .ref (al 9)), (12, .ref (al 10)), (13, .ref (al 11)), (14, .ref (al 12)), (15, .ref (al 13))] → W p l e room_1 s m #[Value.ref b] below meth c H1 locs1 cc1 ss1 Qw (F0 m 2555 ls1 [])) : W p l e room_1 s m #[Value.ref b] below meth c H locs cc9 ss9 Qw (F0 m 1953 ls []) := by
  have hx := C.1
  have hb := C.2.1
  have hown := C.2.2.2.1
  have hts := C.2.2.2.2
  obtain ⟨h60, h10⟩ := lr_n60 hR
  have h27 : τ 27 0 = 0 := by rw [← ht0]; exact thr_27
  have hi60 : i < 60 := by
    rcases Nat.eq_zero_or_pos nT with z | z
    · rw [hi0 z]; omega
    · have := hiT (by omega); omega
  have hMB : ∀ q, McL al q → s.heap.size ≤ q := by
    rintro q ⟨f, hf, rfl⟩
    exact hP.oarr f hf
  have hZ := hC.Z
  obtain ⟨D9, hD9, eD9⟩ := hC.D
  obtain ⟨K9, hK9, eK9⟩ := hC.K
  refine lv_iload hx hb dL_law_1953 (lv_at hl 1 rfl) ?_
  refine lv_bipush (v := 26) hx hb dL_law_1955 (by decide) ?_
  refine lv_icmp_ne (tgt := 2070) hx hb dL_law_1957 (by decide) (fun c_1957_1 => ?_) (fun c_1957_1 => ?_)
  · exact LC_share l hl9 C hE hN hcc hss hN9 hS hC hP hR ht0 hy hiT hi0 hr9 hh4 hk6 hu0 (lv_sub hl [0, 1, 2, 3, 4, 5, 6, 7, 8, 9, 10, 11, 12, 13, 14, 15, 16, 17, 18, 19, 20, 21, 22, 23, 24, 25] rfl) kk
  · refine lv_aload_n hx hb dL_law_1960 rfl (lv_at hl 12 rfl) ?_
    refine lv_iconst (v := 1) hx hb dL_law_1961 (by decide) ?_
    refine xiald hx hb hE.1.1 (hP.arr 0 (by decide)) 0 rfl (k := 1) rfl (show _ < 7 by omega) (by decide) dL_law_1962 ?_
    refine W.eq (g2 := F0 m 1963 ls [.int (nI nW)]) (congrArg (fun z => F0 m 1963 ls [.int z]) (lr_n1 hR)) ?_
    refine lv_if_le (tgt := 2070) hx hb dL_law_1963 (by decide) (fun c_1963_2 => ?_) (fun c_1963_2 => ?_)
    · exact LC_share l hl9 C hE hN hcc hss hN9 hS hC hP hR ht0 hy hiT hi0 hr9 hh4 hk6 hu0 (lv_sub hl [0, 1, 2, 3, 4, 5, 6, 7, 8, 9, 10, 11, 12, 13, 14, 15, 16, 17, 18, 19, 20, 21, 22, 23, 24, 25] rfl) kk
    · have hu := hu0 (nI_gt0 c_1963_2)
      obtain ⟨ho9, b9, le9, fe9, hho, hb9, hle, hfe, ea9, e17, e18, e19, e20⟩ := lr_a hR hu
      refine lv_aload hx hb dL_law_1966 (lv_at hl 21 rfl) ?_
      refine lv_iload hx hb dL_law_1968 (lv_at hl 7 rfl) ?_
      refine xiald hx hb hE.1.1 (hP.arr 9 (by decide)) 0 rfl (k := u) rfl (show _ < 10 by omega) (by decide) dL_law_1970 ?_
      refine lv_bipush (v := 64) hx hb dL_law_1971 (by decide) ?_
      refine lv_idiv hx hb dL_law_1973 (by decide) ?_
      refine lv_iconst (v := 2) hx hb dL_law_1974 (by decide) ?_
      refine lv_irem hx hb dL_law_1975 (by decide) ?_
      refine W.eq (g2 := F0 m 1976 ls [.int (τ 19 u)]) (congrArg (fun z => F0 m 1976 ls [.int z]) (lr_ale hR hu)) ?_
      refine lv_iconst (v := 1) hx hb dL_law_1976 (by decide) ?_
      refine lv_icmp_ne (tgt := 1998) hx hb dL_law_1977 (by decide) (fun c_1977_3 => ?_) (fun c_1977_3 => ?_)
      · refine lv_iconst (v := 0) hx hb dL_law_1998 (by decide) ?_
        refine lv_istore (lv' := [(26, .int 0), (18, .int z9), (19, .int kd), (20, .int (nI y)), (21, .int (nI i)), (22, .int (nI r)), (23, .int (nI h)), (24, .int (nI k)), (25, .int (nI u)), (16, .int 1), (17, .int tn), (0, .ref b), (1, .ref a0), (2, .ref (al 0)), (3, .ref (al 1)), (4, .ref (al 2)), (5, .ref (al 3)), (6, .ref (al 4)), (7, .ref (al 5)), (8, .ref (al 6)), (9, .ref (al 7)), (10, .ref (al 8)), (11, .ref (al 9)), (12, .ref (al 10)), (13, .ref (al 11)), (14, .ref (al 12)), (15, .ref (al 13))]) hx hb dL_law_1999 hl (by decide) rfl (fun ls hl => ?_)
        refine lv_aload hx hb dL_law_2001 (lv_at hl 22 rfl) ?_
        refine lv_iload hx hb dL_law_2003 (lv_at hl 8 rfl) ?_
        refine lv_iload hx hb dL_law_2005 (lv_at hl 0 rfl) ?_
        refine lv_if_eq (tgt := 2025) hx hb dL_law_2007 (by decide) (fun c_2007_4 => ?_) (fun c_2007_4 => ?_)
        · refine lv_aload hx hb dL_law_2025 (lv_at hl 22 rfl) ?_
          refine lv_iload hx hb dL_law_2027 (lv_at hl 8 rfl) ?_
          refine xiald hx hb hE.1.1 (hP.arr 9 (by decide)) 0 rfl (k := u) rfl (show _ < 10 by omega) (by decide) dL_law_2029 ?_
          refine xiast hx hb hE.1.1 hS (hP.arr 9 (by decide)) (hP.oarr 9 (by decide)) 0 rfl (k := u) rfl (show _ < 10 by omega) (by decide) dL_law_2030 (fun H1 locs1 he1 z1 oq1 hS => ?_)
          have hP := hP.put 9 u (by decide) he1 oq1
          have hC := hC.offL (f := 9) (by decide) z1 oq1
          refine lv_aload_n hx hb dL_law_2031 rfl (lv_at hl 12 rfl) ?_
          refine lv_bipush (v := 8) hx hb dL_law_2032 (by decide) ?_
          refine lv_iload hx hb dL_law_2034 (lv_at hl 8 rfl) ?_
          refine lv_iload hx hb dL_law_2036 (lv_at hl 5 rfl) ?_
          refine lv_iconst (v := 0) hx hb dL_law_2038 (by decide) ?_
          have hcm : cm_bringHome τ nW (nI u) (nI r) 0 (thr τ 2) := by
            unfold cm_bringHome
            rw [ht0]
            exact Or.inr (Or.inl ⟨u, r, hu, rfl, hr9, rfl, fun z => c_1977_3 ((lr_le01 hR hu).mp z.1), rfl⟩)
          refine hcallH (n := 5) C hE hN (hD_bringHome l G (AxL s.heap.size al) hl9 a0 τ (thr τ 2) 0 nT nW N (nI u) (nI r) hcm) wML_L_127 wST_L_does wIN_L wCW_L_does (by decide) rfl ⟨Nat.le_of_ble_eq_true rfl, Nat.le_of_ble_eq_true rfl⟩ hS (fun q h => h.1) (fun q h => AxL.new hP hS.1 q h) hC rfl hl.1 (Nat.le_of_ble_eq_true rfl) dL_law_2039 ⟨by show cc9 + 3 ≤ 709356; omega, by show ss9 + 18 ≤ 6973399; omega⟩ (fun v H1 locs1 hv hk hS => ?_)
          obtain ⟨rfl, nT', nW', hC⟩ := hv
          have hP := hP.keptL hk (fun q hq h => h.2 hq)
          refine W.eq (g2 := F0 m 2042 ls [.int ((-13))]) (congrArg (fun z => F0 m 2042 ls [.int z]) (dres2 thr_27)) ?_
          refine lv_iload hx hb dL_law_2042 (lv_at hl 0 rfl) ?_
          refine lv_if_eq (tgt := 2055) hx hb dL_law_2044 (by decide) (fun c_2044_5 => ?_) (fun c_2044_5 => ?_)
          · refine lv_bipush (v := (-13)) hx hb dL_law_2055 (by decide) ?_
            refine lv_icmp_ne (tgt := 2064) hx hb dL_law_2057 (by decide) (fun c_2057_6 => ?_) (fun c_2057_6 => ?_)
            · exact absurd c_2057_6 (by decide)
            · refine lv_iconst (v := 1) hx hb dL_law_2060 (by decide) ?_
              refine lv_goto (tgt := 2065) hx hb dL_law_2061 (by decide) ?_
              refine lv_istore (lv' := [(16, .int 1), (26, .int 0), (18, .int z9), (19, .int kd), (20, .int (nI y)), (21, .int (nI i)), (22, .int (nI r)), (23, .int (nI h)), (24, .int (nI k)), (25, .int (nI u)), (17, .int tn), (0, .ref b), (1, .ref a0), (2, .ref (al 0)), (3, .ref (al 1)), (4, .ref (al 2)), (5, .ref (al 3)), (6, .ref (al 4)), (7, .ref (al 5)), (8, .ref (al 6)), (9, .ref (al 7)), (10, .ref (al 8)), (11, .ref (al 9)), (12, .ref (al 10)), (13, .ref (al 11)), (14, .ref (al 12)), (15, .ref (al 13))]) hx hb dL_law_2065 hl (by decide) rfl (fun ls hl => ?_)
              refine lv_goto (tgt := 2555) hx hb dL_law_2067 (by decide) ?_
              have hRf : LR (up μ 9 u (μ 9 u)) (thr τ 2) nT nW := by rw [up_id]; exact hR.th
              exact kk _ _ _ _ _ (show cc9 + 3 ≤ cc9 + 10 by omega) (show ss9 + 18 ≤ ss9 + 300 by omega) hS (LINV.of hC hP hRf) (lv_sub hl [0, 10, 4, 11, 12, 13, 14, 15, 16, 17, 18, 19, 20, 21, 22, 23, 24, 25, 26] rfl)
          · exact absurd c_2044_5 (by decide)
        · exact absurd c_2007_4 (by decide)
      · refine lv_iload hx hb dL_law_1980 (lv_at hl 4 rfl) ?_
        refine lv_iconst (v := 3) hx hb dL_law_1982 (by decide) ?_
        refine lv_idiv hx hb dL_law_1983 (by decide) ?_
        refine W.eq (g2 := F0 m 1984 ls [.int (nI (r / 3))]) (congrArg (fun z => F0 m 1984 ls [.int z]) (r3 r hr9)) ?_
        refine lv_aload hx hb dL_law_1984 (lv_at hl 21 rfl) ?_
        refine lv_iload hx hb dL_law_1986 (lv_at hl 7 rfl) ?_
        refine xiald hx hb hE.1.1 (hP.arr 9 (by decide)) 0 rfl (k := u) rfl (show _ < 10 by omega) (by decide) dL_law_1988 ?_
        refine lv_iconst (v := 4) hx hb dL_law_1989 (by decide) ?_
        refine lv_irem hx hb dL_law_1990 (by decide) ?_
        refine W.eq (g2 := F0 m 1991 ls [.int (τ 17 u), .int (nI (r / 3))]) (congrArg (fun z => F0 m 1991 ls [.int z, .int (nI (r / 3))]) (lr_aho hR hu)) ?_
        refine lv_icmp_ne (tgt := 1998) hx hb dL_law_1991 (by decide) (fun c_1991_7 => ?_) (fun c_1991_7 => ?_)
        · refine lv_iconst (v := 0) hx hb dL_law_1998 (by decide) ?_
          refine lv_istore (lv' := [(26, .int 0), (18, .int z9), (19, .int kd), (20, .int (nI y)), (21, .int (nI i)), (22, .int (nI r)), (23, .int (nI h)), (24, .int (nI k)), (25, .int (nI u)), (16, .int 1), (17, .int tn), (0, .ref b), (1, .ref a0), (2, .ref (al 0)), (3, .ref (al 1)), (4, .ref (al 2)), (5, .ref (al 3)), (6, .ref (al 4)), (7, .ref (al 5)), (8, .ref (al 6)), (9, .ref (al 7)), (10, .ref (al 8)), (11, .ref (al 9)), (12, .ref (al 10)), (13, .ref (al 11)), (14, .ref (al 12)), (15, .ref (al 13))]) hx hb dL_law_1999 hl (by decide) rfl (fun ls hl => ?_)
          refine lv_aload hx hb dL_law_2001 (lv_at hl 22 rfl) ?_
          refine lv_iload hx hb dL_law_2003 (lv_at hl 8 rfl) ?_
          refine lv_iload hx hb dL_law_2005 (lv_at hl 0 rfl) ?_
          refine lv_if_eq (tgt := 2025) hx hb dL_law_2007 (by decide) (fun c_2007_8 => ?_) (fun c_2007_8 => ?_)
          · refine lv_aload hx hb dL_law_2025 (lv_at hl 22 rfl) ?_
            refine lv_iload hx hb dL_law_2027 (lv_at hl 8 rfl) ?_
            refine xiald hx hb hE.1.1 (hP.arr 9 (by decide)) 0 rfl (k := u) rfl (show _ < 10 by omega) (by decide) dL_law_2029 ?_
            refine xiast hx hb hE.1.1 hS (hP.arr 9 (by decide)) (hP.oarr 9 (by decide)) 0 rfl (k := u) rfl (show _ < 10 by omega) (by decide) dL_law_2030 (fun H1 locs1 he1 z1 oq1 hS => ?_)
            have hP := hP.put 9 u (by decide) he1 oq1
            have hC := hC.offL (f := 9) (by decide) z1 oq1
            refine lv_aload_n hx hb dL_law_2031 rfl (lv_at hl 12 rfl) ?_
            refine lv_bipush (v := 8) hx hb dL_law_2032 (by decide) ?_
            refine lv_iload hx hb dL_law_2034 (lv_at hl 8 rfl) ?_
            refine lv_iload hx hb dL_law_2036 (lv_at hl 5 rfl) ?_
            refine lv_iconst (v := 0) hx hb dL_law_2038 (by decide) ?_
            have hcm : cm_bringHome τ nW (nI u) (nI r) 0 (thr τ 2) := by
              unfold cm_bringHome
              rw [ht0]
              exact Or.inr (Or.inl ⟨u, r, hu, rfl, hr9, rfl, fun z => c_1991_7 ((r3 r hr9).symm.trans z.2), rfl⟩)
            refine hcallH (n := 5) C hE hN (hD_bringHome l G (AxL s.heap.size al) hl9 a0 τ (thr τ 2) 0 nT nW N (nI u) (nI r) hcm) wML_L_127 wST_L_does wIN_L wCW_L_does (by decide) rfl ⟨Nat.le_of_ble_eq_true rfl, Nat.le_of_ble_eq_true rfl⟩ hS (fun q h => h.1) (fun q h => AxL.new hP hS.1 q h) hC rfl hl.1 (Nat.le_of_ble_eq_true rfl) dL_law_2039 ⟨by show cc9 + 3 ≤ 709356; omega, by show ss9 + 18 ≤ 6973399; omega⟩ (fun v H1 locs1 hv hk hS => ?_)
            obtain ⟨rfl, nT', nW', hC⟩ := hv
            have hP := hP.keptL hk (fun q hq h => h.2 hq)
            refine W.eq (g2 := F0 m 2042 ls [.int ((-13))]) (congrArg (fun z => F0 m 2042 ls [.int z]) (dres2 thr_27)) ?_
            refine lv_iload hx hb dL_law_2042 (lv_at hl 0 rfl) ?_
            refine lv_if_eq (tgt := 2055) hx hb dL_law_2044 (by decide) (fun c_2044_9 => ?_) (fun c_2044_9 => ?_)
            · refine lv_bipush (v := (-13)) hx hb dL_law_2055 (by decide) ?_
              refine lv_icmp_ne (tgt := 2064) hx hb dL_law_2057 (by decide) (fun c_2057_10 => ?_) (fun c_2057_10 => ?_)
              · exact absurd c_2057_10 (by decide)
              · refine lv_iconst (v := 1) hx hb dL_law_2060 (by decide) ?_
                refine lv_goto (tgt := 2065) hx hb dL_law_2061 (by decide) ?_
                refine lv_istore (lv' := [(16, .int 1), (26, .int 0), (18, .int z9), (19, .int kd), (20, .int (nI y)), (21, .int (nI i)), (22, .int (nI r)), (23, .int (nI h)), (24, .int (nI k)), (25, .int (nI u)), (17, .int tn), (0, .ref b), (1, .ref a0), (2, .ref (al 0)), (3, .ref (al 1)), (4, .ref (al 2)), (5, .ref (al 3)), (6, .ref (al 4)), (7, .ref (al 5)), (8, .ref (al 6)), (9, .ref (al 7)), (10, .ref (al 8)), (11, .ref (al 9)), (12, .ref (al 10)), (13, .ref (al 11)), (14, .ref (al 12)), (15, .ref (al 13))]) hx hb dL_law_2065 hl (by decide) rfl (fun ls hl => ?_)
                refine lv_goto (tgt := 2555) hx hb dL_law_2067 (by decide) ?_
                have hRf : LR (up μ 9 u (μ 9 u)) (thr τ 2) nT nW := by rw [up_id]; exact hR.th
                exact kk _ _ _ _ _ (show cc9 + 3 ≤ cc9 + 10 by omega) (show ss9 + 18 ≤ ss9 + 300 by omega) hS (LINV.of hC hP hRf) (lv_sub hl [0, 10, 4, 11, 12, 13, 14, 15, 16, 17, 18, 19, 20, 21, 22, 23, 24, 25, 26] rfl)
            · exact absurd c_2044_9 (by decide)
          · exact absurd c_2007_8 (by decide)
        · refine lv_iconst (v := 1) hx hb dL_law_1994 (by decide) ?_
          refine lv_goto (tgt := 1999) hx hb dL_law_1995 (by decide) ?_
          refine lv_istore (lv' := [(26, .int 1), (18, .int z9), (19, .int kd), (20, .int (nI y)), (21, .int (nI i)), (22, .int (nI r)), (23, .int (nI h)), (24, .int (nI k)), (25, .int (nI u)), (16, .int 1), (17, .int tn), (0, .ref b), (1, .ref a0), (2, .ref (al 0)), (3, .ref (al 1)), (4, .ref (al 2)), (5, .ref (al 3)), (6, .ref (al 4)), (7, .ref (al 5)), (8, .ref (al 6)), (9, .ref (al 7)), (10, .ref (al 8)), (11, .ref (al 9)), (12, .ref (al 10)), (13, .ref (al 11)), (14, .ref (al 12)), (15, .ref (al 13))]) hx hb dL_law_1999 hl (by decide) rfl (fun ls hl => ?_)
          refine lv_aload hx hb dL_law_2001 (lv_at hl 22 rfl) ?_
          refine lv_iload hx hb dL_law_2003 (lv_at hl 8 rfl) ?_
          refine lv_iload hx hb dL_law_2005 (lv_at hl 0 rfl) ?_
          refine lv_if_eq (tgt := 2025) hx hb dL_law_2007 (by decide) (fun c_2007_11 => ?_) (fun c_2007_11 => ?_)
          · exact absurd c_2007_11 (by decide)
          · refine lv_aload hx hb dL_law_2010 (lv_at hl 22 rfl) ?_
            refine lv_iload hx hb dL_law_2012 (lv_at hl 8 rfl) ?_
            refine xiald hx hb hE.1.1 (hP.arr 9 (by decide)) 0 rfl (k := u) rfl (show _ < 10 by omega) (by decide) dL_law_2014 ?_
            refine lv_iconst (v := 4) hx hb dL_law_2015 (by decide) ?_
            refine lv_irem hx hb dL_law_2016 (by decide) ?_
            refine W.eq (g2 := F0 m 2017 ls [.int (τ 17 u), .int (nI u), .ref (al 9)]) (congrArg (fun z => F0 m 2017 ls [.int z, .int (nI u), .ref (al 9)]) (lr_aho hR hu)) ?_
            refine lv_iconst (v := 4) hx hb dL_law_2017 (by decide) ?_
            refine lv_iload hx hb dL_law_2018 (lv_at hl 5 rfl) ?_
            refine lv_imul hx hb dL_law_2020 ?_
            refine lv_iadd hx hb dL_law_2021 ?_
            refine lv_goto (tgt := 2030) hx hb dL_law_2022 (by decide) ?_
            refine xiast hx hb hE.1.1 hS (hP.arr 9 (by decide)) (hP.oarr 9 (by decide)) 0 rfl (k := u) rfl (show _ < 10 by omega) (by decide) dL_law_2030 (fun H1 locs1 he1 z1 oq1 hS => ?_)
            have hP := hP.put 9 u (by decide) he1 oq1
            have hC := hC.offL (f := 9) (by decide) z1 oq1
            refine lv_aload_n hx hb dL_law_2031 rfl (lv_at hl 12 rfl) ?_
            refine lv_bipush (v := 8) hx hb dL_law_2032 (by decide) ?_
            refine lv_iload hx hb dL_law_2034 (lv_at hl 8 rfl) ?_
            refine lv_iload hx hb dL_law_2036 (lv_at hl 5 rfl) ?_
            refine lv_iconst (v := 0) hx hb dL_law_2038 (by decide) ?_
            have hcm : cm_bringHome τ nW (nI u) (nI r) (τ 21 u) (up (up τ 19 u 0) 18 u (nI r)) := by
              unfold cm_bringHome
              rw [ht0]
              exact Or.inr (Or.inr ⟨u, r, hu, rfl, hr9, rfl, ⟨(lr_le01 hR hu).mpr c_1977_3, (r3 r hr9).trans c_1991_7⟩, rfl, rfl⟩)
            refine hcallH (n := 5) C hE hN (hD_bringHome l G (AxL s.heap.size al) hl9 a0 τ (up (up τ 19 u 0) 18 u (nI r)) (τ 21 u) nT nW N (nI u) (nI r) hcm) wML_L_127 wST_L_does wIN_L wCW_L_does (by decide) rfl ⟨Nat.le_of_ble_eq_true rfl, Nat.le_of_ble_eq_true rfl⟩ hS (fun q h => h.1) (fun q h => AxL.new hP hS.1 q h) hC rfl hl.1 (Nat.le_of_ble_eq_true rfl) dL_law_2039 ⟨by show cc9 + 3 ≤ 709356; omega, by show ss9 + 18 ≤ 6973399; omega⟩ (fun v H1 locs1 hv hk hS => ?_)
            obtain ⟨rfl, nT', nW', hC⟩ := hv
            have hP := hP.keptL hk (fun q hq h => h.2 hq)
            refine W.eq (g2 := F0 m 2042 ls [.int (τ 21 u)]) (congrArg (fun z => F0 m 2042 ls [.int z]) (dres0 (by simp [up]; exact h27))) ?_
            refine lv_iload hx hb dL_law_2042 (lv_at hl 0 rfl) ?_
            refine lv_if_eq (tgt := 2055) hx hb dL_law_2044 (by decide) (fun c_2044_12 => ?_) (fun c_2044_12 => ?_)
            · exact absurd c_2044_12 (by decide)
            · refine lv_aload hx hb dL_law_2047 (lv_at hl 23 rfl) ?_
              refine lv_iload hx hb dL_law_2049 (lv_at hl 8 rfl) ?_
              refine xiald hx hb hE.1.1 (hP.arr 10 (by decide)) 0 rfl (k := u) rfl (show _ < 10 by omega) (by decide) dL_law_2051 ?_
              rw [show (up μ 9 u ((τ 17 u) + (4 * (nI r)))) 10 u = μ 10 u from by simp [up]]
              refine W.eq (g2 := F0 m 2052 ls [.int (τ 21 u), .int (τ 21 u)]) (congrArg (fun z => F0 m 2052 ls [.int z, .int (τ 21 u)]) ((lr_b hR u).1)) ?_
              refine lv_goto (tgt := 2057) hx hb dL_law_2052 (by decide) ?_
              refine lv_icmp_ne (tgt := 2064) hx hb dL_law_2057 (by decide) (fun c_2057_13 => ?_) (fun c_2057_13 => ?_)
              · exact absurd rfl c_2057_13
              · refine lv_iconst (v := 1) hx hb dL_law_2060 (by decide) ?_
                refine lv_goto (tgt := 2065) hx hb dL_law_2061 (by decide) ?_
                refine lv_istore (lv' := [(16, .int 1), (26, .int 1), (18, .int z9), (19, .int kd), (20, .int (nI y)), (21, .int (nI i)), (22, .int (nI r)), (23, .int (nI h)), (24, .int (nI k)), (25, .int (nI u)), (17, .int tn), (0, .ref b), (1, .ref a0), (2, .ref (al 0)), (3, .ref (al 1)), (4, .ref (al 2)), (5, .ref (al 3)), (6, .ref (al 4)), (7, .ref (al 5)), (8, .ref (al 6)), (9, .ref (al 7)), (10, .ref (al 8)), (11, .ref (al 9)), (12, .ref (al 10)), (13, .ref (al 11)), (14, .ref (al 12)), (15, .ref (al 13))]) hx hb dL_law_2065 hl (by decide) rfl (fun ls hl => ?_)
                refine lv_goto (tgt := 2555) hx hb dL_law_2067 (by decide) ?_
                have hRf : LR (up μ 9 u ((τ 17 u) + (4 * (nI r)))) (up (up τ 19 u 0) 18 u (nI r)) nT nW := hR.bring hu hr9
                exact kk _ _ _ _ _ (show cc9 + 3 ≤ cc9 + 10 by omega) (show ss9 + 18 ≤ ss9 + 300 by omega) hS (LINV.of hC hP hRf) (lv_sub hl [0, 10, 4, 11, 12, 13, 14, 15, 16, 17, 18, 19, 20, 21, 22, 23, 24, 25, 26] rfl)
set_option maxHeartbeats 4000000 in
set_option maxRecDepth 100000 in
theorem LC_lend (l : Launch) (hl9 : l.stackTraces = false) {p : Program} {e : Env} {s : State} {m : MethodId} {below : List Frame} {meth : Method} {c : Code} {b : Nat} {G : GE} {a0 : Nat} {al : Nat → Nat} (C : CallFix p m c cL_law 30 s #[Value.ref b] gTb RL) (hE : EN (fun q => s.heap.size ≤ q) G s s.heap) (hN : NCX s) {N cc9 ss9 : Nat} {Qw : State → Prop} {H : Heap} {locs : List Loc} {ls : Array Slot} (hcc : cc9 ≤ 700000) (hss : ss9 ≤ 6900000) (hN9 : N ≤ 200) {τ μ : SG} {nT nW : Nat} (hS : va_S (fun q => s.heap.size ≤ q) s.heap H locs) (hC : CST G (AxL s.heap.size al) a0 τ nT nW N H) (hP : PL G (fun q => s.heap.size ≤ q) al μ 14 H) (hR : LR μ τ nT nW) (ht0 : thr τ 0 = τ) {z9 kd tn : Int32} {y i r h k u : Nat} (hy : y < 67108864) (hiT : nT ≠ 0 → i < nT) (hi0 : nT = 0 → i = 0) (hr9 : r < 12) (hh4 : h < 4) (hk6 : k < 6) (hu0 : nW ≠ 0 → u < nW) (hl : lv_has ls 30 [(18, .int z9), (19, .int kd), (20, .int (nI y)), (21, .int (nI i)), (22, .int (nI r)), (23, .int (nI h)), (24, .int (nI k)), (25, .int (nI u)), (16, .int 1), (17, .int tn), (0, .ref b), (1, .ref a0), (2, .ref (al 0)), (3, .ref (al 1)), (4, .ref (al 2)), (5, .ref (al 3)), (6, .ref (al 4)), (7, .ref (al 5)), (8, .ref (al 6)), (9, .ref (al 7)), (10, .ref (al 8)), (11, .ref (al 9)), (12, .ref (al 10)), (13, .ref (al 11)), (14, .ref (al 12)), (15, .ref (al 13))])
    (kk : ∀ (H1 : Heap) (locs1 : List Loc) (ls1 : Array Slot) (cc1 ss1 : Nat), cc1 ≤ cc9 + 10 → ss1 ≤ ss9 + 300 → va_S (fun q => s.heap.size ≤ q) s.heap H1 locs1 → LINV G s.heap.size a0 al (N + 1) H1 → lv_has ls1 30 [(16, .int 1), (17, .int tn), (20, .int (nI y)), (0, .ref b), (1, .ref a0), (2, .ref (al 0)), (3, .ref (al 1)), (4, .ref (al 2)), (5, .ref (al 3)), (6, .ref (al 4)), (7, .ref (al 5)), (8, .ref (al 6)), (9, .ref (al 7)), (10, .ref (al 8)), (11, .ref (al 9)), (12, .ref (al 10)), (13, .ref (al 11)), (14, .ref (al 12)), (15, .ref (al 13))] → W p l e room_1 s m #[Value.ref b] below meth c H1 locs1 cc1 ss1 Qw (F0 m 2555 ls1 [])) : W p l e room_1 s m #[Value.ref b] below meth c H locs cc9 ss9 Qw (F0 m 1785 ls []) := by
  have hx := C.1
  have hb := C.2.1
  have hown := C.2.2.2.1
  have hts := C.2.2.2.2
  obtain ⟨h60, h10⟩ := lr_n60 hR
  have h27 : τ 27 0 = 0 := by rw [← ht0]; exact thr_27
  have hi60 : i < 60 := by
    rcases Nat.eq_zero_or_pos nT with z | z
    · rw [hi0 z]; omega
    · have := hiT (by omega); omega
  have hMB : ∀ q, McL al q → s.heap.size ≤ q := by
    rintro q ⟨f, hf, rfl⟩
    exact hP.oarr f hf
  have hZ := hC.Z
  obtain ⟨D9, hD9, eD9⟩ := hC.D
  obtain ⟨K9, hK9, eK9⟩ := hC.K
  have hm6 : y / 30 % 60 < 60 := Nat.mod_lt _ (by decide)
  refine lv_iload hx hb dL_law_1785 (lv_at hl 1 rfl) ?_
  refine lv_bipush (v := 26) hx hb dL_law_1787 (by decide) ?_
  refine lv_icmp_ge (tgt := 1953) hx hb dL_law_1789 (by decide) (fun c_1789_1 => ?_) (fun c_1789_1 => ?_)
  · exact LC_bring l hl9 C hE hN hcc hss hN9 hS hC hP hR ht0 hy hiT hi0 hr9 hh4 hk6 hu0 (lv_sub hl [0, 1, 2, 3, 4, 5, 6, 7, 8, 9, 10, 11, 12, 13, 14, 15, 16, 17, 18, 19, 20, 21, 22, 23, 24, 25] rfl) kk
  · refine lv_aload_n hx hb dL_law_1792 rfl (lv_at hl 12 rfl) ?_
    refine lv_iconst (v := 1) hx hb dL_law_1793 (by decide) ?_
    refine xiald hx hb hE.1.1 (hP.arr 0 (by decide)) 0 rfl (k := 1) rfl (show _ < 7 by omega) (by decide) dL_law_1794 ?_
    refine W.eq (g2 := F0 m 1795 ls [.int (nI nW)]) (congrArg (fun z => F0 m 1795 ls [.int z]) (lr_n1 hR)) ?_
    refine lv_if_le (tgt := 1953) hx hb dL_law_1795 (by decide) (fun c_1795_2 => ?_) (fun c_1795_2 => ?_)
    · exact LC_bring l hl9 C hE hN hcc hss hN9 hS hC hP hR ht0 hy hiT hi0 hr9 hh4 hk6 hu0 (lv_sub hl [0, 1, 2, 3, 4, 5, 6, 7, 8, 9, 10, 11, 12, 13, 14, 15, 16, 17, 18, 19, 20, 21, 22, 23, 24, 25] rfl) kk
    · have hu := hu0 (nI_gt0 c_1795_2)
      obtain ⟨ho9, b9, le9, fe9, hho, hb9, hle, hfe, ea9, e17, e18, e19, e20⟩ := lr_a hR hu
      refine lv_aload hx hb dL_law_1798 (lv_at hl 21 rfl) ?_
      refine lv_iload hx hb dL_law_1800 (lv_at hl 7 rfl) ?_
      refine xiald hx hb hE.1.1 (hP.arr 9 (by decide)) 0 rfl (k := u) rfl (show _ < 10 by omega) (by decide) dL_law_1802 ?_
      refine lv_bipush (v := 64) hx hb dL_law_1803 (by decide) ?_
      refine lv_idiv hx hb dL_law_1805 (by decide) ?_
      refine lv_iconst (v := 2) hx hb dL_law_1806 (by decide) ?_
      refine lv_irem hx hb dL_law_1807 (by decide) ?_
      refine W.eq (g2 := F0 m 1808 ls [.int (τ 19 u)]) (congrArg (fun z => F0 m 1808 ls [.int z]) (lr_ale hR hu)) ?_
      refine lv_iconst (v := 1) hx hb dL_law_1808 (by decide) ?_
      refine lv_icmp_ne (tgt := 1816) hx hb dL_law_1809 (by decide) (fun c_1809_3 => ?_) (fun c_1809_3 => ?_)
      · refine lv_iconst (v := 0) hx hb dL_law_1816 (by decide) ?_
        refine lv_istore (lv' := [(26, .int 0), (18, .int z9), (19, .int kd), (20, .int (nI y)), (21, .int (nI i)), (22, .int (nI r)), (23, .int (nI h)), (24, .int (nI k)), (25, .int (nI u)), (16, .int 1), (17, .int tn), (0, .ref b), (1, .ref a0), (2, .ref (al 0)), (3, .ref (al 1)), (4, .ref (al 2)), (5, .ref (al 3)), (6, .ref (al 4)), (7, .ref (al 5)), (8, .ref (al 6)), (9, .ref (al 7)), (10, .ref (al 8)), (11, .ref (al 9)), (12, .ref (al 10)), (13, .ref (al 11)), (14, .ref (al 12)), (15, .ref (al 13))]) hx hb dL_law_1817 hl (by decide) rfl (fun ls hl => ?_)
        refine lv_iload hx hb dL_law_1819 (lv_at hl 0 rfl) ?_
        refine lv_if_ne (tgt := 1842) hx hb dL_law_1821 (by decide) (fun c_1821_4 => ?_) (fun c_1821_4 => ?_)
        · exact absurd c_1821_4 (by decide)
        · refine lv_iload hx hb dL_law_1824 (lv_at hl 5 rfl) ?_
          refine lv_iconst (v := 3) hx hb dL_law_1826 (by decide) ?_
          refine lv_idiv hx hb dL_law_1827 (by decide) ?_
          refine W.eq (g2 := F0 m 1828 ls [.int (nI (r / 3))]) (congrArg (fun z => F0 m 1828 ls [.int z]) (r3 r hr9)) ?_
          refine lv_aload hx hb dL_law_1828 (lv_at hl 22 rfl) ?_
          refine lv_iload hx hb dL_law_1830 (lv_at hl 8 rfl) ?_
          refine xiald hx hb hE.1.1 (hP.arr 9 (by decide)) 0 rfl (k := u) rfl (show _ < 10 by omega) (by decide) dL_law_1832 ?_
          refine lv_iconst (v := 4) hx hb dL_law_1833 (by decide) ?_
          refine lv_irem hx hb dL_law_1834 (by decide) ?_
          refine W.eq (g2 := F0 m 1835 ls [.int (τ 17 u), .int (nI (r / 3))]) (congrArg (fun z => F0 m 1835 ls [.int z, .int (nI (r / 3))]) (lr_aho hR hu)) ?_
          refine lv_icmp_eq (tgt := 1842) hx hb dL_law_1835 (by decide) (fun c_1835_5 => ?_) (fun c_1835_5 => ?_)
          · refine lv_iconst (v := 0) hx hb dL_law_1842 (by decide) ?_
            refine lv_istore (lv' := [(27, .int 0), (26, .int 0), (18, .int z9), (19, .int kd), (20, .int (nI y)), (21, .int (nI i)), (22, .int (nI r)), (23, .int (nI h)), (24, .int (nI k)), (25, .int (nI u)), (16, .int 1), (17, .int tn), (0, .ref b), (1, .ref a0), (2, .ref (al 0)), (3, .ref (al 1)), (4, .ref (al 2)), (5, .ref (al 3)), (6, .ref (al 4)), (7, .ref (al 5)), (8, .ref (al 6)), (9, .ref (al 7)), (10, .ref (al 8)), (11, .ref (al 9)), (12, .ref (al 10)), (13, .ref (al 11)), (14, .ref (al 12)), (15, .ref (al 13))]) hx hb dL_law_1843 hl (by decide) rfl (fun ls hl => ?_)
            refine lv_iload hx hb dL_law_1845 (lv_at hl 4 rfl) ?_
            refine lv_bipush (v := 30) hx hb dL_law_1847 (by decide) ?_
            refine lv_idiv hx hb dL_law_1849 (by decide) ?_
            refine lv_bipush (v := 60) hx hb dL_law_1850 (by decide) ?_
            refine lv_irem hx hb dL_law_1852 (by decide) ?_
            refine W.eq (g2 := F0 m 1853 ls [.int (nI (y / 30 % 60))]) (congrArg (fun z => F0 m 1853 ls [.int z]) (yq hy (a := 30) (b := 60) (by decide) (by decide) (by decide) (by decide))) ?_
            refine lv_istore (lv' := [(28, .int (nI (y / 30 % 60))), (27, .int 0), (26, .int 0), (18, .int z9), (19, .int kd), (20, .int (nI y)), (21, .int (nI i)), (22, .int (nI r)), (23, .int (nI h)), (24, .int (nI k)), (25, .int (nI u)), (16, .int 1), (17, .int tn), (0, .ref b), (1, .ref a0), (2, .ref (al 0)), (3, .ref (al 1)), (4, .ref (al 2)), (5, .ref (al 3)), (6, .ref (al 4)), (7, .ref (al 5)), (8, .ref (al 6)), (9, .ref (al 7)), (10, .ref (al 8)), (11, .ref (al 9)), (12, .ref (al 10)), (13, .ref (al 11)), (14, .ref (al 12)), (15, .ref (al 13))]) hx hb dL_law_1853 hl (by decide) rfl (fun ls hl => ?_)
            refine lv_aload hx hb dL_law_1855 (lv_at hl 25 rfl) ?_
            refine lv_iload hx hb dL_law_1857 (lv_at hl 10 rfl) ?_
            refine lv_iload hx hb dL_law_1859 (lv_at hl 1 rfl) ?_
            refine lv_if_eq (tgt := 1868) hx hb dL_law_1861 (by decide) (fun c_1861_6 => ?_) (fun c_1861_6 => ?_)
            · refine lv_aload hx hb dL_law_1868 (lv_at hl 25 rfl) ?_
              refine lv_iload hx hb dL_law_1870 (lv_at hl 10 rfl) ?_
              refine xiald hx hb hE.1.1 (hP.arr 10 (by decide)) 0 rfl (k := u) rfl (show _ < 10 by omega) (by decide) dL_law_1872 ?_
              refine W.eq (g2 := F0 m 1873 ls [.int (τ 21 u), .int (nI u), .ref (al 10)]) (congrArg (fun z => F0 m 1873 ls [.int z, .int (nI u), .ref (al 10)]) ((lr_b hR u).1)) ?_
              refine xiast hx hb hE.1.1 hS (hP.arr 10 (by decide)) (hP.oarr 10 (by decide)) 0 rfl (k := u) rfl (show _ < 10 by omega) (by decide) dL_law_1873 (fun H1 locs1 he1 z1 oq1 hS => ?_)
              have hP := hP.put 10 u (by decide) he1 oq1
              have hC := hC.offL (f := 10) (by decide) z1 oq1
              refine lv_aload hx hb dL_law_1874 (lv_at hl 24 rfl) ?_
              refine lv_iload hx hb dL_law_1876 (lv_at hl 10 rfl) ?_
              refine lv_iload hx hb dL_law_1878 (lv_at hl 1 rfl) ?_
              refine lv_if_eq (tgt := 1908) hx hb dL_law_1880 (by decide) (fun c_1880_7 => ?_) (fun c_1880_7 => ?_)
              · refine lv_aload hx hb dL_law_1908 (lv_at hl 24 rfl) ?_
                refine lv_iload hx hb dL_law_1910 (lv_at hl 10 rfl) ?_
                refine xiald hx hb hE.1.1 (hP.arr 9 (by decide)) 0 rfl (k := u) rfl (show _ < 10 by omega) (by decide) dL_law_1912 ?_
                rw [show (up μ 10 u (τ 21 u)) 9 u = μ 9 u from by simp [up]]
                refine xiast hx hb hE.1.1 hS (hP.arr 9 (by decide)) (hP.oarr 9 (by decide)) 0 rfl (k := u) rfl (show _ < 10 by omega) (by decide) dL_law_1913 (fun H1 locs1 he1 z1 oq1 hS => ?_)
                have hP := hP.put 9 u (by decide) he1 oq1
                have hC := hC.offL (f := 9) (by decide) z1 oq1
                refine lv_aload_n hx hb dL_law_1914 rfl (lv_at hl 14 rfl) ?_
                refine lv_bipush (v := 7) hx hb dL_law_1915 (by decide) ?_
                refine lv_iload hx hb dL_law_1917 (lv_at hl 10 rfl) ?_
                refine lv_iload hx hb dL_law_1919 (lv_at hl 7 rfl) ?_
                refine lv_iload hx hb dL_law_1921 (lv_at hl 0 rfl) ?_
                have hcm : cm_lend τ nW (nI u) (nI r) (nI (y / 30 % 60)) 0 (thr τ 3) := by
                  unfold cm_lend
                  rw [ht0]
                  exact Or.inr (Or.inr (Or.inl ⟨u, r, hu, rfl, hr9, rfl, inB_n (b := 1000) (by omega) (by decide), fun z => z.2 ((r3 r hr9).trans c_1835_5), rfl⟩))
                refine hcallH (n := 5) C hE hN (hD_lend l G (AxL s.heap.size al) hl9 a0 τ (thr τ 3) 0 nT nW N (nI u) (nI r) (nI (y / 30 % 60)) hcm) wML_L_127 wST_L_does wIN_L wCW_L_does (by decide) rfl ⟨Nat.le_of_ble_eq_true rfl, Nat.le_of_ble_eq_true rfl⟩ hS (fun q h => h.1) (fun q h => AxL.new hP hS.1 q h) hC rfl hl.1 (Nat.le_of_ble_eq_true rfl) dL_law_1923 ⟨by show cc9 + 4 ≤ 709356; omega, by show ss9 + 24 ≤ 6973399; omega⟩ (fun v H1 locs1 hv hk hS => ?_)
                obtain ⟨rfl, nT', nW', hC⟩ := hv
                have hP := hP.keptL hk (fun q hq h => h.2 hq)
                refine W.eq (g2 := F0 m 1926 ls [.int ((-13))]) (congrArg (fun z => F0 m 1926 ls [.int z]) (dresL3 thr_27)) ?_
                refine lv_iload hx hb dL_law_1926 (lv_at hl 1 rfl) ?_
                refine lv_if_eq (tgt := 1938) hx hb dL_law_1928 (by decide) (fun c_1928_8 => ?_) (fun c_1928_8 => ?_)
                · refine lv_bipush (v := (-13)) hx hb dL_law_1938 (by decide) ?_
                  refine lv_icmp_ne (tgt := 1947) hx hb dL_law_1940 (by decide) (fun c_1940_9 => ?_) (fun c_1940_9 => ?_)
                  · exact absurd c_1940_9 (by decide)
                  · refine lv_iconst (v := 1) hx hb dL_law_1943 (by decide) ?_
                    refine lv_goto (tgt := 1948) hx hb dL_law_1944 (by decide) ?_
                    refine lv_istore (lv' := [(16, .int 1), (28, .int (nI (y / 30 % 60))), (27, .int 0), (26, .int 0), (18, .int z9), (19, .int kd), (20, .int (nI y)), (21, .int (nI i)), (22, .int (nI r)), (23, .int (nI h)), (24, .int (nI k)), (25, .int (nI u)), (17, .int tn), (0, .ref b), (1, .ref a0), (2, .ref (al 0)), (3, .ref (al 1)), (4, .ref (al 2)), (5, .ref (al 3)), (6, .ref (al 4)), (7, .ref (al 5)), (8, .ref (al 6)), (9, .ref (al 7)), (10, .ref (al 8)), (11, .ref (al 9)), (12, .ref (al 10)), (13, .ref (al 11)), (14, .ref (al 12)), (15, .ref (al 13))]) hx hb dL_law_1948 hl (by decide) rfl (fun ls hl => ?_)
                    refine lv_goto (tgt := 2555) hx hb dL_law_1950 (by decide) ?_
                    have hRf : LR (up (up μ 10 u (τ 21 u)) 9 u (μ 9 u)) (thr τ 3) nT nW := by rw [up_eq (lr_b hR u).1, up_id]; exact hR.th
                    exact kk _ _ _ _ _ (show cc9 + 4 ≤ cc9 + 10 by omega) (show ss9 + 24 ≤ ss9 + 300 by omega) hS (LINV.of hC hP hRf) (lv_sub hl [0, 12, 6, 13, 14, 15, 16, 17, 18, 19, 20, 21, 22, 23, 24, 25, 26, 27, 28] rfl)
                · exact absurd c_1928_8 (by decide)
              · exact absurd c_1880_7 (by decide)
            · exact absurd c_1861_6 (by decide)
          · refine lv_iconst (v := 1) hx hb dL_law_1838 (by decide) ?_
            refine lv_goto (tgt := 1843) hx hb dL_law_1839 (by decide) ?_
            refine lv_istore (lv' := [(27, .int 1), (26, .int 0), (18, .int z9), (19, .int kd), (20, .int (nI y)), (21, .int (nI i)), (22, .int (nI r)), (23, .int (nI h)), (24, .int (nI k)), (25, .int (nI u)), (16, .int 1), (17, .int tn), (0, .ref b), (1, .ref a0), (2, .ref (al 0)), (3, .ref (al 1)), (4, .ref (al 2)), (5, .ref (al 3)), (6, .ref (al 4)), (7, .ref (al 5)), (8, .ref (al 6)), (9, .ref (al 7)), (10, .ref (al 8)), (11, .ref (al 9)), (12, .ref (al 10)), (13, .ref (al 11)), (14, .ref (al 12)), (15, .ref (al 13))]) hx hb dL_law_1843 hl (by decide) rfl (fun ls hl => ?_)
            refine lv_iload hx hb dL_law_1845 (lv_at hl 4 rfl) ?_
            refine lv_bipush (v := 30) hx hb dL_law_1847 (by decide) ?_
            refine lv_idiv hx hb dL_law_1849 (by decide) ?_
            refine lv_bipush (v := 60) hx hb dL_law_1850 (by decide) ?_
            refine lv_irem hx hb dL_law_1852 (by decide) ?_
            refine W.eq (g2 := F0 m 1853 ls [.int (nI (y / 30 % 60))]) (congrArg (fun z => F0 m 1853 ls [.int z]) (yq hy (a := 30) (b := 60) (by decide) (by decide) (by decide) (by decide))) ?_
            refine lv_istore (lv' := [(28, .int (nI (y / 30 % 60))), (27, .int 1), (26, .int 0), (18, .int z9), (19, .int kd), (20, .int (nI y)), (21, .int (nI i)), (22, .int (nI r)), (23, .int (nI h)), (24, .int (nI k)), (25, .int (nI u)), (16, .int 1), (17, .int tn), (0, .ref b), (1, .ref a0), (2, .ref (al 0)), (3, .ref (al 1)), (4, .ref (al 2)), (5, .ref (al 3)), (6, .ref (al 4)), (7, .ref (al 5)), (8, .ref (al 6)), (9, .ref (al 7)), (10, .ref (al 8)), (11, .ref (al 9)), (12, .ref (al 10)), (13, .ref (al 11)), (14, .ref (al 12)), (15, .ref (al 13))]) hx hb dL_law_1853 hl (by decide) rfl (fun ls hl => ?_)
            refine lv_aload hx hb dL_law_1855 (lv_at hl 25 rfl) ?_
            refine lv_iload hx hb dL_law_1857 (lv_at hl 10 rfl) ?_
            refine lv_iload hx hb dL_law_1859 (lv_at hl 1 rfl) ?_
            refine lv_if_eq (tgt := 1868) hx hb dL_law_1861 (by decide) (fun c_1861_10 => ?_) (fun c_1861_10 => ?_)
            · exact absurd c_1861_10 (by decide)
            · refine lv_iconst (v := 0) hx hb dL_law_1864 (by decide) ?_
              refine lv_goto (tgt := 1873) hx hb dL_law_1865 (by decide) ?_
              refine xiast hx hb hE.1.1 hS (hP.arr 10 (by decide)) (hP.oarr 10 (by decide)) 0 rfl (k := u) rfl (show _ < 10 by omega) (by decide) dL_law_1873 (fun H1 locs1 he1 z1 oq1 hS => ?_)
              have hP := hP.put 10 u (by decide) he1 oq1
              have hC := hC.offL (f := 10) (by decide) z1 oq1
              refine lv_aload hx hb dL_law_1874 (lv_at hl 24 rfl) ?_
              refine lv_iload hx hb dL_law_1876 (lv_at hl 10 rfl) ?_
              refine lv_iload hx hb dL_law_1878 (lv_at hl 1 rfl) ?_
              refine lv_if_eq (tgt := 1908) hx hb dL_law_1880 (by decide) (fun c_1880_11 => ?_) (fun c_1880_11 => ?_)
              · exact absurd c_1880_11 (by decide)
              · refine lv_aload hx hb dL_law_1883 (lv_at hl 24 rfl) ?_
                refine lv_iload hx hb dL_law_1885 (lv_at hl 10 rfl) ?_
                refine xiald hx hb hE.1.1 (hP.arr 9 (by decide)) 0 rfl (k := u) rfl (show _ < 10 by omega) (by decide) dL_law_1887 ?_
                rw [show (up μ 10 u 0) 9 u = μ 9 u from by simp [up]]
                refine lv_iconst (v := 4) hx hb dL_law_1888 (by decide) ?_
                refine lv_irem hx hb dL_law_1889 (by decide) ?_
                refine W.eq (g2 := F0 m 1890 ls [.int (τ 17 u), .int (nI u), .ref (al 9)]) (congrArg (fun z => F0 m 1890 ls [.int z, .int (nI u), .ref (al 9)]) (lr_aho hR hu)) ?_
                refine lv_iconst (v := 4) hx hb dL_law_1890 (by decide) ?_
                refine lv_iload hx hb dL_law_1891 (lv_at hl 7 rfl) ?_
                refine lv_imul hx hb dL_law_1893 ?_
                refine lv_iadd hx hb dL_law_1894 ?_
                refine lv_bipush (v := 64) hx hb dL_law_1895 (by decide) ?_
                refine lv_iadd hx hb dL_law_1897 ?_
                refine lv_sipush (v := 128) hx hb dL_law_1898 (by decide) ?_
                refine lv_iload hx hb dL_law_1901 (lv_at hl 0 rfl) ?_
                refine lv_imul hx hb dL_law_1903 ?_
                refine lv_iadd hx hb dL_law_1904 ?_
                refine lv_goto (tgt := 1913) hx hb dL_law_1905 (by decide) ?_
                refine xiast hx hb hE.1.1 hS (hP.arr 9 (by decide)) (hP.oarr 9 (by decide)) 0 rfl (k := u) rfl (show _ < 10 by omega) (by decide) dL_law_1913 (fun H1 locs1 he1 z1 oq1 hS => ?_)
                have hP := hP.put 9 u (by decide) he1 oq1
                have hC := hC.offL (f := 9) (by decide) z1 oq1
                refine lv_aload_n hx hb dL_law_1914 rfl (lv_at hl 14 rfl) ?_
                refine lv_bipush (v := 7) hx hb dL_law_1915 (by decide) ?_
                refine lv_iload hx hb dL_law_1917 (lv_at hl 10 rfl) ?_
                refine lv_iload hx hb dL_law_1919 (lv_at hl 7 rfl) ?_
                refine lv_iload hx hb dL_law_1921 (lv_at hl 0 rfl) ?_
                have hcm : cm_lend τ nW (nI u) (nI r) (nI (y / 30 % 60)) ((nI r) / 3) (up (up (up (up τ 19 u 1) 18 u (nI r)) 20 u (nI (y / 30 % 60))) 21 u 0) := by
                  unfold cm_lend
                  rw [ht0]
                  exact Or.inr (Or.inr (Or.inr ⟨u, r, hu, rfl, hr9, rfl, inB_n (b := 1000) (by omega) (by decide), ⟨Classical.not_not.mp (fun z => c_1809_3 ((lr_le01 hR hu).mp z)), fun z => c_1835_5 ((r3 r hr9).symm.trans z)⟩, rfl, rfl⟩))
                refine hcallH (n := 5) C hE hN (hD_lend l G (AxL s.heap.size al) hl9 a0 τ (up (up (up (up τ 19 u 1) 18 u (nI r)) 20 u (nI (y / 30 % 60))) 21 u 0) ((nI r) / 3) nT nW N (nI u) (nI r) (nI (y / 30 % 60)) hcm) wML_L_127 wST_L_does wIN_L wCW_L_does (by decide) rfl ⟨Nat.le_of_ble_eq_true rfl, Nat.le_of_ble_eq_true rfl⟩ hS (fun q h => h.1) (fun q h => AxL.new hP hS.1 q h) hC rfl hl.1 (Nat.le_of_ble_eq_true rfl) dL_law_1923 ⟨by show cc9 + 4 ≤ 709356; omega, by show ss9 + 24 ≤ 6973399; omega⟩ (fun v H1 locs1 hv hk hS => ?_)
                obtain ⟨rfl, nT', nW', hC⟩ := hv
                have hP := hP.keptL hk (fun q hq h => h.2 hq)
                refine W.eq (g2 := F0 m 1926 ls [.int ((nI r) / 3)]) (congrArg (fun z => F0 m 1926 ls [.int z]) (dresL0 (by simp [up]; exact h27))) ?_
                refine lv_iload hx hb dL_law_1926 (lv_at hl 1 rfl) ?_
                refine lv_if_eq (tgt := 1938) hx hb dL_law_1928 (by decide) (fun c_1928_12 => ?_) (fun c_1928_12 => ?_)
                · exact absurd c_1928_12 (by decide)
                · refine lv_iload hx hb dL_law_1931 (lv_at hl 7 rfl) ?_
                  refine lv_iconst (v := 3) hx hb dL_law_1933 (by decide) ?_
                  refine lv_idiv hx hb dL_law_1934 (by decide) ?_
                  refine lv_goto (tgt := 1940) hx hb dL_law_1935 (by decide) ?_
                  refine lv_icmp_ne (tgt := 1947) hx hb dL_law_1940 (by decide) (fun c_1940_13 => ?_) (fun c_1940_13 => ?_)
                  · exact absurd rfl c_1940_13
                  · refine lv_iconst (v := 1) hx hb dL_law_1943 (by decide) ?_
                    refine lv_goto (tgt := 1948) hx hb dL_law_1944 (by decide) ?_
                    refine lv_istore (lv' := [(16, .int 1), (28, .int (nI (y / 30 % 60))), (27, .int 1), (26, .int 0), (18, .int z9), (19, .int kd), (20, .int (nI y)), (21, .int (nI i)), (22, .int (nI r)), (23, .int (nI h)), (24, .int (nI k)), (25, .int (nI u)), (17, .int tn), (0, .ref b), (1, .ref a0), (2, .ref (al 0)), (3, .ref (al 1)), (4, .ref (al 2)), (5, .ref (al 3)), (6, .ref (al 4)), (7, .ref (al 5)), (8, .ref (al 6)), (9, .ref (al 7)), (10, .ref (al 8)), (11, .ref (al 9)), (12, .ref (al 10)), (13, .ref (al 11)), (14, .ref (al 12)), (15, .ref (al 13))]) hx hb dL_law_1948 hl (by decide) rfl (fun ls hl => ?_)
                    refine lv_goto (tgt := 2555) hx hb dL_law_1950 (by decide) ?_
                    have hRf : LR (up (up μ 10 u 0) 9 u ((((τ 17 u) + (4 * (nI r))) + 64) + (128 * (nI (y / 30 % 60))))) (up (up (up (up τ 19 u 1) 18 u (nI r)) 20 u (nI (y / 30 % 60))) 21 u 0) nT nW := hR.lend hu hr9 (by omega)
                    exact kk _ _ _ _ _ (show cc9 + 4 ≤ cc9 + 10 by omega) (show ss9 + 24 ≤ ss9 + 300 by omega) hS (LINV.of hC hP hRf) (lv_sub hl [0, 12, 6, 13, 14, 15, 16, 17, 18, 19, 20, 21, 22, 23, 24, 25, 26, 27, 28] rfl)
      · refine lv_iconst (v := 1) hx hb dL_law_1812 (by decide) ?_
        refine lv_goto (tgt := 1817) hx hb dL_law_1813 (by decide) ?_
        refine lv_istore (lv' := [(26, .int 1), (18, .int z9), (19, .int kd), (20, .int (nI y)), (21, .int (nI i)), (22, .int (nI r)), (23, .int (nI h)), (24, .int (nI k)), (25, .int (nI u)), (16, .int 1), (17, .int tn), (0, .ref b), (1, .ref a0), (2, .ref (al 0)), (3, .ref (al 1)), (4, .ref (al 2)), (5, .ref (al 3)), (6, .ref (al 4)), (7, .ref (al 5)), (8, .ref (al 6)), (9, .ref (al 7)), (10, .ref (al 8)), (11, .ref (al 9)), (12, .ref (al 10)), (13, .ref (al 11)), (14, .ref (al 12)), (15, .ref (al 13))]) hx hb dL_law_1817 hl (by decide) rfl (fun ls hl => ?_)
        refine lv_iload hx hb dL_law_1819 (lv_at hl 0 rfl) ?_
        refine lv_if_ne (tgt := 1842) hx hb dL_law_1821 (by decide) (fun c_1821_14 => ?_) (fun c_1821_14 => ?_)
        · refine lv_iconst (v := 0) hx hb dL_law_1842 (by decide) ?_
          refine lv_istore (lv' := [(27, .int 0), (26, .int 1), (18, .int z9), (19, .int kd), (20, .int (nI y)), (21, .int (nI i)), (22, .int (nI r)), (23, .int (nI h)), (24, .int (nI k)), (25, .int (nI u)), (16, .int 1), (17, .int tn), (0, .ref b), (1, .ref a0), (2, .ref (al 0)), (3, .ref (al 1)), (4, .ref (al 2)), (5, .ref (al 3)), (6, .ref (al 4)), (7, .ref (al 5)), (8, .ref (al 6)), (9, .ref (al 7)), (10, .ref (al 8)), (11, .ref (al 9)), (12, .ref (al 10)), (13, .ref (al 11)), (14, .ref (al 12)), (15, .ref (al 13))]) hx hb dL_law_1843 hl (by decide) rfl (fun ls hl => ?_)
          refine lv_iload hx hb dL_law_1845 (lv_at hl 4 rfl) ?_
          refine lv_bipush (v := 30) hx hb dL_law_1847 (by decide) ?_
          refine lv_idiv hx hb dL_law_1849 (by decide) ?_
          refine lv_bipush (v := 60) hx hb dL_law_1850 (by decide) ?_
          refine lv_irem hx hb dL_law_1852 (by decide) ?_
          refine W.eq (g2 := F0 m 1853 ls [.int (nI (y / 30 % 60))]) (congrArg (fun z => F0 m 1853 ls [.int z]) (yq hy (a := 30) (b := 60) (by decide) (by decide) (by decide) (by decide))) ?_
          refine lv_istore (lv' := [(28, .int (nI (y / 30 % 60))), (27, .int 0), (26, .int 1), (18, .int z9), (19, .int kd), (20, .int (nI y)), (21, .int (nI i)), (22, .int (nI r)), (23, .int (nI h)), (24, .int (nI k)), (25, .int (nI u)), (16, .int 1), (17, .int tn), (0, .ref b), (1, .ref a0), (2, .ref (al 0)), (3, .ref (al 1)), (4, .ref (al 2)), (5, .ref (al 3)), (6, .ref (al 4)), (7, .ref (al 5)), (8, .ref (al 6)), (9, .ref (al 7)), (10, .ref (al 8)), (11, .ref (al 9)), (12, .ref (al 10)), (13, .ref (al 11)), (14, .ref (al 12)), (15, .ref (al 13))]) hx hb dL_law_1853 hl (by decide) rfl (fun ls hl => ?_)
          refine lv_aload hx hb dL_law_1855 (lv_at hl 25 rfl) ?_
          refine lv_iload hx hb dL_law_1857 (lv_at hl 10 rfl) ?_
          refine lv_iload hx hb dL_law_1859 (lv_at hl 1 rfl) ?_
          refine lv_if_eq (tgt := 1868) hx hb dL_law_1861 (by decide) (fun c_1861_15 => ?_) (fun c_1861_15 => ?_)
          · refine lv_aload hx hb dL_law_1868 (lv_at hl 25 rfl) ?_
            refine lv_iload hx hb dL_law_1870 (lv_at hl 10 rfl) ?_
            refine xiald hx hb hE.1.1 (hP.arr 10 (by decide)) 0 rfl (k := u) rfl (show _ < 10 by omega) (by decide) dL_law_1872 ?_
            refine W.eq (g2 := F0 m 1873 ls [.int (τ 21 u), .int (nI u), .ref (al 10)]) (congrArg (fun z => F0 m 1873 ls [.int z, .int (nI u), .ref (al 10)]) ((lr_b hR u).1)) ?_
            refine xiast hx hb hE.1.1 hS (hP.arr 10 (by decide)) (hP.oarr 10 (by decide)) 0 rfl (k := u) rfl (show _ < 10 by omega) (by decide) dL_law_1873 (fun H1 locs1 he1 z1 oq1 hS => ?_)
            have hP := hP.put 10 u (by decide) he1 oq1
            have hC := hC.offL (f := 10) (by decide) z1 oq1
            refine lv_aload hx hb dL_law_1874 (lv_at hl 24 rfl) ?_
            refine lv_iload hx hb dL_law_1876 (lv_at hl 10 rfl) ?_
            refine lv_iload hx hb dL_law_1878 (lv_at hl 1 rfl) ?_
            refine lv_if_eq (tgt := 1908) hx hb dL_law_1880 (by decide) (fun c_1880_16 => ?_) (fun c_1880_16 => ?_)
            · refine lv_aload hx hb dL_law_1908 (lv_at hl 24 rfl) ?_
              refine lv_iload hx hb dL_law_1910 (lv_at hl 10 rfl) ?_
              refine xiald hx hb hE.1.1 (hP.arr 9 (by decide)) 0 rfl (k := u) rfl (show _ < 10 by omega) (by decide) dL_law_1912 ?_
              rw [show (up μ 10 u (τ 21 u)) 9 u = μ 9 u from by simp [up]]
              refine xiast hx hb hE.1.1 hS (hP.arr 9 (by decide)) (hP.oarr 9 (by decide)) 0 rfl (k := u) rfl (show _ < 10 by omega) (by decide) dL_law_1913 (fun H1 locs1 he1 z1 oq1 hS => ?_)
              have hP := hP.put 9 u (by decide) he1 oq1
              have hC := hC.offL (f := 9) (by decide) z1 oq1
              refine lv_aload_n hx hb dL_law_1914 rfl (lv_at hl 14 rfl) ?_
              refine lv_bipush (v := 7) hx hb dL_law_1915 (by decide) ?_
              refine lv_iload hx hb dL_law_1917 (lv_at hl 10 rfl) ?_
              refine lv_iload hx hb dL_law_1919 (lv_at hl 7 rfl) ?_
              refine lv_iload hx hb dL_law_1921 (lv_at hl 0 rfl) ?_
              have hcm : cm_lend τ nW (nI u) (nI r) (nI (y / 30 % 60)) 0 (thr τ 3) := by
                unfold cm_lend
                rw [ht0]
                exact Or.inr (Or.inr (Or.inl ⟨u, r, hu, rfl, hr9, rfl, inB_n (b := 1000) (by omega) (by decide), fun z => (by rw [c_1809_3] at z; exact absurd z.1 (by decide)), rfl⟩))
              refine hcallH (n := 5) C hE hN (hD_lend l G (AxL s.heap.size al) hl9 a0 τ (thr τ 3) 0 nT nW N (nI u) (nI r) (nI (y / 30 % 60)) hcm) wML_L_127 wST_L_does wIN_L wCW_L_does (by decide) rfl ⟨Nat.le_of_ble_eq_true rfl, Nat.le_of_ble_eq_true rfl⟩ hS (fun q h => h.1) (fun q h => AxL.new hP hS.1 q h) hC rfl hl.1 (Nat.le_of_ble_eq_true rfl) dL_law_1923 ⟨by show cc9 + 4 ≤ 709356; omega, by show ss9 + 24 ≤ 6973399; omega⟩ (fun v H1 locs1 hv hk hS => ?_)
              obtain ⟨rfl, nT', nW', hC⟩ := hv
              have hP := hP.keptL hk (fun q hq h => h.2 hq)
              refine W.eq (g2 := F0 m 1926 ls [.int ((-13))]) (congrArg (fun z => F0 m 1926 ls [.int z]) (dresL3 thr_27)) ?_
              refine lv_iload hx hb dL_law_1926 (lv_at hl 1 rfl) ?_
              refine lv_if_eq (tgt := 1938) hx hb dL_law_1928 (by decide) (fun c_1928_17 => ?_) (fun c_1928_17 => ?_)
              · refine lv_bipush (v := (-13)) hx hb dL_law_1938 (by decide) ?_
                refine lv_icmp_ne (tgt := 1947) hx hb dL_law_1940 (by decide) (fun c_1940_18 => ?_) (fun c_1940_18 => ?_)
                · exact absurd c_1940_18 (by decide)
                · refine lv_iconst (v := 1) hx hb dL_law_1943 (by decide) ?_
                  refine lv_goto (tgt := 1948) hx hb dL_law_1944 (by decide) ?_
                  refine lv_istore (lv' := [(16, .int 1), (28, .int (nI (y / 30 % 60))), (27, .int 0), (26, .int 1), (18, .int z9), (19, .int kd), (20, .int (nI y)), (21, .int (nI i)), (22, .int (nI r)), (23, .int (nI h)), (24, .int (nI k)), (25, .int (nI u)), (17, .int tn), (0, .ref b), (1, .ref a0), (2, .ref (al 0)), (3, .ref (al 1)), (4, .ref (al 2)), (5, .ref (al 3)), (6, .ref (al 4)), (7, .ref (al 5)), (8, .ref (al 6)), (9, .ref (al 7)), (10, .ref (al 8)), (11, .ref (al 9)), (12, .ref (al 10)), (13, .ref (al 11)), (14, .ref (al 12)), (15, .ref (al 13))]) hx hb dL_law_1948 hl (by decide) rfl (fun ls hl => ?_)
                  refine lv_goto (tgt := 2555) hx hb dL_law_1950 (by decide) ?_
                  have hRf : LR (up (up μ 10 u (τ 21 u)) 9 u (μ 9 u)) (thr τ 3) nT nW := by rw [up_eq (lr_b hR u).1, up_id]; exact hR.th
                  exact kk _ _ _ _ _ (show cc9 + 4 ≤ cc9 + 10 by omega) (show ss9 + 24 ≤ ss9 + 300 by omega) hS (LINV.of hC hP hRf) (lv_sub hl [0, 12, 6, 13, 14, 15, 16, 17, 18, 19, 20, 21, 22, 23, 24, 25, 26, 27, 28] rfl)
              · exact absurd c_1928_17 (by decide)
            · exact absurd c_1880_16 (by decide)
          · exact absurd c_1861_15 (by decide)
        · exact absurd c_1821_14 (by decide)
set_option maxHeartbeats 4000000 in
set_option maxRecDepth 100000 in
theorem LC_hang (l : Launch) (hl9 : l.stackTraces = false) {p : Program} {e : Env} {s : State} {m : MethodId} {below : List Frame} {meth : Method} {c : Code} {b : Nat} {G : GE} {a0 : Nat} {al : Nat → Nat} (C : CallFix p m c cL_law 30 s #[Value.ref b] gTb RL) (hE : EN (fun q => s.heap.size ≤ q) G s s.heap) (hN : NCX s) {N cc9 ss9 : Nat} {Qw : State → Prop} {H : Heap} {locs : List Loc} {ls : Array Slot} (hcc : cc9 ≤ 700000) (hss : ss9 ≤ 6900000) (hN9 : N ≤ 200) {τ μ : SG} {nT nW : Nat} (hS : va_S (fun q => s.heap.size ≤ q) s.heap H locs) (hC : CST G (AxL s.heap.size al) a0 τ nT nW N H) (hP : PL G (fun q => s.heap.size ≤ q) al μ 14 H) (hR : LR μ τ nT nW) (ht0 : thr τ 0 = τ) {z9 kd tn : Int32} {y i r h k u : Nat} (hy : y < 67108864) (hiT : nT ≠ 0 → i < nT) (hi0 : nT = 0 → i = 0) (hr9 : r < 12) (hh4 : h < 4) (hk6 : k < 6) (hu0 : nW ≠ 0 → u < nW) (hl : lv_has ls 30 [(18, .int z9), (19, .int kd), (20, .int (nI y)), (21, .int (nI i)), (22, .int (nI r)), (23, .int (nI h)), (24, .int (nI k)), (25, .int (nI u)), (16, .int 1), (17, .int tn), (0, .ref b), (1, .ref a0), (2, .ref (al 0)), (3, .ref (al 1)), (4, .ref (al 2)), (5, .ref (al 3)), (6, .ref (al 4)), (7, .ref (al 5)), (8, .ref (al 6)), (9, .ref (al 7)), (10, .ref (al 8)), (11, .ref (al 9)), (12, .ref (al 10)), (13, .ref (al 11)), (14, .ref (al 12)), (15, .ref (al 13))])
    (kk : ∀ (H1 : Heap) (locs1 : List Loc) (ls1 : Array Slot) (cc1 ss1 : Nat), cc1 ≤ cc9 + 10 → ss1 ≤ ss9 + 300 → va_S (fun q => s.heap.size ≤ q) s.heap H1 locs1 → LINV G s.heap.size a0 al (N + 1) H1 → lv_has ls1 30 [(16, .int 1), (17, .int tn), (20, .int (nI y)), (0, .ref b), (1, .ref a0), (2, .ref (al 0)), (3, .ref (al 1)), (4, .ref (al 2)), (5, .ref (al 3)), (6, .ref (al 4)), (7, .ref (al 5)), (8, .ref (al 6)), (9, .ref (al 7)), (10, .ref (al 8)), (11, .ref (al 9)), (12, .ref (al 10)), (13, .ref (al 11)), (14, .ref (al 12)), (15, .ref (al 13))] → W p l e room_1 s m #[Value.ref b] below meth c H1 locs1 cc1 ss1 Qw (F0 m 2555 ls1 [])) : W p l e room_1 s m #[Value.ref b] below meth c H locs cc9 ss9 Qw (F0 m 1682 ls []) := by
  have hx := C.1
  have hb := C.2.1
  have hown := C.2.2.2.1
  have hts := C.2.2.2.2
  obtain ⟨h60, h10⟩ := lr_n60 hR
  have h27 : τ 27 0 = 0 := by rw [← ht0]; exact thr_27
  have hi60 : i < 60 := by
    rcases Nat.eq_zero_or_pos nT with z | z
    · rw [hi0 z]; omega
    · have := hiT (by omega); omega
  have hMB : ∀ q, McL al q → s.heap.size ≤ q := by
    rintro q ⟨f, hf, rfl⟩
    exact hP.oarr f hf
  have hZ := hC.Z
  obtain ⟨D9, hD9, eD9⟩ := hC.D
  obtain ⟨K9, hK9, eK9⟩ := hC.K
  refine lv_iload hx hb dL_law_1682 (lv_at hl 1 rfl) ?_
  refine lv_bipush (v := 24) hx hb dL_law_1684 (by decide) ?_
  refine lv_icmp_ge (tgt := 1785) hx hb dL_law_1686 (by decide) (fun c_1686_1 => ?_) (fun c_1686_1 => ?_)
  · exact LC_lend l hl9 C hE hN hcc hss hN9 hS hC hP hR ht0 hy hiT hi0 hr9 hh4 hk6 hu0 (lv_sub hl [0, 1, 2, 3, 4, 5, 6, 7, 8, 9, 10, 11, 12, 13, 14, 15, 16, 17, 18, 19, 20, 21, 22, 23, 24, 25] rfl) kk
  · refine lv_aload_n hx hb dL_law_1689 rfl (lv_at hl 12 rfl) ?_
    refine lv_iconst (v := 1) hx hb dL_law_1690 (by decide) ?_
    refine xiald hx hb hE.1.1 (hP.arr 0 (by decide)) 0 rfl (k := 1) rfl (show _ < 7 by omega) (by decide) dL_law_1691 ?_
    refine W.eq (g2 := F0 m 1692 ls [.int (nI nW)]) (congrArg (fun z => F0 m 1692 ls [.int z]) (lr_n1 hR)) ?_
    refine lv_if_le (tgt := 1785) hx hb dL_law_1692 (by decide) (fun c_1692_2 => ?_) (fun c_1692_2 => ?_)
    · exact LC_lend l hl9 C hE hN hcc hss hN9 hS hC hP hR ht0 hy hiT hi0 hr9 hh4 hk6 hu0 (lv_sub hl [0, 1, 2, 3, 4, 5, 6, 7, 8, 9, 10, 11, 12, 13, 14, 15, 16, 17, 18, 19, 20, 21, 22, 23, 24, 25] rfl) kk
    · have hu := hu0 (nI_gt0 c_1692_2)
      obtain ⟨ho9, b9, le9, fe9, hho, hb9, hle, hfe, ea9, e17, e18, e19, e20⟩ := lr_a hR hu
      refine lv_aload hx hb dL_law_1695 (lv_at hl 21 rfl) ?_
      refine lv_iload hx hb dL_law_1697 (lv_at hl 7 rfl) ?_
      refine xiald hx hb hE.1.1 (hP.arr 9 (by decide)) 0 rfl (k := u) rfl (show _ < 10 by omega) (by decide) dL_law_1699 ?_
      refine lv_iconst (v := 4) hx hb dL_law_1700 (by decide) ?_
      refine lv_idiv hx hb dL_law_1701 (by decide) ?_
      refine lv_bipush (v := 16) hx hb dL_law_1702 (by decide) ?_
      refine lv_irem hx hb dL_law_1704 (by decide) ?_
      refine W.eq (g2 := F0 m 1705 ls [.int (nI b9)]) (congrArg (fun z => F0 m 1705 ls [.int z]) ((lr_ar hR hu).trans e18)) ?_
      refine lv_istore (lv' := [(26, .int (nI b9)), (18, .int z9), (19, .int kd), (20, .int (nI y)), (21, .int (nI i)), (22, .int (nI r)), (23, .int (nI h)), (24, .int (nI k)), (25, .int (nI u)), (16, .int 1), (17, .int tn), (0, .ref b), (1, .ref a0), (2, .ref (al 0)), (3, .ref (al 1)), (4, .ref (al 2)), (5, .ref (al 3)), (6, .ref (al 4)), (7, .ref (al 5)), (8, .ref (al 6)), (9, .ref (al 7)), (10, .ref (al 8)), (11, .ref (al 9)), (12, .ref (al 10)), (13, .ref (al 11)), (14, .ref (al 12)), (15, .ref (al 13))]) hx hb dL_law_1705 hl (by decide) rfl (fun ls hl => ?_)
      refine lv_iload hx hb dL_law_1707 (lv_at hl 0 rfl) ?_
      refine lv_iconst (v := 3) hx hb dL_law_1709 (by decide) ?_
      refine lv_idiv hx hb dL_law_1710 (by decide) ?_
      refine W.eq (g2 := F0 m 1711 ls [.int (nI (b9 / 3))]) (congrArg (fun z => F0 m 1711 ls [.int z]) (r3 b9 hb9)) ?_
      refine lv_iload hx hb dL_law_1711 (lv_at hl 5 rfl) ?_
      refine lv_iconst (v := 3) hx hb dL_law_1713 (by decide) ?_
      refine lv_idiv hx hb dL_law_1714 (by decide) ?_
      refine W.eq (g2 := F0 m 1715 ls [.int (nI (r / 3)), .int (nI (b9 / 3))]) (congrArg (fun z => F0 m 1715 ls [.int z, .int (nI (b9 / 3))]) (r3 r hr9)) ?_
      refine lv_icmp_ne (tgt := 1722) hx hb dL_law_1715 (by decide) (fun c_1715_3 => ?_) (fun c_1715_3 => ?_)
      · refine lv_iconst (v := 0) hx hb dL_law_1722 (by decide) ?_
        refine lv_istore (lv' := [(27, .int 0), (26, .int (nI b9)), (18, .int z9), (19, .int kd), (20, .int (nI y)), (21, .int (nI i)), (22, .int (nI r)), (23, .int (nI h)), (24, .int (nI k)), (25, .int (nI u)), (16, .int 1), (17, .int tn), (0, .ref b), (1, .ref a0), (2, .ref (al 0)), (3, .ref (al 1)), (4, .ref (al 2)), (5, .ref (al 3)), (6, .ref (al 4)), (7, .ref (al 5)), (8, .ref (al 6)), (9, .ref (al 7)), (10, .ref (al 8)), (11, .ref (al 9)), (12, .ref (al 10)), (13, .ref (al 11)), (14, .ref (al 12)), (15, .ref (al 13))]) hx hb dL_law_1723 hl (by decide) rfl (fun ls hl => ?_)
        refine lv_aload hx hb dL_law_1725 (lv_at hl 23 rfl) ?_
        refine lv_iload hx hb dL_law_1727 (lv_at hl 9 rfl) ?_
        refine lv_dup2_11 hx hb dL_law_1729 rfl rfl ?_
        refine xiald hx hb hE.1.1 (hP.arr 9 (by decide)) 0 rfl (k := u) rfl (show _ < 10 by omega) (by decide) dL_law_1730 ?_
        refine lv_iload hx hb dL_law_1731 (lv_at hl 0 rfl) ?_
        refine lv_if_eq (tgt := 1746) hx hb dL_law_1733 (by decide) (fun c_1733_4 => ?_) (fun c_1733_4 => ?_)
        · refine lv_iconst (v := 0) hx hb dL_law_1746 (by decide) ?_
          refine lv_iadd hx hb dL_law_1747 ?_
          refine xiast hx hb hE.1.1 hS (hP.arr 9 (by decide)) (hP.oarr 9 (by decide)) 0 rfl (k := u) rfl (show _ < 10 by omega) (by decide) dL_law_1748 (fun H1 locs1 he1 z1 oq1 hS => ?_)
          have hP := hP.put 9 u (by decide) he1 oq1
          have hC := hC.offL (f := 9) (by decide) z1 oq1
          refine lv_aload_n hx hb dL_law_1749 rfl (lv_at hl 13 rfl) ?_
          refine lv_bipush (v := 6) hx hb dL_law_1750 (by decide) ?_
          refine lv_iload hx hb dL_law_1752 (lv_at hl 9 rfl) ?_
          refine lv_iload hx hb dL_law_1754 (lv_at hl 6 rfl) ?_
          refine lv_iconst (v := 0) hx hb dL_law_1756 (by decide) ?_
          have hcm : cm_hang τ nW (nI u) (nI r) 0 (thr τ 2) := by
            unfold cm_hang
            rw [ht0]
            exact Or.inr (Or.inl ⟨u, r, hu, rfl, hr9, rfl, by rw [e18, r3 b9 hb9, r3 r hr9]; exact c_1715_3, rfl⟩)
          refine hcallH (n := 5) C hE hN (hD_hang l G (AxL s.heap.size al) hl9 a0 τ (thr τ 2) 0 nT nW N (nI u) (nI r) hcm) wML_L_127 wST_L_does wIN_L wCW_L_does (by decide) rfl ⟨Nat.le_of_ble_eq_true rfl, Nat.le_of_ble_eq_true rfl⟩ hS (fun q h => h.1) (fun q h => AxL.new hP hS.1 q h) hC rfl hl.1 (Nat.le_of_ble_eq_true rfl) dL_law_1757 ⟨by show cc9 + 3 ≤ 709356; omega, by show ss9 + 18 ≤ 6973399; omega⟩ (fun v H1 locs1 hv hk hS => ?_)
          obtain ⟨rfl, nT', nW', hC⟩ := hv
          have hP := hP.keptL hk (fun q hq h => h.2 hq)
          refine W.eq (g2 := F0 m 1760 ls [.int ((-13))]) (congrArg (fun z => F0 m 1760 ls [.int z]) (dres2 thr_27)) ?_
          refine lv_iload hx hb dL_law_1760 (lv_at hl 0 rfl) ?_
          refine lv_if_eq (tgt := 1770) hx hb dL_law_1762 (by decide) (fun c_1762_5 => ?_) (fun c_1762_5 => ?_)
          · refine lv_bipush (v := (-13)) hx hb dL_law_1770 (by decide) ?_
            refine lv_icmp_ne (tgt := 1779) hx hb dL_law_1772 (by decide) (fun c_1772_6 => ?_) (fun c_1772_6 => ?_)
            · exact absurd c_1772_6 (by decide)
            · refine lv_iconst (v := 1) hx hb dL_law_1775 (by decide) ?_
              refine lv_goto (tgt := 1780) hx hb dL_law_1776 (by decide) ?_
              refine lv_istore (lv' := [(16, .int 1), (27, .int 0), (26, .int (nI b9)), (18, .int z9), (19, .int kd), (20, .int (nI y)), (21, .int (nI i)), (22, .int (nI r)), (23, .int (nI h)), (24, .int (nI k)), (25, .int (nI u)), (17, .int tn), (0, .ref b), (1, .ref a0), (2, .ref (al 0)), (3, .ref (al 1)), (4, .ref (al 2)), (5, .ref (al 3)), (6, .ref (al 4)), (7, .ref (al 5)), (8, .ref (al 6)), (9, .ref (al 7)), (10, .ref (al 8)), (11, .ref (al 9)), (12, .ref (al 10)), (13, .ref (al 11)), (14, .ref (al 12)), (15, .ref (al 13))]) hx hb dL_law_1780 hl (by decide) rfl (fun ls hl => ?_)
              refine lv_goto (tgt := 2555) hx hb dL_law_1782 (by decide) ?_
              have hRf : LR (up μ 9 u ((μ 9 u) + 0)) (thr τ 2) nT nW := by rw [Int32.add_zero, up_id]; exact hR.th
              exact kk _ _ _ _ _ (show cc9 + 3 ≤ cc9 + 10 by omega) (show ss9 + 18 ≤ ss9 + 300 by omega) hS (LINV.of hC hP hRf) (lv_sub hl [0, 11, 5, 12, 13, 14, 15, 16, 17, 18, 19, 20, 21, 22, 23, 24, 25, 26, 27] rfl)
          · exact absurd c_1762_5 (by decide)
        · exact absurd c_1733_4 (by decide)
      · refine lv_iconst (v := 1) hx hb dL_law_1718 (by decide) ?_
        refine lv_goto (tgt := 1723) hx hb dL_law_1719 (by decide) ?_
        refine lv_istore (lv' := [(27, .int 1), (26, .int (nI b9)), (18, .int z9), (19, .int kd), (20, .int (nI y)), (21, .int (nI i)), (22, .int (nI r)), (23, .int (nI h)), (24, .int (nI k)), (25, .int (nI u)), (16, .int 1), (17, .int tn), (0, .ref b), (1, .ref a0), (2, .ref (al 0)), (3, .ref (al 1)), (4, .ref (al 2)), (5, .ref (al 3)), (6, .ref (al 4)), (7, .ref (al 5)), (8, .ref (al 6)), (9, .ref (al 7)), (10, .ref (al 8)), (11, .ref (al 9)), (12, .ref (al 10)), (13, .ref (al 11)), (14, .ref (al 12)), (15, .ref (al 13))]) hx hb dL_law_1723 hl (by decide) rfl (fun ls hl => ?_)
        refine lv_aload hx hb dL_law_1725 (lv_at hl 23 rfl) ?_
        refine lv_iload hx hb dL_law_1727 (lv_at hl 9 rfl) ?_
        refine lv_dup2_11 hx hb dL_law_1729 rfl rfl ?_
        refine xiald hx hb hE.1.1 (hP.arr 9 (by decide)) 0 rfl (k := u) rfl (show _ < 10 by omega) (by decide) dL_law_1730 ?_
        refine lv_iload hx hb dL_law_1731 (lv_at hl 0 rfl) ?_
        refine lv_if_eq (tgt := 1746) hx hb dL_law_1733 (by decide) (fun c_1733_7 => ?_) (fun c_1733_7 => ?_)
        · exact absurd c_1733_7 (by decide)
        · refine lv_iconst (v := 4) hx hb dL_law_1736 (by decide) ?_
          refine lv_iload hx hb dL_law_1737 (lv_at hl 6 rfl) ?_
          refine lv_iload hx hb dL_law_1739 (lv_at hl 1 rfl) ?_
          refine lv_isub hx hb dL_law_1741 ?_
          refine lv_imul hx hb dL_law_1742 ?_
          refine lv_goto (tgt := 1747) hx hb dL_law_1743 (by decide) ?_
          refine lv_iadd hx hb dL_law_1747 ?_
          refine xiast hx hb hE.1.1 hS (hP.arr 9 (by decide)) (hP.oarr 9 (by decide)) 0 rfl (k := u) rfl (show _ < 10 by omega) (by decide) dL_law_1748 (fun H1 locs1 he1 z1 oq1 hS => ?_)
          have hP := hP.put 9 u (by decide) he1 oq1
          have hC := hC.offL (f := 9) (by decide) z1 oq1
          refine lv_aload_n hx hb dL_law_1749 rfl (lv_at hl 13 rfl) ?_
          refine lv_bipush (v := 6) hx hb dL_law_1750 (by decide) ?_
          refine lv_iload hx hb dL_law_1752 (lv_at hl 9 rfl) ?_
          refine lv_iload hx hb dL_law_1754 (lv_at hl 6 rfl) ?_
          refine lv_iconst (v := 0) hx hb dL_law_1756 (by decide) ?_
          have hcm : cm_hang τ nW (nI u) (nI r) (τ 18 u) (up τ 18 u (nI r)) := by
            unfold cm_hang
            rw [ht0]
            exact Or.inr (Or.inr ⟨u, r, hu, rfl, hr9, rfl, by rw [e18, r3 b9 hb9, r3 r hr9]; exact c_1715_3, rfl, rfl⟩)
          refine hcallH (n := 5) C hE hN (hD_hang l G (AxL s.heap.size al) hl9 a0 τ (up τ 18 u (nI r)) (τ 18 u) nT nW N (nI u) (nI r) hcm) wML_L_127 wST_L_does wIN_L wCW_L_does (by decide) rfl ⟨Nat.le_of_ble_eq_true rfl, Nat.le_of_ble_eq_true rfl⟩ hS (fun q h => h.1) (fun q h => AxL.new hP hS.1 q h) hC rfl hl.1 (Nat.le_of_ble_eq_true rfl) dL_law_1757 ⟨by show cc9 + 3 ≤ 709356; omega, by show ss9 + 18 ≤ 6973399; omega⟩ (fun v H1 locs1 hv hk hS => ?_)
          obtain ⟨rfl, nT', nW', hC⟩ := hv
          have hP := hP.keptL hk (fun q hq h => h.2 hq)
          refine W.eq (g2 := F0 m 1760 ls [.int (nI b9)]) (congrArg (fun z => F0 m 1760 ls [.int z]) ((dres0 (by simp [up]; exact h27)).trans e18)) ?_
          refine lv_iload hx hb dL_law_1760 (lv_at hl 0 rfl) ?_
          refine lv_if_eq (tgt := 1770) hx hb dL_law_1762 (by decide) (fun c_1762_8 => ?_) (fun c_1762_8 => ?_)
          · exact absurd c_1762_8 (by decide)
          · refine lv_iload hx hb dL_law_1765 (lv_at hl 1 rfl) ?_
            refine lv_goto (tgt := 1772) hx hb dL_law_1767 (by decide) ?_
            refine lv_icmp_ne (tgt := 1779) hx hb dL_law_1772 (by decide) (fun c_1772_9 => ?_) (fun c_1772_9 => ?_)
            · exact absurd rfl c_1772_9
            · refine lv_iconst (v := 1) hx hb dL_law_1775 (by decide) ?_
              refine lv_goto (tgt := 1780) hx hb dL_law_1776 (by decide) ?_
              refine lv_istore (lv' := [(16, .int 1), (27, .int 1), (26, .int (nI b9)), (18, .int z9), (19, .int kd), (20, .int (nI y)), (21, .int (nI i)), (22, .int (nI r)), (23, .int (nI h)), (24, .int (nI k)), (25, .int (nI u)), (17, .int tn), (0, .ref b), (1, .ref a0), (2, .ref (al 0)), (3, .ref (al 1)), (4, .ref (al 2)), (5, .ref (al 3)), (6, .ref (al 4)), (7, .ref (al 5)), (8, .ref (al 6)), (9, .ref (al 7)), (10, .ref (al 8)), (11, .ref (al 9)), (12, .ref (al 10)), (13, .ref (al 11)), (14, .ref (al 12)), (15, .ref (al 13))]) hx hb dL_law_1780 hl (by decide) rfl (fun ls hl => ?_)
              refine lv_goto (tgt := 2555) hx hb dL_law_1782 (by decide) ?_
              have hRf : LR (up μ 9 u ((μ 9 u) + (4 * ((nI r) - (nI b9))))) (up τ 18 u (nI r)) nT nW := hR.hang hu hr9 hb9 e18
              exact kk _ _ _ _ _ (show cc9 + 3 ≤ cc9 + 10 by omega) (show ss9 + 18 ≤ ss9 + 300 by omega) hS (LINV.of hC hP hRf) (lv_sub hl [0, 11, 5, 12, 13, 14, 15, 16, 17, 18, 19, 20, 21, 22, 23, 24, 25, 26, 27] rfl)
set_option maxHeartbeats 4000000 in
set_option maxRecDepth 100000 in
theorem LC_addw (l : Launch) (hl9 : l.stackTraces = false) {p : Program} {e : Env} {s : State} {m : MethodId} {below : List Frame} {meth : Method} {c : Code} {b : Nat} {G : GE} {a0 : Nat} {al : Nat → Nat} (C : CallFix p m c cL_law 30 s #[Value.ref b] gTb RL) (hE : EN (fun q => s.heap.size ≤ q) G s s.heap) (hN : NCX s) {N cc9 ss9 : Nat} {Qw : State → Prop} {H : Heap} {locs : List Loc} {ls : Array Slot} (hcc : cc9 ≤ 700000) (hss : ss9 ≤ 6900000) (hN9 : N ≤ 200) {τ μ : SG} {nT nW : Nat} (hS : va_S (fun q => s.heap.size ≤ q) s.heap H locs) (hC : CST G (AxL s.heap.size al) a0 τ nT nW N H) (hP : PL G (fun q => s.heap.size ≤ q) al μ 14 H) (hR : LR μ τ nT nW) (ht0 : thr τ 0 = τ) {z9 kd tn : Int32} {y i r h k u : Nat} (hy : y < 67108864) (hiT : nT ≠ 0 → i < nT) (hi0 : nT = 0 → i = 0) (hr9 : r < 12) (hh4 : h < 4) (hk6 : k < 6) (hu0 : nW ≠ 0 → u < nW) (hl : lv_has ls 30 [(18, .int z9), (19, .int kd), (20, .int (nI y)), (21, .int (nI i)), (22, .int (nI r)), (23, .int (nI h)), (24, .int (nI k)), (25, .int (nI u)), (16, .int 1), (17, .int tn), (0, .ref b), (1, .ref a0), (2, .ref (al 0)), (3, .ref (al 1)), (4, .ref (al 2)), (5, .ref (al 3)), (6, .ref (al 4)), (7, .ref (al 5)), (8, .ref (al 6)), (9, .ref (al 7)), (10, .ref (al 8)), (11, .ref (al 9)), (12, .ref (al 10)), (13, .ref (al 11)), (14, .ref (al 12)), (15, .ref (al 13))])
    (kk : ∀ (H1 : Heap) (locs1 : List Loc) (ls1 : Array Slot) (cc1 ss1 : Nat), cc1 ≤ cc9 + 10 → ss1 ≤ ss9 + 300 → va_S (fun q => s.heap.size ≤ q) s.heap H1 locs1 → LINV G s.heap.size a0 al (N + 1) H1 → lv_has ls1 30 [(16, .int 1), (17, .int tn), (20, .int (nI y)), (0, .ref b), (1, .ref a0), (2, .ref (al 0)), (3, .ref (al 1)), (4, .ref (al 2)), (5, .ref (al 3)), (6, .ref (al 4)), (7, .ref (al 5)), (8, .ref (al 6)), (9, .ref (al 7)), (10, .ref (al 8)), (11, .ref (al 9)), (12, .ref (al 10)), (13, .ref (al 11)), (14, .ref (al 12)), (15, .ref (al 13))] → W p l e room_1 s m #[Value.ref b] below meth c H1 locs1 cc1 ss1 Qw (F0 m 2555 ls1 [])) : W p l e room_1 s m #[Value.ref b] below meth c H locs cc9 ss9 Qw (F0 m 1611 ls []) := by
  have hx := C.1
  have hb := C.2.1
  have hown := C.2.2.2.1
  have hts := C.2.2.2.2
  obtain ⟨h60, h10⟩ := lr_n60 hR
  have h27 : τ 27 0 = 0 := by rw [← ht0]; exact thr_27
  have hi60 : i < 60 := by
    rcases Nat.eq_zero_or_pos nT with z | z
    · rw [hi0 z]; omega
    · have := hiT (by omega); omega
  have hMB : ∀ q, McL al q → s.heap.size ≤ q := by
    rintro q ⟨f, hf, rfl⟩
    exact hP.oarr f hf
  have hZ := hC.Z
  obtain ⟨D9, hD9, eD9⟩ := hC.D
  obtain ⟨K9, hK9, eK9⟩ := hC.K
  refine lv_iload hx hb dL_law_1611 (lv_at hl 1 rfl) ?_
  refine lv_bipush (v := 22) hx hb dL_law_1613 (by decide) ?_
  refine lv_icmp_ge (tgt := 1682) hx hb dL_law_1615 (by decide) (fun c_1615_1 => ?_) (fun c_1615_1 => ?_)
  · exact LC_hang l hl9 C hE hN hcc hss hN9 hS hC hP hR ht0 hy hiT hi0 hr9 hh4 hk6 hu0 (lv_sub hl [0, 1, 2, 3, 4, 5, 6, 7, 8, 9, 10, 11, 12, 13, 14, 15, 16, 17, 18, 19, 20, 21, 22, 23, 24, 25] rfl) kk
  · refine lv_aload_n hx hb dL_law_1618 rfl (lv_at hl 12 rfl) ?_
    refine lv_iconst (v := 1) hx hb dL_law_1619 (by decide) ?_
    refine xiald hx hb hE.1.1 (hP.arr 0 (by decide)) 0 rfl (k := 1) rfl (show _ < 7 by omega) (by decide) dL_law_1620 ?_
    refine W.eq (g2 := F0 m 1621 ls [.int (nI nW)]) (congrArg (fun z => F0 m 1621 ls [.int z]) (lr_n1 hR)) ?_
    refine lv_bipush (v := 10) hx hb dL_law_1621 (by decide) ?_
    refine lv_icmp_ge (tgt := 1682) hx hb dL_law_1623 (by decide) (fun c_1623_2 => ?_) (fun c_1623_2 => ?_)
    · exact LC_hang l hl9 C hE hN hcc hss hN9 hS hC hP hR ht0 hy hiT hi0 hr9 hh4 hk6 hu0 (lv_sub hl [0, 1, 2, 3, 4, 5, 6, 7, 8, 9, 10, 11, 12, 13, 14, 15, 16, 17, 18, 19, 20, 21, 22, 23, 24, 25] rfl) kk
    · have hn1 : nW < 10 := nlt h10 (by decide) c_1623_2
      refine lv_aload_n hx hb dL_law_1626 rfl (lv_at hl 11 rfl) ?_
      refine lv_bipush (v := 9) hx hb dL_law_1627 (by decide) ?_
      refine lv_iload hx hb dL_law_1629 (lv_at hl 4 rfl) ?_
      refine lv_iconst (v := 0) hx hb dL_law_1631 (by decide) ?_
      refine lv_iconst (v := 0) hx hb dL_law_1632 (by decide) ?_
      have hcm : cm_addWork τ nW (nI r) (nI nW) (up (up (up (up τ 17 nW (nI (r / 3))) 18 nW (nI r)) 22 nW 20) 16 0 (nI (nW + 1))) := by
        unfold cm_addWork
        rw [ht0]
        exact Or.inr (Or.inr ⟨r, hr9, rfl, by omega, rfl, rfl⟩)
      refine hcallH (n := 5) C hE hN (hD_addWork l G (AxL s.heap.size al) hl9 a0 τ (up (up (up (up τ 17 nW (nI (r / 3))) 18 nW (nI r)) 22 nW 20) 16 0 (nI (nW + 1))) (nI nW) nT nW N (nI r) hcm) wML_L_127 wST_L_does wIN_L wCW_L_does (by decide) rfl ⟨Nat.le_of_ble_eq_true rfl, Nat.le_of_ble_eq_true rfl⟩ hS (fun q h => h.1) (fun q h => AxL.new hP hS.1 q h) hC rfl hl.1 (Nat.le_of_ble_eq_true rfl) dL_law_1633 ⟨by show cc9 + 6 ≤ 709356; omega, by show ss9 + 250 ≤ 6973399; omega⟩ (fun v H1 locs1 hv hk hS => ?_)
      obtain ⟨rfl, nT', nW', hC⟩ := hv
      have hP := hP.keptL hk (fun q hq h => h.2 hq)
      refine W.eq (g2 := F0 m 1636 ls [.int (nI nW)]) (congrArg (fun z => F0 m 1636 ls [.int z]) (dres0 (by simp [up]; exact h27))) ?_
      refine lv_aload_n hx hb dL_law_1636 rfl (lv_at hl 12 rfl) ?_
      refine lv_iconst (v := 1) hx hb dL_law_1637 (by decide) ?_
      refine xiald hx hb hE.1.1 (hP.arr 0 (by decide)) 0 rfl (k := 1) rfl (show _ < 7 by omega) (by decide) dL_law_1638 ?_
      refine W.eq (g2 := F0 m 1639 ls [.int (nI nW), .int (nI nW)]) (congrArg (fun z => F0 m 1639 ls [.int z, .int (nI nW)]) (lr_n1 hR)) ?_
      refine lv_icmp_ne (tgt := 1646) hx hb dL_law_1639 (by decide) (fun c_1639_3 => ?_) (fun c_1639_3 => ?_)
      · exact absurd rfl c_1639_3
      · refine lv_iconst (v := 1) hx hb dL_law_1642 (by decide) ?_
        refine lv_goto (tgt := 1647) hx hb dL_law_1643 (by decide) ?_
        refine lv_istore (lv' := [(16, .int 1), (18, .int z9), (19, .int kd), (20, .int (nI y)), (21, .int (nI i)), (22, .int (nI r)), (23, .int (nI h)), (24, .int (nI k)), (25, .int (nI u)), (17, .int tn), (0, .ref b), (1, .ref a0), (2, .ref (al 0)), (3, .ref (al 1)), (4, .ref (al 2)), (5, .ref (al 3)), (6, .ref (al 4)), (7, .ref (al 5)), (8, .ref (al 6)), (9, .ref (al 7)), (10, .ref (al 8)), (11, .ref (al 9)), (12, .ref (al 10)), (13, .ref (al 11)), (14, .ref (al 12)), (15, .ref (al 13))]) hx hb dL_law_1647 hl (by decide) rfl (fun ls hl => ?_)
        refine lv_aload hx hb dL_law_1649 (lv_at hl 21 rfl) ?_
        refine lv_aload_n hx hb dL_law_1651 rfl (lv_at hl 12 rfl) ?_
        refine lv_iconst (v := 1) hx hb dL_law_1652 (by decide) ?_
        refine xiald hx hb hE.1.1 (hP.arr 0 (by decide)) 0 rfl (k := 1) rfl (show _ < 7 by omega) (by decide) dL_law_1653 ?_
        refine W.eq (g2 := F0 m 1654 ls [.int (nI nW), .ref (al 9)]) (congrArg (fun z => F0 m 1654 ls [.int z, .ref (al 9)]) (lr_n1 hR)) ?_
        refine lv_iload hx hb dL_law_1654 (lv_at hl 5 rfl) ?_
        refine lv_iconst (v := 3) hx hb dL_law_1656 (by decide) ?_
        refine lv_idiv hx hb dL_law_1657 (by decide) ?_
        refine W.eq (g2 := F0 m 1658 ls [.int (nI (r / 3)), .int (nI nW), .ref (al 9)]) (congrArg (fun z => F0 m 1658 ls [.int z, .int (nI nW), .ref (al 9)]) (r3 r hr9)) ?_
        refine lv_iconst (v := 4) hx hb dL_law_1658 (by decide) ?_
        refine lv_iload hx hb dL_law_1659 (lv_at hl 5 rfl) ?_
        refine lv_imul hx hb dL_law_1661 ?_
        refine lv_iadd hx hb dL_law_1662 ?_
        refine xiast hx hb hE.1.1 hS (hP.arr 9 (by decide)) (hP.oarr 9 (by decide)) 0 rfl (k := nW) rfl (show _ < 10 by omega) (by decide) dL_law_1663 (fun H1 locs1 he1 z1 oq1 hS => ?_)
        have hP := hP.put 9 nW (by decide) he1 oq1
        have hC := hC.offL (f := 9) (by decide) z1 oq1
        refine lv_aload hx hb dL_law_1664 (lv_at hl 23 rfl) ?_
        refine lv_aload_n hx hb dL_law_1666 rfl (lv_at hl 12 rfl) ?_
        refine lv_iconst (v := 1) hx hb dL_law_1667 (by decide) ?_
        refine xiald hx hb hE.1.1 (hP.arr 0 (by decide)) 0 rfl (k := 1) rfl (show _ < 7 by omega) (by decide) dL_law_1668 ?_
        rw [show (up μ 9 nW ((nI (r / 3)) + (4 * (nI r)))) 0 1 = μ 0 1 from by simp [up]]
        refine W.eq (g2 := F0 m 1669 ls [.int (nI nW), .ref (al 11)]) (congrArg (fun z => F0 m 1669 ls [.int z, .ref (al 11)]) (lr_n1 hR)) ?_
        refine lv_bipush (v := 20) hx hb dL_law_1669 (by decide) ?_
        refine xiast hx hb hE.1.1 hS (hP.arr 11 (by decide)) (hP.oarr 11 (by decide)) 0 rfl (k := nW) rfl (show _ < 10 by omega) (by decide) dL_law_1671 (fun H1 locs1 he1 z1 oq1 hS => ?_)
        have hP := hP.put 11 nW (by decide) he1 oq1
        have hC := hC.offL (f := 11) (by decide) z1 oq1
        refine lv_aload_n hx hb dL_law_1672 rfl (lv_at hl 12 rfl) ?_
        refine lv_iconst (v := 1) hx hb dL_law_1673 (by decide) ?_
        refine lv_dup2_11 hx hb dL_law_1674 rfl rfl ?_
        refine xiald hx hb hE.1.1 (hP.arr 0 (by decide)) 0 rfl (k := 1) rfl (show _ < 7 by omega) (by decide) dL_law_1675 ?_
        rw [show (up (up μ 9 nW ((nI (r / 3)) + (4 * (nI r)))) 11 nW 20) 0 1 = μ 0 1 from by simp [up]]
        refine W.eq (g2 := F0 m 1676 ls [.int (nI nW), .int 1, .ref (al 0)]) (congrArg (fun z => F0 m 1676 ls [.int z, .int 1, .ref (al 0)]) (lr_n1 hR)) ?_
        refine lv_iconst (v := 1) hx hb dL_law_1676 (by decide) ?_
        refine lv_iadd hx hb dL_law_1677 ?_
        refine W.eq (g2 := F0 m 1678 ls [.int (nI (nW + 1)), .int 1, .ref (al 0)]) (congrArg (fun z => F0 m 1678 ls [.int z, .int 1, .ref (al 0)]) (nI_1 nW)) ?_
        refine xiast hx hb hE.1.1 hS (hP.arr 0 (by decide)) (hP.oarr 0 (by decide)) 0 rfl (k := 1) rfl (show _ < 7 by omega) (by decide) dL_law_1678 (fun H1 locs1 he1 z1 oq1 hS => ?_)
        have hP := hP.put 0 1 (by decide) he1 oq1
        have hC := hC.offL (f := 0) (by decide) z1 oq1
        refine lv_goto (tgt := 2555) hx hb dL_law_1679 (by decide) ?_
        have hRf : LR (up (up (up μ 9 nW ((nI (r / 3)) + (4 * (nI r)))) 11 nW 20) 0 1 (nI (nW + 1))) (up (up (up (up τ 17 nW (nI (r / 3))) 18 nW (nI r)) 22 nW 20) 16 0 (nI (nW + 1))) nT (nW + 1) := hR.work hr9 hZ.2 hn1
        exact kk _ _ _ _ _ (show cc9 + 6 ≤ cc9 + 10 by omega) (show ss9 + 250 ≤ ss9 + 300 by omega) hS (LINV.of hC hP hRf) (lv_sub hl [0, 9, 3, 10, 11, 12, 13, 14, 15, 16, 17, 18, 19, 20, 21, 22, 23, 24, 25] rfl)
