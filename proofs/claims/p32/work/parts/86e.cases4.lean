set_option maxHeartbeats 4000000 in
set_option maxRecDepth 100000 in
theorem LC_admt (l : Launch) (hl9 : l.stackTraces = false) {p : Program} {e : Env} {s : State} {m : MethodId} {below : List Frame} {meth : Method} {c : Code} {b : Nat} {G : GE} {a0 : Nat} {al : Nat → Nat} (C : CallFix p m c cL_law 30 s #[Value.ref b] gTb RL) (hE : EN (fun q => s.heap.size ≤ q) G s s.heap) (hN : NCX s) {N cc9 ss9 : Nat} {Qw : State → Prop} {H : Heap} {locs : List Loc} {ls : Array Slot} (hcc : cc9 ≤ 700000) (hss : ss9 ≤ 6900000) (hN9 : N ≤ 200) {τ μ : SG} {nT nW : Nat} (hS : va_S (fun q => s.heap.size ≤ q) s.heap H locs) (hC : CST G (AxL s.heap.size al) a0 τ nT nW N H) (hP : PL G (fun q => s.heap.size ≤ q) al μ 14 H) (hR : LR μ τ nT nW) (ht0 : thr τ 0 = τ) {z9 kd tn : Int32} {y i r h k u : Nat} (hy : y < 67108864) (hiT : nT ≠ 0 → i < nT) (hi0 : nT = 0 → i = 0) (hr9 : r < 12) (hh4 : h < 4) (hk6 : k < 6) (hu0 : nW ≠ 0 → u < nW) (hl : lv_has ls 30 [(18, .int z9), (19, .int kd), (20, .int (nI y)), (21, .int (nI i)), (22, .int (nI r)), (23, .int (nI h)), (24, .int (nI k)), (25, .int (nI u)), (16, .int 1), (17, .int tn), (0, .ref b), (1, .ref a0), (2, .ref (al 0)), (3, .ref (al 1)), (4, .ref (al 2)), (5, .ref (al 3)), (6, .ref (al 4)), (7, .ref (al 5)), (8, .ref (al 6)), (9, .ref (al 7)), (10, .ref (al 8)), (11, .ref (al 9)), (12, .ref (al 10)), (13, .ref (al 11)), (14, .ref (al 12)), (15, .ref (al 13))])
    (kk : ∀ (H1 : Heap) (locs1 : List Loc) (ls1 : Array Slot) (cc1 ss1 : Nat), cc1 ≤ cc9 + 10 → ss1 ≤ ss9 + 300 → va_S (fun q => s.heap.size ≤ q) s.heap H1 locs1 → LINV G s.heap.size a0 al (N + 1) H1 → lv_has ls1 30 [(16, .int 1), (17, .int tn), (20, .int (nI y)), (0, .ref b), (1, .ref a0), (2, .ref (al 0)), (3, .ref (al 1)), (4, .ref (al 2)), (5, .ref (al 3)), (6, .ref (al 4)), (7, .ref (al 5)), (8, .ref (al 6)), (9, .ref (al 7)), (10, .ref (al 8)), (11, .ref (al 9)), (12, .ref (al 10)), (13, .ref (al 11)), (14, .ref (al 12)), (15, .ref (al 13))] → W p l e room_1 s m #[Value.ref b] below meth c H1 locs1 cc1 ss1 Qw (F0 m 2555 ls1 [])) : W p l e room_1 s m #[Value.ref b] below meth c H locs cc9 ss9 Qw (F0 m 503 ls []) := by
  have hx := C.1
  have hb := C.2.1
  have hown := C.2.2.2.1
  have hts := C.2.2.2.2
  obtain ⟨h60, h10⟩ := lr_n60 hR
  have h27 : τ 27 0 = 0 := by rw [← ht0]; exact thr_27
  have hi60 : i < 60 := by
    rcases Nat.eq_zero_or_pos nT with z | z
    · rw [hi0 z]; omega
    · have := hiT (by omega); omega
  have hMB : ∀ q, McL al q → s.heap.size ≤ q := by
    rintro q ⟨f, hf, rfl⟩
    exact hP.oarr f hf
  have hZ := hC.Z
  obtain ⟨D9, hD9, eD9⟩ := hC.D
  obtain ⟨K9, hK9, eK9⟩ := hC.K
  refine lv_iload hx hb dL_law_503 (lv_at hl 1 rfl) ?_
  refine lv_bipush (v := 9) hx hb dL_law_505 (by decide) ?_
  refine lv_icmp_ge (tgt := 722) hx hb dL_law_507 (by decide) (fun c_507_1 => ?_) (fun c_507_1 => ?_)
  · exact LC_back l hl9 C hE hN hcc hss hN9 hS hC hP hR ht0 hy hiT hi0 hr9 hh4 hk6 hu0 (lv_sub hl [0, 1, 2, 3, 4, 5, 6, 7, 8, 9, 10, 11, 12, 13, 14, 15, 16, 17, 18, 19, 20, 21, 22, 23, 24, 25] rfl) kk
  · refine lv_aload_n hx hb dL_law_510 rfl (lv_at hl 12 rfl) ?_
    refine lv_iconst (v := 0) hx hb dL_law_511 (by decide) ?_
    refine xiald hx hb hE.1.1 (hP.arr 0 (by decide)) 0 rfl (k := 0) rfl (show _ < 7 by omega) (by decide) dL_law_512 ?_
    refine W.eq (g2 := F0 m 513 ls [.int (nI nT)]) (congrArg (fun z => F0 m 513 ls [.int z]) (lr_n0 hR)) ?_
    refine lv_bipush (v := 60) hx hb dL_law_513 (by decide) ?_
    refine lv_icmp_ge (tgt := 722) hx hb dL_law_515 (by decide) (fun c_515_2 => ?_) (fun c_515_2 => ?_)
    · exact LC_back l hl9 C hE hN hcc hss hN9 hS hC hP hR ht0 hy hiT hi0 hr9 hh4 hk6 hu0 (lv_sub hl [0, 1, 2, 3, 4, 5, 6, 7, 8, 9, 10, 11, 12, 13, 14, 15, 16, 17, 18, 19, 20, 21, 22, 23, 24, 25] rfl) kk
    · have hn6 : nT < 60 := nlt h60 (by decide) c_515_2
      refine lv_iload hx hb dL_law_518 (lv_at hl 2 rfl) ?_
      refine lv_bipush (v := 24) hx hb dL_law_520 (by decide) ?_
      refine lv_idiv hx hb dL_law_522 (by decide) ?_
      refine lv_iconst (v := 2) hx hb dL_law_523 (by decide) ?_
      refine lv_irem hx hb dL_law_524 (by decide) ?_
      refine lv_if_ne (tgt := 532) hx hb dL_law_525 (by decide) (fun c_525_3 => ?_) (fun c_525_3 => ?_)
      · refine lv_iconst (v := 0) hx hb dL_law_532 (by decide) ?_
        refine lv_istore (lv' := [(26, .int 0), (18, .int z9), (19, .int kd), (20, .int (nI y)), (21, .int (nI i)), (22, .int (nI r)), (23, .int (nI h)), (24, .int (nI k)), (25, .int (nI u)), (16, .int 1), (17, .int tn), (0, .ref b), (1, .ref a0), (2, .ref (al 0)), (3, .ref (al 1)), (4, .ref (al 2)), (5, .ref (al 3)), (6, .ref (al 4)), (7, .ref (al 5)), (8, .ref (al 6)), (9, .ref (al 7)), (10, .ref (al 8)), (11, .ref (al 9)), (12, .ref (al 10)), (13, .ref (al 11)), (14, .ref (al 12)), (15, .ref (al 13))]) hx hb dL_law_533 hl (by decide) rfl (fun ls hl => ?_)
        refine lv_aload hx hb dL_law_535 (lv_at hl 15 rfl) ?_
        refine lv_iload hx hb dL_law_537 (lv_at hl 7 rfl) ?_
        refine xiald hx hb hE.1.1 (hP.arr 2 (by decide)) 0 rfl (k := k) rfl (show _ < 6 by omega) (by decide) dL_law_539 ?_
        refine W.eq (g2 := F0 m 540 ls [.int (τ 2 k)]) (congrArg (fun z => F0 m 540 ls [.int z]) (lr_l hR hk6)) ?_
        refine lv_aload_n hx hb dL_law_540 rfl (lv_at hl 13 rfl) ?_
        refine lv_iconst (v := 2) hx hb dL_law_541 (by decide) ?_
        refine xiald hx hb hE.1.1 (hP.arr 0 (by decide)) 0 rfl (k := 2) rfl (show _ < 7 by omega) (by decide) dL_law_542 ?_
        refine W.eq (g2 := F0 m 543 ls [.int (τ 26 0), .int (τ 2 k)]) (congrArg (fun z => F0 m 543 ls [.int z, .int (τ 2 k)]) (lr_n2 hR)) ?_
        refine lv_icmp_lt (tgt := 601) hx hb dL_law_543 (by decide) (fun c_543_4 => ?_) (fun c_543_4 => ?_)
        · refine lv_iconst (v := 0) hx hb dL_law_601 (by decide) ?_
          refine lv_istore (lv' := [(27, .int 0), (26, .int 0), (18, .int z9), (19, .int kd), (20, .int (nI y)), (21, .int (nI i)), (22, .int (nI r)), (23, .int (nI h)), (24, .int (nI k)), (25, .int (nI u)), (16, .int 1), (17, .int tn), (0, .ref b), (1, .ref a0), (2, .ref (al 0)), (3, .ref (al 1)), (4, .ref (al 2)), (5, .ref (al 3)), (6, .ref (al 4)), (7, .ref (al 5)), (8, .ref (al 6)), (9, .ref (al 7)), (10, .ref (al 8)), (11, .ref (al 9)), (12, .ref (al 10)), (13, .ref (al 11)), (14, .ref (al 12)), (15, .ref (al 13))]) hx hb dL_law_602 hl (by decide) rfl (fun ls hl => ?_)
          refine lv_aload_n hx hb dL_law_604 rfl (lv_at hl 13 rfl) ?_
          refine lv_iconst (v := 1) hx hb dL_law_605 (by decide) ?_
          refine lv_iload hx hb dL_law_606 (lv_at hl 8 rfl) ?_
          refine lv_iload hx hb dL_law_608 (lv_at hl 1 rfl) ?_
          refine lv_if_eq (tgt := 617) hx hb dL_law_610 (by decide) (fun c_610_5 => ?_) (fun c_610_5 => ?_)
          · refine lv_iconst (v := 0) hx hb dL_law_617 (by decide) ?_
            refine lv_iconst (v := 0) hx hb dL_law_618 (by decide) ?_
            have hcm : cm_admitM τ nT (nI k) 0 (thr τ 2) := by
              unfold cm_admitM
              rw [ht0]
              exact Or.inr (Or.inl ⟨k, hk6, rfl, Or.inl (fBel_lt.mpr c_543_4), rfl⟩)
            refine hcallH (n := 5) C hE hN (hD_admitM l G (AxL s.heap.size al) hl9 a0 τ (thr τ 2) 0 nT nW N (nI k) hcm) wML_L_127 wST_L_does wIN_L wCW_L_does (by decide) rfl ⟨Nat.le_of_ble_eq_true rfl, Nat.le_of_ble_eq_true rfl⟩ hS (fun q h => h.1) (fun q h => AxL.new hP hS.1 q h) hC rfl hl.1 (Nat.le_of_ble_eq_true rfl) dL_law_619 ⟨by show cc9 + 6 ≤ 709356; omega, by show ss9 + 250 ≤ 6973399; omega⟩ (fun v H1 locs1 hv hk hS => ?_)
            obtain ⟨rfl, nT', nW', hC⟩ := hv
            have hP := hP.keptL hk (fun q hq h => h.2 hq)
            refine W.eq (g2 := F0 m 622 ls [.int ((-13))]) (congrArg (fun z => F0 m 622 ls [.int z]) (dres2 thr_27)) ?_
            refine lv_iload hx hb dL_law_622 (lv_at hl 0 rfl) ?_
            refine lv_if_eq (tgt := 633) hx hb dL_law_624 (by decide) (fun c_624_6 => ?_) (fun c_624_6 => ?_)
            · refine lv_bipush (v := (-13)) hx hb dL_law_633 (by decide) ?_
              refine lv_icmp_ne (tgt := 642) hx hb dL_law_635 (by decide) (fun c_635_7 => ?_) (fun c_635_7 => ?_)
              · exact absurd c_635_7 (by decide)
              · refine lv_iconst (v := 1) hx hb dL_law_638 (by decide) ?_
                refine lv_goto (tgt := 643) hx hb dL_law_639 (by decide) ?_
                refine lv_istore (lv' := [(16, .int 1), (27, .int 0), (26, .int 0), (18, .int z9), (19, .int kd), (20, .int (nI y)), (21, .int (nI i)), (22, .int (nI r)), (23, .int (nI h)), (24, .int (nI k)), (25, .int (nI u)), (17, .int tn), (0, .ref b), (1, .ref a0), (2, .ref (al 0)), (3, .ref (al 1)), (4, .ref (al 2)), (5, .ref (al 3)), (6, .ref (al 4)), (7, .ref (al 5)), (8, .ref (al 6)), (9, .ref (al 7)), (10, .ref (al 8)), (11, .ref (al 9)), (12, .ref (al 10)), (13, .ref (al 11)), (14, .ref (al 12)), (15, .ref (al 13))]) hx hb dL_law_643 hl (by decide) rfl (fun ls hl => ?_)
                refine lv_iload hx hb dL_law_645 (lv_at hl 1 rfl) ?_
                refine lv_if_eq (tgt := 719) hx hb dL_law_647 (by decide) (fun c_647_8 => ?_) (fun c_647_8 => ?_)
                · refine lv_goto (tgt := 2555) hx hb dL_law_719 (by decide) ?_
                  have hRf : LR μ (thr τ 2) nT nW := hR.th
                  exact kk _ _ _ _ _ (show cc9 + 6 ≤ cc9 + 10 by omega) (show ss9 + 250 ≤ ss9 + 300 by omega) hS (LINV.of hC hP hRf) (lv_sub hl [0, 11, 5, 12, 13, 14, 15, 16, 17, 18, 19, 20, 21, 22, 23, 24, 25, 26, 27] rfl)
                · exact absurd c_647_8 (by decide)
            · exact absurd c_624_6 (by decide)
          · exact absurd c_610_5 (by decide)
        · refine lv_iload hx hb dL_law_546 (lv_at hl 0 rfl) ?_
          refine lv_if_eq (tgt := 583) hx hb dL_law_548 (by decide) (fun c_548_9 => ?_) (fun c_548_9 => ?_)
          · refine lv_aload_n hx hb dL_law_583 rfl (lv_at hl 13 rfl) ?_
            refine lv_aload hx hb dL_law_584 (lv_at hl 16 rfl) ?_
            refine lv_aload hx hb dL_law_586 (lv_at hl 17 rfl) ?_
            refine lv_iload hx hb dL_law_588 (lv_at hl 7 rfl) ?_
            refine lv_iconst (v := 2) hx hb dL_law_590 (by decide) ?_
            refine hcallS (n := 5) C hE (kL_has l G (fun q => H.size ≤ q) (fun q => s.heap.size ≤ q) al μ τ nT nW hR k 2 hk6 (by decide) (by decide)) wML_L_131 wST_L_has wIN_L wCO_L_has (by decide) rfl ⟨Nat.le_of_ble_eq_true rfl, Nat.le_of_ble_eq_true rfl⟩ hS (fun q h => Nat.le_trans hS.1 h) (fun q h => h) hP rfl hl.1 (Nat.le_of_ble_eq_true rfl) dL_law_591 ⟨by show cc9 + 0 ≤ 709356; omega, by show ss9 + 0 ≤ 6973399; omega⟩ (fun E ce q9 H1 locs1 hx9 _ _ _ _ _ => hx9.elim) (fun v H1 locs1 hv hk hS => ?_)
            have hP := hP.old hk
            have hC := hC.old hk
            subst hv
            refine lv_if_ne (tgt := 601) hx hb dL_law_594 (by decide) (fun c_594_10 => ?_) (fun c_594_10 => ?_)
            · refine lv_iconst (v := 0) hx hb dL_law_601 (by decide) ?_
              refine lv_istore (lv' := [(27, .int 0), (26, .int 0), (18, .int z9), (19, .int kd), (20, .int (nI y)), (21, .int (nI i)), (22, .int (nI r)), (23, .int (nI h)), (24, .int (nI k)), (25, .int (nI u)), (16, .int 1), (17, .int tn), (0, .ref b), (1, .ref a0), (2, .ref (al 0)), (3, .ref (al 1)), (4, .ref (al 2)), (5, .ref (al 3)), (6, .ref (al 4)), (7, .ref (al 5)), (8, .ref (al 6)), (9, .ref (al 7)), (10, .ref (al 8)), (11, .ref (al 9)), (12, .ref (al 10)), (13, .ref (al 11)), (14, .ref (al 12)), (15, .ref (al 13))]) hx hb dL_law_602 hl (by decide) rfl (fun ls hl => ?_)
              refine lv_aload_n hx hb dL_law_604 rfl (lv_at hl 13 rfl) ?_
              refine lv_iconst (v := 1) hx hb dL_law_605 (by decide) ?_
              refine lv_iload hx hb dL_law_606 (lv_at hl 8 rfl) ?_
              refine lv_iload hx hb dL_law_608 (lv_at hl 1 rfl) ?_
              refine lv_if_eq (tgt := 617) hx hb dL_law_610 (by decide) (fun c_610_11 => ?_) (fun c_610_11 => ?_)
              · refine lv_iconst (v := 0) hx hb dL_law_617 (by decide) ?_
                refine lv_iconst (v := 0) hx hb dL_law_618 (by decide) ?_
                have hcm : cm_admitM τ nT (nI k) 0 (thr τ 2) := by
                  unfold cm_admitM
                  rw [ht0]
                  exact Or.inr (Or.inl ⟨k, hk6, rfl, Or.inr (Or.inl (fun z => c_594_10 (by have z2 : cntF (mHas τ (nI k) (nI 2)) 0 nT = 0 := z; rw [z2]; rfl))), rfl⟩)
                refine hcallH (n := 5) C hE hN (hD_admitM l G (AxL s.heap.size al) hl9 a0 τ (thr τ 2) 0 nT nW N (nI k) hcm) wML_L_127 wST_L_does wIN_L wCW_L_does (by decide) rfl ⟨Nat.le_of_ble_eq_true rfl, Nat.le_of_ble_eq_true rfl⟩ hS (fun q h => h.1) (fun q h => AxL.new hP hS.1 q h) hC rfl hl.1 (Nat.le_of_ble_eq_true rfl) dL_law_619 ⟨by show cc9 + 0 + 6 ≤ 709356; omega, by show ss9 + 0 + 250 ≤ 6973399; omega⟩ (fun v H1 locs1 hv hk hS => ?_)
                obtain ⟨rfl, nT', nW', hC⟩ := hv
                have hP := hP.keptL hk (fun q hq h => h.2 hq)
                refine W.eq (g2 := F0 m 622 ls [.int ((-13))]) (congrArg (fun z => F0 m 622 ls [.int z]) (dres2 thr_27)) ?_
                refine lv_iload hx hb dL_law_622 (lv_at hl 0 rfl) ?_
                refine lv_if_eq (tgt := 633) hx hb dL_law_624 (by decide) (fun c_624_12 => ?_) (fun c_624_12 => ?_)
                · refine lv_bipush (v := (-13)) hx hb dL_law_633 (by decide) ?_
                  refine lv_icmp_ne (tgt := 642) hx hb dL_law_635 (by decide) (fun c_635_13 => ?_) (fun c_635_13 => ?_)
                  · exact absurd c_635_13 (by decide)
                  · refine lv_iconst (v := 1) hx hb dL_law_638 (by decide) ?_
                    refine lv_goto (tgt := 643) hx hb dL_law_639 (by decide) ?_
                    refine lv_istore (lv' := [(16, .int 1), (27, .int 0), (26, .int 0), (18, .int z9), (19, .int kd), (20, .int (nI y)), (21, .int (nI i)), (22, .int (nI r)), (23, .int (nI h)), (24, .int (nI k)), (25, .int (nI u)), (17, .int tn), (0, .ref b), (1, .ref a0), (2, .ref (al 0)), (3, .ref (al 1)), (4, .ref (al 2)), (5, .ref (al 3)), (6, .ref (al 4)), (7, .ref (al 5)), (8, .ref (al 6)), (9, .ref (al 7)), (10, .ref (al 8)), (11, .ref (al 9)), (12, .ref (al 10)), (13, .ref (al 11)), (14, .ref (al 12)), (15, .ref (al 13))]) hx hb dL_law_643 hl (by decide) rfl (fun ls hl => ?_)
                    refine lv_iload hx hb dL_law_645 (lv_at hl 1 rfl) ?_
                    refine lv_if_eq (tgt := 719) hx hb dL_law_647 (by decide) (fun c_647_14 => ?_) (fun c_647_14 => ?_)
                    · refine lv_goto (tgt := 2555) hx hb dL_law_719 (by decide) ?_
                      have hRf : LR μ (thr τ 2) nT nW := hR.th
                      exact kk _ _ _ _ _ (show cc9 + 0 + 6 ≤ cc9 + 10 by omega) (show ss9 + 0 + 250 ≤ ss9 + 300 by omega) hS (LINV.of hC hP hRf) (lv_sub hl [0, 11, 5, 12, 13, 14, 15, 16, 17, 18, 19, 20, 21, 22, 23, 24, 25, 26, 27] rfl)
                    · exact absurd c_647_14 (by decide)
                · exact absurd c_624_12 (by decide)
              · exact absurd c_610_11 (by decide)
            · refine lv_iconst (v := 1) hx hb dL_law_597 (by decide) ?_
              refine lv_goto (tgt := 602) hx hb dL_law_598 (by decide) ?_
              refine lv_istore (lv' := [(27, .int 1), (26, .int 0), (18, .int z9), (19, .int kd), (20, .int (nI y)), (21, .int (nI i)), (22, .int (nI r)), (23, .int (nI h)), (24, .int (nI k)), (25, .int (nI u)), (16, .int 1), (17, .int tn), (0, .ref b), (1, .ref a0), (2, .ref (al 0)), (3, .ref (al 1)), (4, .ref (al 2)), (5, .ref (al 3)), (6, .ref (al 4)), (7, .ref (al 5)), (8, .ref (al 6)), (9, .ref (al 7)), (10, .ref (al 8)), (11, .ref (al 9)), (12, .ref (al 10)), (13, .ref (al 11)), (14, .ref (al 12)), (15, .ref (al 13))]) hx hb dL_law_602 hl (by decide) rfl (fun ls hl => ?_)
              refine lv_aload_n hx hb dL_law_604 rfl (lv_at hl 13 rfl) ?_
              refine lv_iconst (v := 1) hx hb dL_law_605 (by decide) ?_
              refine lv_iload hx hb dL_law_606 (lv_at hl 8 rfl) ?_
              refine lv_iload hx hb dL_law_608 (lv_at hl 1 rfl) ?_
              refine lv_if_eq (tgt := 617) hx hb dL_law_610 (by decide) (fun c_610_15 => ?_) (fun c_610_15 => ?_)
              · refine lv_iconst (v := 0) hx hb dL_law_617 (by decide) ?_
                refine lv_iconst (v := 0) hx hb dL_law_618 (by decide) ?_
                have hcm : cm_admitM τ nT (nI k) (nI nT) (mMake τ nT 2 (-1) (nI k) 0) := by
                  unfold cm_admitM
                  rw [ht0]
                  exact Or.inr (Or.inr ⟨k, hk6, rfl, fBel_ge.mpr c_543_4, nIe (b := 0) (Nat.lt_of_le_of_lt (cntF_le _ nT 0) (show nT < 2 ^ 31 by omega)) (by decide) c_594_10, by omega, rfl, rfl⟩)
                refine hcallH (n := 5) C hE hN (hD_admitM l G (AxL s.heap.size al) hl9 a0 τ (mMake τ nT 2 (-1) (nI k) 0) (nI nT) nT nW N (nI k) hcm) wML_L_127 wST_L_does wIN_L wCW_L_does (by decide) rfl ⟨Nat.le_of_ble_eq_true rfl, Nat.le_of_ble_eq_true rfl⟩ hS (fun q h => h.1) (fun q h => AxL.new hP hS.1 q h) hC rfl hl.1 (Nat.le_of_ble_eq_true rfl) dL_law_619 ⟨by show cc9 + 0 + 6 ≤ 709356; omega, by show ss9 + 0 + 250 ≤ 6973399; omega⟩ (fun v H1 locs1 hv hk hS => ?_)
                obtain ⟨rfl, nT', nW', hC⟩ := hv
                have hP := hP.keptL hk (fun q hq h => h.2 hq)
                refine W.eq (g2 := F0 m 622 ls [.int (nI nT)]) (congrArg (fun z => F0 m 622 ls [.int z]) (dres0 (by simp [mMake, up]; exact h27))) ?_
                refine lv_iload hx hb dL_law_622 (lv_at hl 0 rfl) ?_
                refine lv_if_eq (tgt := 633) hx hb dL_law_624 (by decide) (fun c_624_16 => ?_) (fun c_624_16 => ?_)
                · exact absurd c_624_16 (by decide)
                · refine lv_aload_n hx hb dL_law_627 rfl (lv_at hl 14 rfl) ?_
                  refine lv_iconst (v := 0) hx hb dL_law_628 (by decide) ?_
                  refine xiald hx hb hE.1.1 (hP.arr 0 (by decide)) 0 rfl (k := 0) rfl (show _ < 7 by omega) (by decide) dL_law_629 ?_
                  refine W.eq (g2 := F0 m 630 ls [.int (nI nT), .int (nI nT)]) (congrArg (fun z => F0 m 630 ls [.int z, .int (nI nT)]) (lr_n0 hR)) ?_
                  refine lv_goto (tgt := 635) hx hb dL_law_630 (by decide) ?_
                  refine lv_icmp_ne (tgt := 642) hx hb dL_law_635 (by decide) (fun c_635_17 => ?_) (fun c_635_17 => ?_)
                  · exact absurd rfl c_635_17
                  · refine lv_iconst (v := 1) hx hb dL_law_638 (by decide) ?_
                    refine lv_goto (tgt := 643) hx hb dL_law_639 (by decide) ?_
                    refine lv_istore (lv' := [(16, .int 1), (27, .int 1), (26, .int 0), (18, .int z9), (19, .int kd), (20, .int (nI y)), (21, .int (nI i)), (22, .int (nI r)), (23, .int (nI h)), (24, .int (nI k)), (25, .int (nI u)), (17, .int tn), (0, .ref b), (1, .ref a0), (2, .ref (al 0)), (3, .ref (al 1)), (4, .ref (al 2)), (5, .ref (al 3)), (6, .ref (al 4)), (7, .ref (al 5)), (8, .ref (al 6)), (9, .ref (al 7)), (10, .ref (al 8)), (11, .ref (al 9)), (12, .ref (al 10)), (13, .ref (al 11)), (14, .ref (al 12)), (15, .ref (al 13))]) hx hb dL_law_643 hl (by decide) rfl (fun ls hl => ?_)
                    refine lv_iload hx hb dL_law_645 (lv_at hl 1 rfl) ?_
                    refine lv_if_eq (tgt := 719) hx hb dL_law_647 (by decide) (fun c_647_18 => ?_) (fun c_647_18 => ?_)
                    · exact absurd c_647_18 (by decide)
                    · refine lv_aload hx hb dL_law_650 (lv_at hl 17 rfl) ?_
                      refine lv_aload_n hx hb dL_law_652 rfl (lv_at hl 14 rfl) ?_
                      refine lv_iconst (v := 0) hx hb dL_law_653 (by decide) ?_
                      refine xiald hx hb hE.1.1 (hP.arr 0 (by decide)) 0 rfl (k := 0) rfl (show _ < 7 by omega) (by decide) dL_law_654 ?_
                      refine W.eq (g2 := F0 m 655 ls [.int (nI nT), .ref (al 3)]) (congrArg (fun z => F0 m 655 ls [.int z, .ref (al 3)]) (lr_n0 hR)) ?_
                      refine lv_iload hx hb dL_law_655 (lv_at hl 2 rfl) ?_
                      refine lv_if_eq (tgt := 664) hx hb dL_law_657 (by decide) (fun c_657_19 => ?_) (fun c_657_19 => ?_)
                      · refine lv_iconst (v := 2) hx hb dL_law_664 (by decide) ?_
                        refine lv_bipush (v := 16) hx hb dL_law_665 (by decide) ?_
                        refine lv_iload hx hb dL_law_667 (lv_at hl 9 rfl) ?_
                        refine lv_imul hx hb dL_law_669 ?_
                        refine lv_iadd hx hb dL_law_670 ?_
                        refine lv_sipush (v := 128) hx hb dL_law_671 (by decide) ?_
                        refine lv_aload_n hx hb dL_law_674 rfl (lv_at hl 14 rfl) ?_
                        refine lv_iconst (v := 2) hx hb dL_law_675 (by decide) ?_
                        refine xiald hx hb hE.1.1 (hP.arr 0 (by decide)) 0 rfl (k := 2) rfl (show _ < 7 by omega) (by decide) dL_law_676 ?_
                        refine W.eq (g2 := F0 m 677 ls [.int (τ 26 0), .int 128, .int (2 + (16 * (nI k))), .int (nI nT), .ref (al 3)]) (congrArg (fun z => F0 m 677 ls [.int z, .int 128, .int (2 + (16 * (nI k))), .int (nI nT), .ref (al 3)]) (lr_n2 hR)) ?_
                        refine lv_imul hx hb dL_law_677 ?_
                        refine lv_iadd hx hb dL_law_678 ?_
                        refine W.eq (g2 := F0 m 679 ls [.int (nI (2 + 4 * 0 + 16 * k + 128 * D9)), .int (nI nT), .ref (al 3)]) (congrArg (fun z => F0 m 679 ls [.int z, .int (nI nT), .ref (al 3)]) (code_tm (so := 2) eD9)) ?_
                        refine xiast hx hb hE.1.1 hS (hP.arr 3 (by decide)) (hP.oarr 3 (by decide)) 0 rfl (k := nT) rfl (show _ < 60 by omega) (by decide) dL_law_679 (fun H1 locs1 he1 z1 oq1 hS => ?_)
                        have hP := hP.put 3 nT (by decide) he1 oq1
                        have hC := hC.offL (f := 3) (by decide) z1 oq1
                        refine lv_aload hx hb dL_law_680 (lv_at hl 18 rfl) ?_
                        refine lv_aload_n hx hb dL_law_682 rfl (lv_at hl 14 rfl) ?_
                        refine lv_iconst (v := 0) hx hb dL_law_683 (by decide) ?_
                        refine xiald hx hb hE.1.1 (hP.arr 0 (by decide)) 0 rfl (k := 0) rfl (show _ < 7 by omega) (by decide) dL_law_684 ?_
                        rw [show (up μ 3 nT (nI (2 + 4 * 0 + 16 * k + 128 * D9))) 0 0 = μ 0 0 from by simp [up]]
                        refine W.eq (g2 := F0 m 685 ls [.int (nI nT), .ref (al 4)]) (congrArg (fun z => F0 m 685 ls [.int z, .ref (al 4)]) (lr_n0 hR)) ?_
                        refine lv_iload hx hb dL_law_685 (lv_at hl 2 rfl) ?_
                        refine lv_if_eq (tgt := 698) hx hb dL_law_687 (by decide) (fun c_687_20 => ?_) (fun c_687_20 => ?_)
                        · refine lv_iconst (v := 0) hx hb dL_law_698 (by decide) ?_
                          refine xiast hx hb hE.1.1 hS (hP.arr 4 (by decide)) (hP.oarr 4 (by decide)) 0 rfl (k := nT) rfl (show _ < 60 by omega) (by decide) dL_law_699 (fun H1 locs1 he1 z1 oq1 hS => ?_)
                          have hP := hP.put 4 nT (by decide) he1 oq1
                          have hC := hC.offL (f := 4) (by decide) z1 oq1
                          refine lv_aload_n hx hb dL_law_700 rfl (lv_at hl 14 rfl) ?_
                          refine lv_iconst (v := 5) hx hb dL_law_701 (by decide) ?_
                          refine lv_dup2_11 hx hb dL_law_702 rfl rfl ?_
                          refine xiald hx hb hE.1.1 (hP.arr 0 (by decide)) 0 rfl (k := 5) rfl (show _ < 7 by omega) (by decide) dL_law_703 ?_
                          rw [show (up (up μ 3 nT (nI (2 + 4 * 0 + 16 * k + 128 * D9))) 4 nT 0) 0 5 = μ 0 5 from by simp [up]]
                          refine W.eq (g2 := F0 m 704 ls [.int (τ 25 0), .int 5, .ref (al 0)]) (congrArg (fun z => F0 m 704 ls [.int z, .int 5, .ref (al 0)]) (lr_n5 hR)) ?_
                          refine lv_aload hx hb dL_law_704 (lv_at hl 18 rfl) ?_
                          refine lv_aload_n hx hb dL_law_706 rfl (lv_at hl 14 rfl) ?_
                          refine lv_iconst (v := 0) hx hb dL_law_707 (by decide) ?_
                          refine xiald hx hb hE.1.1 (hP.arr 0 (by decide)) 0 rfl (k := 0) rfl (show _ < 7 by omega) (by decide) dL_law_708 ?_
                          rw [show (up (up μ 3 nT (nI (2 + 4 * 0 + 16 * k + 128 * D9))) 4 nT 0) 0 0 = μ 0 0 from by simp [up]]
                          refine W.eq (g2 := F0 m 709 ls [.int (nI nT), .ref (al 4), .int (τ 25 0), .int 5, .ref (al 0)]) (congrArg (fun z => F0 m 709 ls [.int z, .ref (al 4), .int (τ 25 0), .int 5, .ref (al 0)]) (lr_n0 hR)) ?_
                          refine xiald hx hb hE.1.1 (hP.arr 4 (by decide)) 0 rfl (k := nT) rfl (show _ < 60 by omega) (by decide) dL_law_709 ?_
                          rw [show (up (up μ 3 nT (nI (2 + 4 * 0 + 16 * k + 128 * D9))) 4 nT 0) 4 nT = 0 from by simp [up]]
                          refine lv_iadd hx hb dL_law_710 ?_
                          refine xiast hx hb hE.1.1 hS (hP.arr 0 (by decide)) (hP.oarr 0 (by decide)) 0 rfl (k := 5) rfl (show _ < 7 by omega) (by decide) dL_law_711 (fun H1 locs1 he1 z1 oq1 hS => ?_)
                          have hP := hP.put 0 5 (by decide) he1 oq1
                          have hC := hC.offL (f := 0) (by decide) z1 oq1
                          refine lv_aload_n hx hb dL_law_712 rfl (lv_at hl 14 rfl) ?_
                          refine lv_iconst (v := 0) hx hb dL_law_713 (by decide) ?_
                          refine lv_dup2_11 hx hb dL_law_714 rfl rfl ?_
                          refine xiald hx hb hE.1.1 (hP.arr 0 (by decide)) 0 rfl (k := 0) rfl (show _ < 7 by omega) (by decide) dL_law_715 ?_
                          rw [show (up (up (up μ 3 nT (nI (2 + 4 * 0 + 16 * k + 128 * D9))) 4 nT 0) 0 5 ((τ 25 0) + 0)) 0 0 = μ 0 0 from by simp [up]]
                          refine W.eq (g2 := F0 m 716 ls [.int (nI nT), .int 0, .ref (al 0)]) (congrArg (fun z => F0 m 716 ls [.int z, .int 0, .ref (al 0)]) (lr_n0 hR)) ?_
                          refine lv_iconst (v := 1) hx hb dL_law_716 (by decide) ?_
                          refine lv_iadd hx hb dL_law_717 ?_
                          refine W.eq (g2 := F0 m 718 ls [.int (nI (nT + 1)), .int 0, .ref (al 0)]) (congrArg (fun z => F0 m 718 ls [.int z, .int 0, .ref (al 0)]) (nI_1 nT)) ?_
                          refine xiast hx hb hE.1.1 hS (hP.arr 0 (by decide)) (hP.oarr 0 (by decide)) 0 rfl (k := 0) rfl (show _ < 7 by omega) (by decide) dL_law_718 (fun H1 locs1 he1 z1 oq1 hS => ?_)
                          have hP := hP.put 0 0 (by decide) he1 oq1
                          have hC := hC.offL (f := 0) (by decide) z1 oq1
                          refine lv_goto (tgt := 2555) hx hb dL_law_719 (by decide) ?_
                          have hRf : LR (up (up (up (up μ 3 nT (nI (2 + 4 * 0 + 16 * k + 128 * D9))) 4 nT 0) 0 5 ((τ 25 0) + 0)) 0 0 (nI (nT + 1))) (mMake τ nT 2 (-1) (nI k) 0) (nT + 1) nW := hR.make (so := 2) (ho := 0) (me := k) (d := D9) (by decide) (by decide) (by omega) hD9 (fun z => absurd z (by decide)) (fun _ => rfl) eD9 (by decide) hZ.1 hn6
                          exact kk _ _ _ _ _ (show cc9 + 0 + 6 ≤ cc9 + 10 by omega) (show ss9 + 0 + 250 ≤ ss9 + 300 by omega) hS (LINV.of hC hP hRf) (lv_sub hl [0, 11, 5, 12, 13, 14, 15, 16, 17, 18, 19, 20, 21, 22, 23, 24, 25, 26, 27] rfl)
                        · exact absurd c_687_20 (by decide)
                      · exact absurd c_657_19 (by decide)
              · exact absurd c_610_15 (by decide)
          · exact absurd c_548_9 (by decide)
      · refine lv_iconst (v := 1) hx hb dL_law_528 (by decide) ?_
        refine lv_goto (tgt := 533) hx hb dL_law_529 (by decide) ?_
        refine lv_istore (lv' := [(26, .int 1), (18, .int z9), (19, .int kd), (20, .int (nI y)), (21, .int (nI i)), (22, .int (nI r)), (23, .int (nI h)), (24, .int (nI k)), (25, .int (nI u)), (16, .int 1), (17, .int tn), (0, .ref b), (1, .ref a0), (2, .ref (al 0)), (3, .ref (al 1)), (4, .ref (al 2)), (5, .ref (al 3)), (6, .ref (al 4)), (7, .ref (al 5)), (8, .ref (al 6)), (9, .ref (al 7)), (10, .ref (al 8)), (11, .ref (al 9)), (12, .ref (al 10)), (13, .ref (al 11)), (14, .ref (al 12)), (15, .ref (al 13))]) hx hb dL_law_533 hl (by decide) rfl (fun ls hl => ?_)
        refine lv_aload hx hb dL_law_535 (lv_at hl 15 rfl) ?_
        refine lv_iload hx hb dL_law_537 (lv_at hl 7 rfl) ?_
        refine xiald hx hb hE.1.1 (hP.arr 2 (by decide)) 0 rfl (k := k) rfl (show _ < 6 by omega) (by decide) dL_law_539 ?_
        refine W.eq (g2 := F0 m 540 ls [.int (τ 2 k)]) (congrArg (fun z => F0 m 540 ls [.int z]) (lr_l hR hk6)) ?_
        refine lv_aload_n hx hb dL_law_540 rfl (lv_at hl 13 rfl) ?_
        refine lv_iconst (v := 2) hx hb dL_law_541 (by decide) ?_
        refine xiald hx hb hE.1.1 (hP.arr 0 (by decide)) 0 rfl (k := 2) rfl (show _ < 7 by omega) (by decide) dL_law_542 ?_
        refine W.eq (g2 := F0 m 543 ls [.int (τ 26 0), .int (τ 2 k)]) (congrArg (fun z => F0 m 543 ls [.int z, .int (τ 2 k)]) (lr_n2 hR)) ?_
        refine lv_icmp_lt (tgt := 601) hx hb dL_law_543 (by decide) (fun c_543_21 => ?_) (fun c_543_21 => ?_)
        · refine lv_iconst (v := 0) hx hb dL_law_601 (by decide) ?_
          refine lv_istore (lv' := [(27, .int 0), (26, .int 1), (18, .int z9), (19, .int kd), (20, .int (nI y)), (21, .int (nI i)), (22, .int (nI r)), (23, .int (nI h)), (24, .int (nI k)), (25, .int (nI u)), (16, .int 1), (17, .int tn), (0, .ref b), (1, .ref a0), (2, .ref (al 0)), (3, .ref (al 1)), (4, .ref (al 2)), (5, .ref (al 3)), (6, .ref (al 4)), (7, .ref (al 5)), (8, .ref (al 6)), (9, .ref (al 7)), (10, .ref (al 8)), (11, .ref (al 9)), (12, .ref (al 10)), (13, .ref (al 11)), (14, .ref (al 12)), (15, .ref (al 13))]) hx hb dL_law_602 hl (by decide) rfl (fun ls hl => ?_)
          refine lv_aload_n hx hb dL_law_604 rfl (lv_at hl 13 rfl) ?_
          refine lv_iconst (v := 1) hx hb dL_law_605 (by decide) ?_
          refine lv_iload hx hb dL_law_606 (lv_at hl 8 rfl) ?_
          refine lv_iload hx hb dL_law_608 (lv_at hl 1 rfl) ?_
          refine lv_if_eq (tgt := 617) hx hb dL_law_610 (by decide) (fun c_610_22 => ?_) (fun c_610_22 => ?_)
          · exact absurd c_610_22 (by decide)
          · refine lv_iconst (v := 1) hx hb dL_law_613 (by decide) ?_
            refine lv_goto (tgt := 618) hx hb dL_law_614 (by decide) ?_
            refine lv_iconst (v := 0) hx hb dL_law_618 (by decide) ?_
            have hcm : cm_admitG τ nT (nI k) 0 (thr τ 2) := by
              unfold cm_admitG
              rw [ht0]
              exact Or.inr (Or.inl ⟨k, hk6, rfl, Or.inl (fBel_lt.mpr c_543_21), rfl⟩)
            refine hcallH (n := 5) C hE hN (hD_admitG l G (AxL s.heap.size al) hl9 a0 τ (thr τ 2) 0 nT nW N (nI k) hcm) wML_L_127 wST_L_does wIN_L wCW_L_does (by decide) rfl ⟨Nat.le_of_ble_eq_true rfl, Nat.le_of_ble_eq_true rfl⟩ hS (fun q h => h.1) (fun q h => AxL.new hP hS.1 q h) hC rfl hl.1 (Nat.le_of_ble_eq_true rfl) dL_law_619 ⟨by show cc9 + 6 ≤ 709356; omega, by show ss9 + 250 ≤ 6973399; omega⟩ (fun v H1 locs1 hv hk hS => ?_)
            obtain ⟨rfl, nT', nW', hC⟩ := hv
            have hP := hP.keptL hk (fun q hq h => h.2 hq)
            refine W.eq (g2 := F0 m 622 ls [.int ((-13))]) (congrArg (fun z => F0 m 622 ls [.int z]) (dres2 thr_27)) ?_
            refine lv_iload hx hb dL_law_622 (lv_at hl 0 rfl) ?_
            refine lv_if_eq (tgt := 633) hx hb dL_law_624 (by decide) (fun c_624_23 => ?_) (fun c_624_23 => ?_)
            · refine lv_bipush (v := (-13)) hx hb dL_law_633 (by decide) ?_
              refine lv_icmp_ne (tgt := 642) hx hb dL_law_635 (by decide) (fun c_635_24 => ?_) (fun c_635_24 => ?_)
              · exact absurd c_635_24 (by decide)
              · refine lv_iconst (v := 1) hx hb dL_law_638 (by decide) ?_
                refine lv_goto (tgt := 643) hx hb dL_law_639 (by decide) ?_
                refine lv_istore (lv' := [(16, .int 1), (27, .int 0), (26, .int 1), (18, .int z9), (19, .int kd), (20, .int (nI y)), (21, .int (nI i)), (22, .int (nI r)), (23, .int (nI h)), (24, .int (nI k)), (25, .int (nI u)), (17, .int tn), (0, .ref b), (1, .ref a0), (2, .ref (al 0)), (3, .ref (al 1)), (4, .ref (al 2)), (5, .ref (al 3)), (6, .ref (al 4)), (7, .ref (al 5)), (8, .ref (al 6)), (9, .ref (al 7)), (10, .ref (al 8)), (11, .ref (al 9)), (12, .ref (al 10)), (13, .ref (al 11)), (14, .ref (al 12)), (15, .ref (al 13))]) hx hb dL_law_643 hl (by decide) rfl (fun ls hl => ?_)
                refine lv_iload hx hb dL_law_645 (lv_at hl 1 rfl) ?_
                refine lv_if_eq (tgt := 719) hx hb dL_law_647 (by decide) (fun c_647_25 => ?_) (fun c_647_25 => ?_)
                · refine lv_goto (tgt := 2555) hx hb dL_law_719 (by decide) ?_
                  have hRf : LR μ (thr τ 2) nT nW := hR.th
                  exact kk _ _ _ _ _ (show cc9 + 6 ≤ cc9 + 10 by omega) (show ss9 + 250 ≤ ss9 + 300 by omega) hS (LINV.of hC hP hRf) (lv_sub hl [0, 11, 5, 12, 13, 14, 15, 16, 17, 18, 19, 20, 21, 22, 23, 24, 25, 26, 27] rfl)
                · exact absurd c_647_25 (by decide)
            · exact absurd c_624_23 (by decide)
        · refine lv_iload hx hb dL_law_546 (lv_at hl 0 rfl) ?_
          refine lv_if_eq (tgt := 583) hx hb dL_law_548 (by decide) (fun c_548_26 => ?_) (fun c_548_26 => ?_)
          · exact absurd c_548_26 (by decide)
          · refine lv_aload_n hx hb dL_law_551 rfl (lv_at hl 13 rfl) ?_
            refine lv_aload hx hb dL_law_552 (lv_at hl 16 rfl) ?_
            refine lv_aload hx hb dL_law_554 (lv_at hl 17 rfl) ?_
            refine lv_iload hx hb dL_law_556 (lv_at hl 7 rfl) ?_
            refine lv_iconst (v := 2) hx hb dL_law_558 (by decide) ?_
            refine hcallS (n := 5) C hE (kL_has l G (fun q => H.size ≤ q) (fun q => s.heap.size ≤ q) al μ τ nT nW hR k 2 hk6 (by decide) (by decide)) wML_L_131 wST_L_has wIN_L wCO_L_has (by decide) rfl ⟨Nat.le_of_ble_eq_true rfl, Nat.le_of_ble_eq_true rfl⟩ hS (fun q h => Nat.le_trans hS.1 h) (fun q h => h) hP rfl hl.1 (Nat.le_of_ble_eq_true rfl) dL_law_559 ⟨by show cc9 + 0 ≤ 709356; omega, by show ss9 + 0 ≤ 6973399; omega⟩ (fun E ce q9 H1 locs1 hx9 _ _ _ _ _ => hx9.elim) (fun v H1 locs1 hv hk hS => ?_)
            have hP := hP.old hk
            have hC := hC.old hk
            subst hv
            refine lv_if_le (tgt := 601) hx hb dL_law_562 (by decide) (fun c_562_27 => ?_) (fun c_562_27 => ?_)
            · refine lv_iconst (v := 0) hx hb dL_law_601 (by decide) ?_
              refine lv_istore (lv' := [(27, .int 0), (26, .int 1), (18, .int z9), (19, .int kd), (20, .int (nI y)), (21, .int (nI i)), (22, .int (nI r)), (23, .int (nI h)), (24, .int (nI k)), (25, .int (nI u)), (16, .int 1), (17, .int tn), (0, .ref b), (1, .ref a0), (2, .ref (al 0)), (3, .ref (al 1)), (4, .ref (al 2)), (5, .ref (al 3)), (6, .ref (al 4)), (7, .ref (al 5)), (8, .ref (al 6)), (9, .ref (al 7)), (10, .ref (al 8)), (11, .ref (al 9)), (12, .ref (al 10)), (13, .ref (al 11)), (14, .ref (al 12)), (15, .ref (al 13))]) hx hb dL_law_602 hl (by decide) rfl (fun ls hl => ?_)
              refine lv_aload_n hx hb dL_law_604 rfl (lv_at hl 13 rfl) ?_
              refine lv_iconst (v := 1) hx hb dL_law_605 (by decide) ?_
              refine lv_iload hx hb dL_law_606 (lv_at hl 8 rfl) ?_
              refine lv_iload hx hb dL_law_608 (lv_at hl 1 rfl) ?_
              refine lv_if_eq (tgt := 617) hx hb dL_law_610 (by decide) (fun c_610_28 => ?_) (fun c_610_28 => ?_)
              · exact absurd c_610_28 (by decide)
              · refine lv_iconst (v := 1) hx hb dL_law_613 (by decide) ?_
                refine lv_goto (tgt := 618) hx hb dL_law_614 (by decide) ?_
                refine lv_iconst (v := 0) hx hb dL_law_618 (by decide) ?_
                have hcm : cm_admitG τ nT (nI k) 0 (thr τ 2) := by
                  unfold cm_admitG
                  rw [ht0]
                  exact Or.inr (Or.inl ⟨k, hk6, rfl, Or.inr (Or.inl (fun z => z.1 (nI_le0 (Nat.lt_of_le_of_lt (cntF_le _ nT 0) (show nT < 2 ^ 31 by omega)) c_562_27))), rfl⟩)
                refine hcallH (n := 5) C hE hN (hD_admitG l G (AxL s.heap.size al) hl9 a0 τ (thr τ 2) 0 nT nW N (nI k) hcm) wML_L_127 wST_L_does wIN_L wCW_L_does (by decide) rfl ⟨Nat.le_of_ble_eq_true rfl, Nat.le_of_ble_eq_true rfl⟩ hS (fun q h => h.1) (fun q h => AxL.new hP hS.1 q h) hC rfl hl.1 (Nat.le_of_ble_eq_true rfl) dL_law_619 ⟨by show cc9 + 0 + 6 ≤ 709356; omega, by show ss9 + 0 + 250 ≤ 6973399; omega⟩ (fun v H1 locs1 hv hk hS => ?_)
                obtain ⟨rfl, nT', nW', hC⟩ := hv
                have hP := hP.keptL hk (fun q hq h => h.2 hq)
                refine W.eq (g2 := F0 m 622 ls [.int ((-13))]) (congrArg (fun z => F0 m 622 ls [.int z]) (dres2 thr_27)) ?_
                refine lv_iload hx hb dL_law_622 (lv_at hl 0 rfl) ?_
                refine lv_if_eq (tgt := 633) hx hb dL_law_624 (by decide) (fun c_624_29 => ?_) (fun c_624_29 => ?_)
                · refine lv_bipush (v := (-13)) hx hb dL_law_633 (by decide) ?_
                  refine lv_icmp_ne (tgt := 642) hx hb dL_law_635 (by decide) (fun c_635_30 => ?_) (fun c_635_30 => ?_)
                  · exact absurd c_635_30 (by decide)
                  · refine lv_iconst (v := 1) hx hb dL_law_638 (by decide) ?_
                    refine lv_goto (tgt := 643) hx hb dL_law_639 (by decide) ?_
                    refine lv_istore (lv' := [(16, .int 1), (27, .int 0), (26, .int 1), (18, .int z9), (19, .int kd), (20, .int (nI y)), (21, .int (nI i)), (22, .int (nI r)), (23, .int (nI h)), (24, .int (nI k)), (25, .int (nI u)), (17, .int tn), (0, .ref b), (1, .ref a0), (2, .ref (al 0)), (3, .ref (al 1)), (4, .ref (al 2)), (5, .ref (al 3)), (6, .ref (al 4)), (7, .ref (al 5)), (8, .ref (al 6)), (9, .ref (al 7)), (10, .ref (al 8)), (11, .ref (al 9)), (12, .ref (al 10)), (13, .ref (al 11)), (14, .ref (al 12)), (15, .ref (al 13))]) hx hb dL_law_643 hl (by decide) rfl (fun ls hl => ?_)
                    refine lv_iload hx hb dL_law_645 (lv_at hl 1 rfl) ?_
                    refine lv_if_eq (tgt := 719) hx hb dL_law_647 (by decide) (fun c_647_31 => ?_) (fun c_647_31 => ?_)
                    · refine lv_goto (tgt := 2555) hx hb dL_law_719 (by decide) ?_
                      have hRf : LR μ (thr τ 2) nT nW := hR.th
                      exact kk _ _ _ _ _ (show cc9 + 0 + 6 ≤ cc9 + 10 by omega) (show ss9 + 0 + 250 ≤ ss9 + 300 by omega) hS (LINV.of hC hP hRf) (lv_sub hl [0, 11, 5, 12, 13, 14, 15, 16, 17, 18, 19, 20, 21, 22, 23, 24, 25, 26, 27] rfl)
                    · exact absurd c_647_31 (by decide)
                · exact absurd c_624_29 (by decide)
            · refine lv_aload_n hx hb dL_law_565 rfl (lv_at hl 13 rfl) ?_
              refine lv_aload hx hb dL_law_566 (lv_at hl 16 rfl) ?_
              refine lv_aload hx hb dL_law_568 (lv_at hl 17 rfl) ?_
              refine lv_iload hx hb dL_law_570 (lv_at hl 7 rfl) ?_
              refine lv_iconst (v := 3) hx hb dL_law_572 (by decide) ?_
              refine hcallS (n := 5) C hE (kL_has l G (fun q => H1.size ≤ q) (fun q => s.heap.size ≤ q) al μ τ nT nW hR k 3 hk6 (by decide) (by decide)) wML_L_131 wST_L_has wIN_L wCO_L_has (by decide) rfl ⟨Nat.le_of_ble_eq_true rfl, Nat.le_of_ble_eq_true rfl⟩ hS (fun q h => Nat.le_trans hS.1 h) (fun q h => h) hP rfl hl.1 (Nat.le_of_ble_eq_true rfl) dL_law_573 ⟨by show cc9 + 0 + 0 ≤ 709356; omega, by show ss9 + 0 + 0 ≤ 6973399; omega⟩ (fun E ce q9 H1 locs1 hx9 _ _ _ _ _ => hx9.elim) (fun v H1 locs1 hv hk hS => ?_)
              have hP := hP.old hk
              have hC := hC.old hk
              subst hv
              refine lv_iconst (v := 2) hx hb dL_law_576 (by decide) ?_
              refine lv_icmp_ge (tgt := 601) hx hb dL_law_577 (by decide) (fun c_577_32 => ?_) (fun c_577_32 => ?_)
              · refine lv_iconst (v := 0) hx hb dL_law_601 (by decide) ?_
                refine lv_istore (lv' := [(27, .int 0), (26, .int 1), (18, .int z9), (19, .int kd), (20, .int (nI y)), (21, .int (nI i)), (22, .int (nI r)), (23, .int (nI h)), (24, .int (nI k)), (25, .int (nI u)), (16, .int 1), (17, .int tn), (0, .ref b), (1, .ref a0), (2, .ref (al 0)), (3, .ref (al 1)), (4, .ref (al 2)), (5, .ref (al 3)), (6, .ref (al 4)), (7, .ref (al 5)), (8, .ref (al 6)), (9, .ref (al 7)), (10, .ref (al 8)), (11, .ref (al 9)), (12, .ref (al 10)), (13, .ref (al 11)), (14, .ref (al 12)), (15, .ref (al 13))]) hx hb dL_law_602 hl (by decide) rfl (fun ls hl => ?_)
                refine lv_aload_n hx hb dL_law_604 rfl (lv_at hl 13 rfl) ?_
                refine lv_iconst (v := 1) hx hb dL_law_605 (by decide) ?_
                refine lv_iload hx hb dL_law_606 (lv_at hl 8 rfl) ?_
                refine lv_iload hx hb dL_law_608 (lv_at hl 1 rfl) ?_
                refine lv_if_eq (tgt := 617) hx hb dL_law_610 (by decide) (fun c_610_33 => ?_) (fun c_610_33 => ?_)
                · exact absurd c_610_33 (by decide)
                · refine lv_iconst (v := 1) hx hb dL_law_613 (by decide) ?_
                  refine lv_goto (tgt := 618) hx hb dL_law_614 (by decide) ?_
                  refine lv_iconst (v := 0) hx hb dL_law_618 (by decide) ?_
                  have hcm : cm_admitG τ nT (nI k) 0 (thr τ 2) := by
                    unfold cm_admitG
                    rw [ht0]
                    exact Or.inr (Or.inl ⟨k, hk6, rfl, Or.inr (Or.inl (fun z => absurd z.2 (Nat.not_lt.mpr ((nI_leI (a := 2) (by decide) (Nat.lt_of_le_of_lt (cntF_le _ nT 0) (show nT < 2 ^ 31 by omega))).mp c_577_32)))), rfl⟩)
                  refine hcallH (n := 5) C hE hN (hD_admitG l G (AxL s.heap.size al) hl9 a0 τ (thr τ 2) 0 nT nW N (nI k) hcm) wML_L_127 wST_L_does wIN_L wCW_L_does (by decide) rfl ⟨Nat.le_of_ble_eq_true rfl, Nat.le_of_ble_eq_true rfl⟩ hS (fun q h => h.1) (fun q h => AxL.new hP hS.1 q h) hC rfl hl.1 (Nat.le_of_ble_eq_true rfl) dL_law_619 ⟨by show cc9 + 0 + 0 + 6 ≤ 709356; omega, by show ss9 + 0 + 0 + 250 ≤ 6973399; omega⟩ (fun v H1 locs1 hv hk hS => ?_)
                  obtain ⟨rfl, nT', nW', hC⟩ := hv
                  have hP := hP.keptL hk (fun q hq h => h.2 hq)
                  refine W.eq (g2 := F0 m 622 ls [.int ((-13))]) (congrArg (fun z => F0 m 622 ls [.int z]) (dres2 thr_27)) ?_
                  refine lv_iload hx hb dL_law_622 (lv_at hl 0 rfl) ?_
                  refine lv_if_eq (tgt := 633) hx hb dL_law_624 (by decide) (fun c_624_34 => ?_) (fun c_624_34 => ?_)
                  · refine lv_bipush (v := (-13)) hx hb dL_law_633 (by decide) ?_
                    refine lv_icmp_ne (tgt := 642) hx hb dL_law_635 (by decide) (fun c_635_35 => ?_) (fun c_635_35 => ?_)
                    · exact absurd c_635_35 (by decide)
                    · refine lv_iconst (v := 1) hx hb dL_law_638 (by decide) ?_
                      refine lv_goto (tgt := 643) hx hb dL_law_639 (by decide) ?_
                      refine lv_istore (lv' := [(16, .int 1), (27, .int 0), (26, .int 1), (18, .int z9), (19, .int kd), (20, .int (nI y)), (21, .int (nI i)), (22, .int (nI r)), (23, .int (nI h)), (24, .int (nI k)), (25, .int (nI u)), (17, .int tn), (0, .ref b), (1, .ref a0), (2, .ref (al 0)), (3, .ref (al 1)), (4, .ref (al 2)), (5, .ref (al 3)), (6, .ref (al 4)), (7, .ref (al 5)), (8, .ref (al 6)), (9, .ref (al 7)), (10, .ref (al 8)), (11, .ref (al 9)), (12, .ref (al 10)), (13, .ref (al 11)), (14, .ref (al 12)), (15, .ref (al 13))]) hx hb dL_law_643 hl (by decide) rfl (fun ls hl => ?_)
                      refine lv_iload hx hb dL_law_645 (lv_at hl 1 rfl) ?_
                      refine lv_if_eq (tgt := 719) hx hb dL_law_647 (by decide) (fun c_647_36 => ?_) (fun c_647_36 => ?_)
                      · refine lv_goto (tgt := 2555) hx hb dL_law_719 (by decide) ?_
                        have hRf : LR μ (thr τ 2) nT nW := hR.th
                        exact kk _ _ _ _ _ (show cc9 + 0 + 0 + 6 ≤ cc9 + 10 by omega) (show ss9 + 0 + 0 + 250 ≤ ss9 + 300 by omega) hS (LINV.of hC hP hRf) (lv_sub hl [0, 11, 5, 12, 13, 14, 15, 16, 17, 18, 19, 20, 21, 22, 23, 24, 25, 26, 27] rfl)
                      · exact absurd c_647_36 (by decide)
                  · exact absurd c_624_34 (by decide)
              · refine lv_goto (tgt := 597) hx hb dL_law_580 (by decide) ?_
                refine lv_iconst (v := 1) hx hb dL_law_597 (by decide) ?_
                refine lv_goto (tgt := 602) hx hb dL_law_598 (by decide) ?_
                refine lv_istore (lv' := [(27, .int 1), (26, .int 1), (18, .int z9), (19, .int kd), (20, .int (nI y)), (21, .int (nI i)), (22, .int (nI r)), (23, .int (nI h)), (24, .int (nI k)), (25, .int (nI u)), (16, .int 1), (17, .int tn), (0, .ref b), (1, .ref a0), (2, .ref (al 0)), (3, .ref (al 1)), (4, .ref (al 2)), (5, .ref (al 3)), (6, .ref (al 4)), (7, .ref (al 5)), (8, .ref (al 6)), (9, .ref (al 7)), (10, .ref (al 8)), (11, .ref (al 9)), (12, .ref (al 10)), (13, .ref (al 11)), (14, .ref (al 12)), (15, .ref (al 13))]) hx hb dL_law_602 hl (by decide) rfl (fun ls hl => ?_)
                refine lv_aload_n hx hb dL_law_604 rfl (lv_at hl 13 rfl) ?_
                refine lv_iconst (v := 1) hx hb dL_law_605 (by decide) ?_
                refine lv_iload hx hb dL_law_606 (lv_at hl 8 rfl) ?_
                refine lv_iload hx hb dL_law_608 (lv_at hl 1 rfl) ?_
                refine lv_if_eq (tgt := 617) hx hb dL_law_610 (by decide) (fun c_610_37 => ?_) (fun c_610_37 => ?_)
                · exact absurd c_610_37 (by decide)
                · refine lv_iconst (v := 1) hx hb dL_law_613 (by decide) ?_
                  refine lv_goto (tgt := 618) hx hb dL_law_614 (by decide) ?_
                  refine lv_iconst (v := 0) hx hb dL_law_618 (by decide) ?_
                  have hcm : cm_admitG τ nT (nI k) (nI nT) (mMake τ nT 3 (-1) (nI k) (τ 1 0 / 2)) := by
                    unfold cm_admitG
                    rw [ht0]
                    exact Or.inr (Or.inr ⟨k, hk6, rfl, fBel_ge.mpr c_543_21, ⟨fun z => c_562_27 (by have z2 : cntF (mHas τ (nI k) (nI 2)) 0 nT = 0 := z; rw [z2]; decide), (nI_ltI (b := 2) (Nat.lt_of_le_of_lt (cntF_le _ nT 0) (show nT < 2 ^ 31 by omega)) (by decide)).mp (Int32.not_le.mp c_577_32)⟩, by omega, rfl, rfl⟩)
                  refine hcallH (n := 5) C hE hN (hD_admitG l G (AxL s.heap.size al) hl9 a0 τ (mMake τ nT 3 (-1) (nI k) (τ 1 0 / 2)) (nI nT) nT nW N (nI k) hcm) wML_L_127 wST_L_does wIN_L wCW_L_does (by decide) rfl ⟨Nat.le_of_ble_eq_true rfl, Nat.le_of_ble_eq_true rfl⟩ hS (fun q h => h.1) (fun q h => AxL.new hP hS.1 q h) hC rfl hl.1 (Nat.le_of_ble_eq_true rfl) dL_law_619 ⟨by show cc9 + 0 + 0 + 6 ≤ 709356; omega, by show ss9 + 0 + 0 + 250 ≤ 6973399; omega⟩ (fun v H1 locs1 hv hk hS => ?_)
                  obtain ⟨rfl, nT', nW', hC⟩ := hv
                  have hP := hP.keptL hk (fun q hq h => h.2 hq)
                  refine W.eq (g2 := F0 m 622 ls [.int (nI nT)]) (congrArg (fun z => F0 m 622 ls [.int z]) (dres0 (by simp [mMake, up]; exact h27))) ?_
                  refine lv_iload hx hb dL_law_622 (lv_at hl 0 rfl) ?_
                  refine lv_if_eq (tgt := 633) hx hb dL_law_624 (by decide) (fun c_624_38 => ?_) (fun c_624_38 => ?_)
                  · exact absurd c_624_38 (by decide)
                  · refine lv_aload_n hx hb dL_law_627 rfl (lv_at hl 14 rfl) ?_
                    refine lv_iconst (v := 0) hx hb dL_law_628 (by decide) ?_
                    refine xiald hx hb hE.1.1 (hP.arr 0 (by decide)) 0 rfl (k := 0) rfl (show _ < 7 by omega) (by decide) dL_law_629 ?_
                    refine W.eq (g2 := F0 m 630 ls [.int (nI nT), .int (nI nT)]) (congrArg (fun z => F0 m 630 ls [.int z, .int (nI nT)]) (lr_n0 hR)) ?_
                    refine lv_goto (tgt := 635) hx hb dL_law_630 (by decide) ?_
                    refine lv_icmp_ne (tgt := 642) hx hb dL_law_635 (by decide) (fun c_635_39 => ?_) (fun c_635_39 => ?_)
                    · exact absurd rfl c_635_39
                    · refine lv_iconst (v := 1) hx hb dL_law_638 (by decide) ?_
                      refine lv_goto (tgt := 643) hx hb dL_law_639 (by decide) ?_
                      refine lv_istore (lv' := [(16, .int 1), (27, .int 1), (26, .int 1), (18, .int z9), (19, .int kd), (20, .int (nI y)), (21, .int (nI i)), (22, .int (nI r)), (23, .int (nI h)), (24, .int (nI k)), (25, .int (nI u)), (17, .int tn), (0, .ref b), (1, .ref a0), (2, .ref (al 0)), (3, .ref (al 1)), (4, .ref (al 2)), (5, .ref (al 3)), (6, .ref (al 4)), (7, .ref (al 5)), (8, .ref (al 6)), (9, .ref (al 7)), (10, .ref (al 8)), (11, .ref (al 9)), (12, .ref (al 10)), (13, .ref (al 11)), (14, .ref (al 12)), (15, .ref (al 13))]) hx hb dL_law_643 hl (by decide) rfl (fun ls hl => ?_)
                      refine lv_iload hx hb dL_law_645 (lv_at hl 1 rfl) ?_
                      refine lv_if_eq (tgt := 719) hx hb dL_law_647 (by decide) (fun c_647_40 => ?_) (fun c_647_40 => ?_)
                      · exact absurd c_647_40 (by decide)
                      · refine lv_aload hx hb dL_law_650 (lv_at hl 17 rfl) ?_
                        refine lv_aload_n hx hb dL_law_652 rfl (lv_at hl 14 rfl) ?_
                        refine lv_iconst (v := 0) hx hb dL_law_653 (by decide) ?_
                        refine xiald hx hb hE.1.1 (hP.arr 0 (by decide)) 0 rfl (k := 0) rfl (show _ < 7 by omega) (by decide) dL_law_654 ?_
                        refine W.eq (g2 := F0 m 655 ls [.int (nI nT), .ref (al 3)]) (congrArg (fun z => F0 m 655 ls [.int z, .ref (al 3)]) (lr_n0 hR)) ?_
                        refine lv_iload hx hb dL_law_655 (lv_at hl 2 rfl) ?_
                        refine lv_if_eq (tgt := 664) hx hb dL_law_657 (by decide) (fun c_657_41 => ?_) (fun c_657_41 => ?_)
                        · exact absurd c_657_41 (by decide)
                        · refine lv_iconst (v := 3) hx hb dL_law_660 (by decide) ?_
                          refine lv_goto (tgt := 665) hx hb dL_law_661 (by decide) ?_
                          refine lv_bipush (v := 16) hx hb dL_law_665 (by decide) ?_
                          refine lv_iload hx hb dL_law_667 (lv_at hl 9 rfl) ?_
                          refine lv_imul hx hb dL_law_669 ?_
                          refine lv_iadd hx hb dL_law_670 ?_
                          refine lv_sipush (v := 128) hx hb dL_law_671 (by decide) ?_
                          refine lv_aload_n hx hb dL_law_674 rfl (lv_at hl 14 rfl) ?_
                          refine lv_iconst (v := 2) hx hb dL_law_675 (by decide) ?_
                          refine xiald hx hb hE.1.1 (hP.arr 0 (by decide)) 0 rfl (k := 2) rfl (show _ < 7 by omega) (by decide) dL_law_676 ?_
                          refine W.eq (g2 := F0 m 677 ls [.int (τ 26 0), .int 128, .int (3 + (16 * (nI k))), .int (nI nT), .ref (al 3)]) (congrArg (fun z => F0 m 677 ls [.int z, .int 128, .int (3 + (16 * (nI k))), .int (nI nT), .ref (al 3)]) (lr_n2 hR)) ?_
                          refine lv_imul hx hb dL_law_677 ?_
                          refine lv_iadd hx hb dL_law_678 ?_
                          refine W.eq (g2 := F0 m 679 ls [.int (nI (3 + 4 * 0 + 16 * k + 128 * D9)), .int (nI nT), .ref (al 3)]) (congrArg (fun z => F0 m 679 ls [.int z, .int (nI nT), .ref (al 3)]) (code_tm (so := 3) eD9)) ?_
                          refine xiast hx hb hE.1.1 hS (hP.arr 3 (by decide)) (hP.oarr 3 (by decide)) 0 rfl (k := nT) rfl (show _ < 60 by omega) (by decide) dL_law_679 (fun H1 locs1 he1 z1 oq1 hS => ?_)
                          have hP := hP.put 3 nT (by decide) he1 oq1
                          have hC := hC.offL (f := 3) (by decide) z1 oq1
                          refine lv_aload hx hb dL_law_680 (lv_at hl 18 rfl) ?_
                          refine lv_aload_n hx hb dL_law_682 rfl (lv_at hl 14 rfl) ?_
                          refine lv_iconst (v := 0) hx hb dL_law_683 (by decide) ?_
                          refine xiald hx hb hE.1.1 (hP.arr 0 (by decide)) 0 rfl (k := 0) rfl (show _ < 7 by omega) (by decide) dL_law_684 ?_
                          rw [show (up μ 3 nT (nI (3 + 4 * 0 + 16 * k + 128 * D9))) 0 0 = μ 0 0 from by simp [up]]
                          refine W.eq (g2 := F0 m 685 ls [.int (nI nT), .ref (al 4)]) (congrArg (fun z => F0 m 685 ls [.int z, .ref (al 4)]) (lr_n0 hR)) ?_
                          refine lv_iload hx hb dL_law_685 (lv_at hl 2 rfl) ?_
                          refine lv_if_eq (tgt := 698) hx hb dL_law_687 (by decide) (fun c_687_42 => ?_) (fun c_687_42 => ?_)
                          · exact absurd c_687_42 (by decide)
                          · refine lv_aload_n hx hb dL_law_690 rfl (lv_at hl 14 rfl) ?_
                            refine lv_iconst (v := 3) hx hb dL_law_691 (by decide) ?_
                            refine xiald hx hb hE.1.1 (hP.arr 0 (by decide)) 0 rfl (k := 3) rfl (show _ < 7 by omega) (by decide) dL_law_692 ?_
                            rw [show (up μ 3 nT (nI (3 + 4 * 0 + 16 * k + 128 * D9))) 0 3 = μ 0 3 from by simp [up]]
                            refine W.eq (g2 := F0 m 693 ls [.int (τ 1 0), .int (nI nT), .ref (al 4)]) (congrArg (fun z => F0 m 693 ls [.int z, .int (nI nT), .ref (al 4)]) (lr_n3 hR)) ?_
                            refine lv_iconst (v := 2) hx hb dL_law_693 (by decide) ?_
                            refine lv_idiv hx hb dL_law_694 (by decide) ?_
                            refine lv_goto (tgt := 699) hx hb dL_law_695 (by decide) ?_
                            refine xiast hx hb hE.1.1 hS (hP.arr 4 (by decide)) (hP.oarr 4 (by decide)) 0 rfl (k := nT) rfl (show _ < 60 by omega) (by decide) dL_law_699 (fun H1 locs1 he1 z1 oq1 hS => ?_)
                            have hP := hP.put 4 nT (by decide) he1 oq1
                            have hC := hC.offL (f := 4) (by decide) z1 oq1
                            refine lv_aload_n hx hb dL_law_700 rfl (lv_at hl 14 rfl) ?_
                            refine lv_iconst (v := 5) hx hb dL_law_701 (by decide) ?_
                            refine lv_dup2_11 hx hb dL_law_702 rfl rfl ?_
                            refine xiald hx hb hE.1.1 (hP.arr 0 (by decide)) 0 rfl (k := 5) rfl (show _ < 7 by omega) (by decide) dL_law_703 ?_
                            rw [show (up (up μ 3 nT (nI (3 + 4 * 0 + 16 * k + 128 * D9))) 4 nT ((τ 1 0) / 2)) 0 5 = μ 0 5 from by simp [up]]
                            refine W.eq (g2 := F0 m 704 ls [.int (τ 25 0), .int 5, .ref (al 0)]) (congrArg (fun z => F0 m 704 ls [.int z, .int 5, .ref (al 0)]) (lr_n5 hR)) ?_
                            refine lv_aload hx hb dL_law_704 (lv_at hl 18 rfl) ?_
                            refine lv_aload_n hx hb dL_law_706 rfl (lv_at hl 14 rfl) ?_
                            refine lv_iconst (v := 0) hx hb dL_law_707 (by decide) ?_
                            refine xiald hx hb hE.1.1 (hP.arr 0 (by decide)) 0 rfl (k := 0) rfl (show _ < 7 by omega) (by decide) dL_law_708 ?_
                            rw [show (up (up μ 3 nT (nI (3 + 4 * 0 + 16 * k + 128 * D9))) 4 nT ((τ 1 0) / 2)) 0 0 = μ 0 0 from by simp [up]]
                            refine W.eq (g2 := F0 m 709 ls [.int (nI nT), .ref (al 4), .int (τ 25 0), .int 5, .ref (al 0)]) (congrArg (fun z => F0 m 709 ls [.int z, .ref (al 4), .int (τ 25 0), .int 5, .ref (al 0)]) (lr_n0 hR)) ?_
                            refine xiald hx hb hE.1.1 (hP.arr 4 (by decide)) 0 rfl (k := nT) rfl (show _ < 60 by omega) (by decide) dL_law_709 ?_
                            rw [show (up (up μ 3 nT (nI (3 + 4 * 0 + 16 * k + 128 * D9))) 4 nT ((τ 1 0) / 2)) 4 nT = (τ 1 0) / 2 from by simp [up]]
                            refine lv_iadd hx hb dL_law_710 ?_
                            refine xiast hx hb hE.1.1 hS (hP.arr 0 (by decide)) (hP.oarr 0 (by decide)) 0 rfl (k := 5) rfl (show _ < 7 by omega) (by decide) dL_law_711 (fun H1 locs1 he1 z1 oq1 hS => ?_)
                            have hP := hP.put 0 5 (by decide) he1 oq1
                            have hC := hC.offL (f := 0) (by decide) z1 oq1
                            refine lv_aload_n hx hb dL_law_712 rfl (lv_at hl 14 rfl) ?_
                            refine lv_iconst (v := 0) hx hb dL_law_713 (by decide) ?_
                            refine lv_dup2_11 hx hb dL_law_714 rfl rfl ?_
                            refine xiald hx hb hE.1.1 (hP.arr 0 (by decide)) 0 rfl (k := 0) rfl (show _ < 7 by omega) (by decide) dL_law_715 ?_
                            rw [show (up (up (up μ 3 nT (nI (3 + 4 * 0 + 16 * k + 128 * D9))) 4 nT ((τ 1 0) / 2)) 0 5 ((τ 25 0) + ((τ 1 0) / 2))) 0 0 = μ 0 0 from by simp [up]]
                            refine W.eq (g2 := F0 m 716 ls [.int (nI nT), .int 0, .ref (al 0)]) (congrArg (fun z => F0 m 716 ls [.int z, .int 0, .ref (al 0)]) (lr_n0 hR)) ?_
                            refine lv_iconst (v := 1) hx hb dL_law_716 (by decide) ?_
                            refine lv_iadd hx hb dL_law_717 ?_
                            refine W.eq (g2 := F0 m 718 ls [.int (nI (nT + 1)), .int 0, .ref (al 0)]) (congrArg (fun z => F0 m 718 ls [.int z, .int 0, .ref (al 0)]) (nI_1 nT)) ?_
                            refine xiast hx hb hE.1.1 hS (hP.arr 0 (by decide)) (hP.oarr 0 (by decide)) 0 rfl (k := 0) rfl (show _ < 7 by omega) (by decide) dL_law_718 (fun H1 locs1 he1 z1 oq1 hS => ?_)
                            have hP := hP.put 0 0 (by decide) he1 oq1
                            have hC := hC.offL (f := 0) (by decide) z1 oq1
                            refine lv_goto (tgt := 2555) hx hb dL_law_719 (by decide) ?_
                            have hRf : LR (up (up (up (up μ 3 nT (nI (3 + 4 * 0 + 16 * k + 128 * D9))) 4 nT ((τ 1 0) / 2)) 0 5 ((τ 25 0) + ((τ 1 0) / 2))) 0 0 (nI (nT + 1))) (mMake τ nT 3 (-1) (nI k) (τ 1 0 / 2)) (nT + 1) nW := hR.make (so := 3) (ho := 0) (me := k) (d := D9) (by decide) (by decide) (by omega) hD9 (fun z => absurd z (by decide)) (fun _ => rfl) eD9 (lr_pos3 hR).2 hZ.1 hn6
                            exact kk _ _ _ _ _ (show cc9 + 0 + 0 + 6 ≤ cc9 + 10 by omega) (show ss9 + 0 + 0 + 250 ≤ ss9 + 300 by omega) hS (LINV.of hC hP hRf) (lv_sub hl [0, 11, 5, 12, 13, 14, 15, 16, 17, 18, 19, 20, 21, 22, 23, 24, 25, 26, 27] rfl)
set_option maxHeartbeats 4000000 in
set_option maxRecDepth 100000 in
theorem LC_buy (l : Launch) (hl9 : l.stackTraces = false) {p : Program} {e : Env} {s : State} {m : MethodId} {below : List Frame} {meth : Method} {c : Code} {b : Nat} {G : GE} {a0 : Nat} {al : Nat → Nat} (C : CallFix p m c cL_law 30 s #[Value.ref b] gTb RL) (hE : EN (fun q => s.heap.size ≤ q) G s s.heap) (hN : NCX s) {N cc9 ss9 : Nat} {Qw : State → Prop} {H : Heap} {locs : List Loc} {ls : Array Slot} (hcc : cc9 ≤ 700000) (hss : ss9 ≤ 6900000) (hN9 : N ≤ 200) {τ μ : SG} {nT nW : Nat} (hS : va_S (fun q => s.heap.size ≤ q) s.heap H locs) (hC : CST G (AxL s.heap.size al) a0 τ nT nW N H) (hP : PL G (fun q => s.heap.size ≤ q) al μ 14 H) (hR : LR μ τ nT nW) (ht0 : thr τ 0 = τ) {z9 kd tn : Int32} {y i r h k u : Nat} (hy : y < 67108864) (hiT : nT ≠ 0 → i < nT) (hi0 : nT = 0 → i = 0) (hr9 : r < 12) (hh4 : h < 4) (hk6 : k < 6) (hu0 : nW ≠ 0 → u < nW) (hl : lv_has ls 30 [(18, .int z9), (19, .int kd), (20, .int (nI y)), (21, .int (nI i)), (22, .int (nI r)), (23, .int (nI h)), (24, .int (nI k)), (25, .int (nI u)), (16, .int 1), (17, .int tn), (0, .ref b), (1, .ref a0), (2, .ref (al 0)), (3, .ref (al 1)), (4, .ref (al 2)), (5, .ref (al 3)), (6, .ref (al 4)), (7, .ref (al 5)), (8, .ref (al 6)), (9, .ref (al 7)), (10, .ref (al 8)), (11, .ref (al 9)), (12, .ref (al 10)), (13, .ref (al 11)), (14, .ref (al 12)), (15, .ref (al 13))])
    (kk : ∀ (H1 : Heap) (locs1 : List Loc) (ls1 : Array Slot) (cc1 ss1 : Nat), cc1 ≤ cc9 + 10 → ss1 ≤ ss9 + 300 → va_S (fun q => s.heap.size ≤ q) s.heap H1 locs1 → LINV G s.heap.size a0 al (N + 1) H1 → lv_has ls1 30 [(16, .int 1), (17, .int tn), (20, .int (nI y)), (0, .ref b), (1, .ref a0), (2, .ref (al 0)), (3, .ref (al 1)), (4, .ref (al 2)), (5, .ref (al 3)), (6, .ref (al 4)), (7, .ref (al 5)), (8, .ref (al 6)), (9, .ref (al 7)), (10, .ref (al 8)), (11, .ref (al 9)), (12, .ref (al 10)), (13, .ref (al 11)), (14, .ref (al 12)), (15, .ref (al 13))] → W p l e room_1 s m #[Value.ref b] below meth c H1 locs1 cc1 ss1 Qw (F0 m 2555 ls1 [])) : W p l e room_1 s m #[Value.ref b] below meth c H locs cc9 ss9 Qw (F0 m 363 ls []) := by
  have hx := C.1
  have hb := C.2.1
  have hown := C.2.2.2.1
  have hts := C.2.2.2.2
  obtain ⟨h60, h10⟩ := lr_n60 hR
  have h27 : τ 27 0 = 0 := by rw [← ht0]; exact thr_27
  have hi60 : i < 60 := by
    rcases Nat.eq_zero_or_pos nT with z | z
    · rw [hi0 z]; omega
    · have := hiT (by omega); omega
  have hMB : ∀ q, McL al q → s.heap.size ≤ q := by
    rintro q ⟨f, hf, rfl⟩
    exact hP.oarr f hf
  have hZ := hC.Z
  obtain ⟨D9, hD9, eD9⟩ := hC.D
  obtain ⟨K9, hK9, eK9⟩ := hC.K
  refine lv_iload hx hb dL_law_363 (lv_at hl 1 rfl) ?_
  refine lv_bipush (v := 6) hx hb dL_law_365 (by decide) ?_
  refine lv_icmp_ge (tgt := 503) hx hb dL_law_367 (by decide) (fun c_367_1 => ?_) (fun c_367_1 => ?_)
  · exact LC_admt l hl9 C hE hN hcc hss hN9 hS hC hP hR ht0 hy hiT hi0 hr9 hh4 hk6 hu0 (lv_sub hl [0, 1, 2, 3, 4, 5, 6, 7, 8, 9, 10, 11, 12, 13, 14, 15, 16, 17, 18, 19, 20, 21, 22, 23, 24, 25] rfl) kk
  · refine lv_aload_n hx hb dL_law_370 rfl (lv_at hl 12 rfl) ?_
    refine lv_iconst (v := 0) hx hb dL_law_371 (by decide) ?_
    refine xiald hx hb hE.1.1 (hP.arr 0 (by decide)) 0 rfl (k := 0) rfl (show _ < 7 by omega) (by decide) dL_law_372 ?_
    refine W.eq (g2 := F0 m 373 ls [.int (nI nT)]) (congrArg (fun z => F0 m 373 ls [.int z]) (lr_n0 hR)) ?_
    refine lv_bipush (v := 60) hx hb dL_law_373 (by decide) ?_
    refine lv_icmp_ge (tgt := 503) hx hb dL_law_375 (by decide) (fun c_375_2 => ?_) (fun c_375_2 => ?_)
    · exact LC_admt l hl9 C hE hN hcc hss hN9 hS hC hP hR ht0 hy hiT hi0 hr9 hh4 hk6 hu0 (lv_sub hl [0, 1, 2, 3, 4, 5, 6, 7, 8, 9, 10, 11, 12, 13, 14, 15, 16, 17, 18, 19, 20, 21, 22, 23, 24, 25] rfl) kk
    · have hn6 : nT < 60 := nlt h60 (by decide) c_375_2
      refine lv_iload hx hb dL_law_378 (lv_at hl 2 rfl) ?_
      refine lv_iconst (v := 4) hx hb dL_law_380 (by decide) ?_
      refine lv_idiv hx hb dL_law_381 (by decide) ?_
      refine lv_iconst (v := 3) hx hb dL_law_382 (by decide) ?_
      refine lv_irem hx hb dL_law_383 (by decide) ?_
      refine lv_if_ne (tgt := 391) hx hb dL_law_384 (by decide) (fun c_384_3 => ?_) (fun c_384_3 => ?_)
      · refine lv_iconst (v := 0) hx hb dL_law_391 (by decide) ?_
        refine lv_istore (lv' := [(26, .int 0), (18, .int z9), (19, .int kd), (20, .int (nI y)), (21, .int (nI i)), (22, .int (nI r)), (23, .int (nI h)), (24, .int (nI k)), (25, .int (nI u)), (16, .int 1), (17, .int tn), (0, .ref b), (1, .ref a0), (2, .ref (al 0)), (3, .ref (al 1)), (4, .ref (al 2)), (5, .ref (al 3)), (6, .ref (al 4)), (7, .ref (al 5)), (8, .ref (al 6)), (9, .ref (al 7)), (10, .ref (al 8)), (11, .ref (al 9)), (12, .ref (al 10)), (13, .ref (al 11)), (14, .ref (al 12)), (15, .ref (al 13))]) hx hb dL_law_392 hl (by decide) rfl (fun ls hl => ?_)
        refine lv_aload_n hx hb dL_law_394 rfl (lv_at hl 12 rfl) ?_
        refine lv_iconst (v := 0) hx hb dL_law_395 (by decide) ?_
        refine lv_iload hx hb dL_law_396 (lv_at hl 0 rfl) ?_
        refine lv_if_eq (tgt := 405) hx hb dL_law_398 (by decide) (fun c_398_4 => ?_) (fun c_398_4 => ?_)
        · refine lv_iload hx hb dL_law_405 (lv_at hl 6 rfl) ?_
          refine lv_iconst (v := 0) hx hb dL_law_407 (by decide) ?_
          refine lv_iconst (v := 0) hx hb dL_law_408 (by decide) ?_
          have hcm : cm_buy τ nT (nI h) (nI nT) (mMake τ nT 0 (nI h) (-1) (τ 0 h)) := by
            unfold cm_buy
            rw [ht0]
            exact Or.inr (Or.inr (Or.inr ⟨h, hh4, rfl, by omega, rfl, rfl⟩))
          refine hcallH (n := 5) C hE hN (hD_buy l G (AxL s.heap.size al) hl9 a0 τ (mMake τ nT 0 (nI h) (-1) (τ 0 h)) (nI nT) nT nW N (nI h) hcm) wML_L_127 wST_L_does wIN_L wCW_L_does (by decide) rfl ⟨Nat.le_of_ble_eq_true rfl, Nat.le_of_ble_eq_true rfl⟩ hS (fun q h => h.1) (fun q h => AxL.new hP hS.1 q h) hC rfl hl.1 (Nat.le_of_ble_eq_true rfl) dL_law_409 ⟨by show cc9 + 6 ≤ 709356; omega, by show ss9 + 250 ≤ 6973399; omega⟩ (fun v H1 locs1 hv hk hS => ?_)
          obtain ⟨rfl, nT', nW', hC⟩ := hv
          have hP := hP.keptL hk (fun q hq h => h.2 hq)
          refine W.eq (g2 := F0 m 412 ls [.int (nI nT)]) (congrArg (fun z => F0 m 412 ls [.int z]) (dres0 (by simp [mMake, up]; exact h27))) ?_
          refine lv_aload_n hx hb dL_law_412 rfl (lv_at hl 13 rfl) ?_
          refine lv_iconst (v := 0) hx hb dL_law_413 (by decide) ?_
          refine xiald hx hb hE.1.1 (hP.arr 0 (by decide)) 0 rfl (k := 0) rfl (show _ < 7 by omega) (by decide) dL_law_414 ?_
          refine W.eq (g2 := F0 m 415 ls [.int (nI nT), .int (nI nT)]) (congrArg (fun z => F0 m 415 ls [.int z, .int (nI nT)]) (lr_n0 hR)) ?_
          refine lv_icmp_ne (tgt := 422) hx hb dL_law_415 (by decide) (fun c_415_5 => ?_) (fun c_415_5 => ?_)
          · exact absurd rfl c_415_5
          · refine lv_iconst (v := 1) hx hb dL_law_418 (by decide) ?_
            refine lv_goto (tgt := 423) hx hb dL_law_419 (by decide) ?_
            refine lv_istore (lv' := [(16, .int 1), (26, .int 0), (18, .int z9), (19, .int kd), (20, .int (nI y)), (21, .int (nI i)), (22, .int (nI r)), (23, .int (nI h)), (24, .int (nI k)), (25, .int (nI u)), (17, .int tn), (0, .ref b), (1, .ref a0), (2, .ref (al 0)), (3, .ref (al 1)), (4, .ref (al 2)), (5, .ref (al 3)), (6, .ref (al 4)), (7, .ref (al 5)), (8, .ref (al 6)), (9, .ref (al 7)), (10, .ref (al 8)), (11, .ref (al 9)), (12, .ref (al 10)), (13, .ref (al 11)), (14, .ref (al 12)), (15, .ref (al 13))]) hx hb dL_law_423 hl (by decide) rfl (fun ls hl => ?_)
            refine lv_aload hx hb dL_law_425 (lv_at hl 16 rfl) ?_
            refine lv_aload_n hx hb dL_law_427 rfl (lv_at hl 13 rfl) ?_
            refine lv_iconst (v := 0) hx hb dL_law_428 (by decide) ?_
            refine xiald hx hb hE.1.1 (hP.arr 0 (by decide)) 0 rfl (k := 0) rfl (show _ < 7 by omega) (by decide) dL_law_429 ?_
            refine W.eq (g2 := F0 m 430 ls [.int (nI nT), .ref (al 3)]) (congrArg (fun z => F0 m 430 ls [.int z, .ref (al 3)]) (lr_n0 hR)) ?_
            refine lv_iload hx hb dL_law_430 (lv_at hl 1 rfl) ?_
            refine lv_if_eq (tgt := 447) hx hb dL_law_432 (by decide) (fun c_432_6 => ?_) (fun c_432_6 => ?_)
            · refine lv_iconst (v := 4) hx hb dL_law_447 (by decide) ?_
              refine lv_iload hx hb dL_law_448 (lv_at hl 7 rfl) ?_
              refine lv_imul hx hb dL_law_450 ?_
              refine lv_sipush (v := 128) hx hb dL_law_451 (by decide) ?_
              refine lv_aload_n hx hb dL_law_454 rfl (lv_at hl 13 rfl) ?_
              refine lv_iconst (v := 2) hx hb dL_law_455 (by decide) ?_
              refine xiald hx hb hE.1.1 (hP.arr 0 (by decide)) 0 rfl (k := 2) rfl (show _ < 7 by omega) (by decide) dL_law_456 ?_
              refine W.eq (g2 := F0 m 457 ls [.int (τ 26 0), .int 128, .int (4 * (nI h)), .int (nI nT), .ref (al 3)]) (congrArg (fun z => F0 m 457 ls [.int z, .int 128, .int (4 * (nI h)), .int (nI nT), .ref (al 3)]) (lr_n2 hR)) ?_
              refine lv_imul hx hb dL_law_457 ?_
              refine lv_iadd hx hb dL_law_458 ?_
              refine W.eq (g2 := F0 m 459 ls [.int (nI (0 + 4 * h + 16 * 0 + 128 * D9)), .int (nI nT), .ref (al 3)]) (congrArg (fun z => F0 m 459 ls [.int z, .int (nI nT), .ref (al 3)]) (code_t0 eD9)) ?_
              refine xiast hx hb hE.1.1 hS (hP.arr 3 (by decide)) (hP.oarr 3 (by decide)) 0 rfl (k := nT) rfl (show _ < 60 by omega) (by decide) dL_law_459 (fun H1 locs1 he1 z1 oq1 hS => ?_)
              have hP := hP.put 3 nT (by decide) he1 oq1
              have hC := hC.offL (f := 3) (by decide) z1 oq1
              refine lv_aload hx hb dL_law_460 (lv_at hl 17 rfl) ?_
              refine lv_aload_n hx hb dL_law_462 rfl (lv_at hl 13 rfl) ?_
              refine lv_iconst (v := 0) hx hb dL_law_463 (by decide) ?_
              refine xiald hx hb hE.1.1 (hP.arr 0 (by decide)) 0 rfl (k := 0) rfl (show _ < 7 by omega) (by decide) dL_law_464 ?_
              rw [show (up μ 3 nT (nI (0 + 4 * h + 16 * 0 + 128 * D9))) 0 0 = μ 0 0 from by simp [up]]
              refine W.eq (g2 := F0 m 465 ls [.int (nI nT), .ref (al 4)]) (congrArg (fun z => F0 m 465 ls [.int z, .ref (al 4)]) (lr_n0 hR)) ?_
              refine lv_iload hx hb dL_law_465 (lv_at hl 1 rfl) ?_
              refine lv_if_eq (tgt := 476) hx hb dL_law_467 (by decide) (fun c_467_7 => ?_) (fun c_467_7 => ?_)
              · refine lv_aload_n hx hb dL_law_476 rfl (lv_at hl 14 rfl) ?_
                refine lv_iload hx hb dL_law_477 (lv_at hl 7 rfl) ?_
                refine xiald hx hb hE.1.1 (hP.arr 1 (by decide)) 0 rfl (k := h) rfl (show _ < 4 by omega) (by decide) dL_law_479 ?_
                rw [show (up μ 3 nT (nI (0 + 4 * h + 16 * 0 + 128 * D9))) 1 h = μ 1 h from by simp [up]]
                refine W.eq (g2 := F0 m 480 ls [.int (τ 0 h), .int (nI nT), .ref (al 4)]) (congrArg (fun z => F0 m 480 ls [.int z, .int (nI nT), .ref (al 4)]) (lr_p hR hh4)) ?_
                refine xiast hx hb hE.1.1 hS (hP.arr 4 (by decide)) (hP.oarr 4 (by decide)) 0 rfl (k := nT) rfl (show _ < 60 by omega) (by decide) dL_law_480 (fun H1 locs1 he1 z1 oq1 hS => ?_)
                have hP := hP.put 4 nT (by decide) he1 oq1
                have hC := hC.offL (f := 4) (by decide) z1 oq1
                refine lv_aload_n hx hb dL_law_481 rfl (lv_at hl 13 rfl) ?_
                refine lv_iconst (v := 5) hx hb dL_law_482 (by decide) ?_
                refine lv_dup2_11 hx hb dL_law_483 rfl rfl ?_
                refine xiald hx hb hE.1.1 (hP.arr 0 (by decide)) 0 rfl (k := 5) rfl (show _ < 7 by omega) (by decide) dL_law_484 ?_
                rw [show (up (up μ 3 nT (nI (0 + 4 * h + 16 * 0 + 128 * D9))) 4 nT (τ 0 h)) 0 5 = μ 0 5 from by simp [up]]
                refine W.eq (g2 := F0 m 485 ls [.int (τ 25 0), .int 5, .ref (al 0)]) (congrArg (fun z => F0 m 485 ls [.int z, .int 5, .ref (al 0)]) (lr_n5 hR)) ?_
                refine lv_aload hx hb dL_law_485 (lv_at hl 17 rfl) ?_
                refine lv_aload_n hx hb dL_law_487 rfl (lv_at hl 13 rfl) ?_
                refine lv_iconst (v := 0) hx hb dL_law_488 (by decide) ?_
                refine xiald hx hb hE.1.1 (hP.arr 0 (by decide)) 0 rfl (k := 0) rfl (show _ < 7 by omega) (by decide) dL_law_489 ?_
                rw [show (up (up μ 3 nT (nI (0 + 4 * h + 16 * 0 + 128 * D9))) 4 nT (τ 0 h)) 0 0 = μ 0 0 from by simp [up]]
                refine W.eq (g2 := F0 m 490 ls [.int (nI nT), .ref (al 4), .int (τ 25 0), .int 5, .ref (al 0)]) (congrArg (fun z => F0 m 490 ls [.int z, .ref (al 4), .int (τ 25 0), .int 5, .ref (al 0)]) (lr_n0 hR)) ?_
                refine xiald hx hb hE.1.1 (hP.arr 4 (by decide)) 0 rfl (k := nT) rfl (show _ < 60 by omega) (by decide) dL_law_490 ?_
                rw [show (up (up μ 3 nT (nI (0 + 4 * h + 16 * 0 + 128 * D9))) 4 nT (τ 0 h)) 4 nT = τ 0 h from by simp [up]]
                refine lv_iadd hx hb dL_law_491 ?_
                refine xiast hx hb hE.1.1 hS (hP.arr 0 (by decide)) (hP.oarr 0 (by decide)) 0 rfl (k := 5) rfl (show _ < 7 by omega) (by decide) dL_law_492 (fun H1 locs1 he1 z1 oq1 hS => ?_)
                have hP := hP.put 0 5 (by decide) he1 oq1
                have hC := hC.offL (f := 0) (by decide) z1 oq1
                refine lv_aload_n hx hb dL_law_493 rfl (lv_at hl 13 rfl) ?_
                refine lv_iconst (v := 0) hx hb dL_law_494 (by decide) ?_
                refine lv_dup2_11 hx hb dL_law_495 rfl rfl ?_
                refine xiald hx hb hE.1.1 (hP.arr 0 (by decide)) 0 rfl (k := 0) rfl (show _ < 7 by omega) (by decide) dL_law_496 ?_
                rw [show (up (up (up μ 3 nT (nI (0 + 4 * h + 16 * 0 + 128 * D9))) 4 nT (τ 0 h)) 0 5 ((τ 25 0) + (τ 0 h))) 0 0 = μ 0 0 from by simp [up]]
                refine W.eq (g2 := F0 m 497 ls [.int (nI nT), .int 0, .ref (al 0)]) (congrArg (fun z => F0 m 497 ls [.int z, .int 0, .ref (al 0)]) (lr_n0 hR)) ?_
                refine lv_iconst (v := 1) hx hb dL_law_497 (by decide) ?_
                refine lv_iadd hx hb dL_law_498 ?_
                refine W.eq (g2 := F0 m 499 ls [.int (nI (nT + 1)), .int 0, .ref (al 0)]) (congrArg (fun z => F0 m 499 ls [.int z, .int 0, .ref (al 0)]) (nI_1 nT)) ?_
                refine xiast hx hb hE.1.1 hS (hP.arr 0 (by decide)) (hP.oarr 0 (by decide)) 0 rfl (k := 0) rfl (show _ < 7 by omega) (by decide) dL_law_499 (fun H1 locs1 he1 z1 oq1 hS => ?_)
                have hP := hP.put 0 0 (by decide) he1 oq1
                have hC := hC.offL (f := 0) (by decide) z1 oq1
                refine lv_goto (tgt := 2555) hx hb dL_law_500 (by decide) ?_
                have hRf : LR (up (up (up (up μ 3 nT (nI (0 + 4 * h + 16 * 0 + 128 * D9))) 4 nT (τ 0 h)) 0 5 ((τ 25 0) + (τ 0 h))) 0 0 (nI (nT + 1))) (mMake τ nT 0 (nI h) (-1) (τ 0 h)) (nT + 1) nW := hR.make (so := 0) (ho := h) (me := 0) (d := D9) (by decide) hh4 (by decide) hD9 (fun _ => rfl) (fun z => absurd z (by decide)) eD9 (lr_posp hR hh4) hZ.1 hn6
                exact kk _ _ _ _ _ (show cc9 + 6 ≤ cc9 + 10 by omega) (show ss9 + 250 ≤ ss9 + 300 by omega) hS (LINV.of hC hP hRf) (lv_sub hl [0, 10, 4, 11, 12, 13, 14, 15, 16, 17, 18, 19, 20, 21, 22, 23, 24, 25, 26] rfl)
              · exact absurd c_467_7 (by decide)
            · exact absurd c_432_6 (by decide)
        · exact absurd c_398_4 (by decide)
      · refine lv_iconst (v := 1) hx hb dL_law_387 (by decide) ?_
        refine lv_goto (tgt := 392) hx hb dL_law_388 (by decide) ?_
        refine lv_istore (lv' := [(26, .int 1), (18, .int z9), (19, .int kd), (20, .int (nI y)), (21, .int (nI i)), (22, .int (nI r)), (23, .int (nI h)), (24, .int (nI k)), (25, .int (nI u)), (16, .int 1), (17, .int tn), (0, .ref b), (1, .ref a0), (2, .ref (al 0)), (3, .ref (al 1)), (4, .ref (al 2)), (5, .ref (al 3)), (6, .ref (al 4)), (7, .ref (al 5)), (8, .ref (al 6)), (9, .ref (al 7)), (10, .ref (al 8)), (11, .ref (al 9)), (12, .ref (al 10)), (13, .ref (al 11)), (14, .ref (al 12)), (15, .ref (al 13))]) hx hb dL_law_392 hl (by decide) rfl (fun ls hl => ?_)
        refine lv_aload_n hx hb dL_law_394 rfl (lv_at hl 12 rfl) ?_
        refine lv_iconst (v := 0) hx hb dL_law_395 (by decide) ?_
        refine lv_iload hx hb dL_law_396 (lv_at hl 0 rfl) ?_
        refine lv_if_eq (tgt := 405) hx hb dL_law_398 (by decide) (fun c_398_8 => ?_) (fun c_398_8 => ?_)
        · exact absurd c_398_8 (by decide)
        · refine lv_iconst (v := (-1)) hx hb dL_law_401 (by decide) ?_
          refine lv_goto (tgt := 407) hx hb dL_law_402 (by decide) ?_
          refine lv_iconst (v := 0) hx hb dL_law_407 (by decide) ?_
          refine lv_iconst (v := 0) hx hb dL_law_408 (by decide) ?_
          have hcm : cm_buy τ nT (-1) (nI nT) (mMake τ nT 1 (-1) (-1) (τ 1 0)) := by
            unfold cm_buy
            rw [ht0]
            exact Or.inr (Or.inr (Or.inl ⟨rfl, by omega, rfl, rfl⟩))
          refine hcallH (n := 5) C hE hN (hD_buy l G (AxL s.heap.size al) hl9 a0 τ (mMake τ nT 1 (-1) (-1) (τ 1 0)) (nI nT) nT nW N (-1) hcm) wML_L_127 wST_L_does wIN_L wCW_L_does (by decide) rfl ⟨Nat.le_of_ble_eq_true rfl, Nat.le_of_ble_eq_true rfl⟩ hS (fun q h => h.1) (fun q h => AxL.new hP hS.1 q h) hC rfl hl.1 (Nat.le_of_ble_eq_true rfl) dL_law_409 ⟨by show cc9 + 6 ≤ 709356; omega, by show ss9 + 250 ≤ 6973399; omega⟩ (fun v H1 locs1 hv hk hS => ?_)
          obtain ⟨rfl, nT', nW', hC⟩ := hv
          have hP := hP.keptL hk (fun q hq h => h.2 hq)
          refine W.eq (g2 := F0 m 412 ls [.int (nI nT)]) (congrArg (fun z => F0 m 412 ls [.int z]) (dres0 (by simp [mMake, up]; exact h27))) ?_
          refine lv_aload_n hx hb dL_law_412 rfl (lv_at hl 13 rfl) ?_
          refine lv_iconst (v := 0) hx hb dL_law_413 (by decide) ?_
          refine xiald hx hb hE.1.1 (hP.arr 0 (by decide)) 0 rfl (k := 0) rfl (show _ < 7 by omega) (by decide) dL_law_414 ?_
          refine W.eq (g2 := F0 m 415 ls [.int (nI nT), .int (nI nT)]) (congrArg (fun z => F0 m 415 ls [.int z, .int (nI nT)]) (lr_n0 hR)) ?_
          refine lv_icmp_ne (tgt := 422) hx hb dL_law_415 (by decide) (fun c_415_9 => ?_) (fun c_415_9 => ?_)
          · exact absurd rfl c_415_9
          · refine lv_iconst (v := 1) hx hb dL_law_418 (by decide) ?_
            refine lv_goto (tgt := 423) hx hb dL_law_419 (by decide) ?_
            refine lv_istore (lv' := [(16, .int 1), (26, .int 1), (18, .int z9), (19, .int kd), (20, .int (nI y)), (21, .int (nI i)), (22, .int (nI r)), (23, .int (nI h)), (24, .int (nI k)), (25, .int (nI u)), (17, .int tn), (0, .ref b), (1, .ref a0), (2, .ref (al 0)), (3, .ref (al 1)), (4, .ref (al 2)), (5, .ref (al 3)), (6, .ref (al 4)), (7, .ref (al 5)), (8, .ref (al 6)), (9, .ref (al 7)), (10, .ref (al 8)), (11, .ref (al 9)), (12, .ref (al 10)), (13, .ref (al 11)), (14, .ref (al 12)), (15, .ref (al 13))]) hx hb dL_law_423 hl (by decide) rfl (fun ls hl => ?_)
            refine lv_aload hx hb dL_law_425 (lv_at hl 16 rfl) ?_
            refine lv_aload_n hx hb dL_law_427 rfl (lv_at hl 13 rfl) ?_
            refine lv_iconst (v := 0) hx hb dL_law_428 (by decide) ?_
            refine xiald hx hb hE.1.1 (hP.arr 0 (by decide)) 0 rfl (k := 0) rfl (show _ < 7 by omega) (by decide) dL_law_429 ?_
            refine W.eq (g2 := F0 m 430 ls [.int (nI nT), .ref (al 3)]) (congrArg (fun z => F0 m 430 ls [.int z, .ref (al 3)]) (lr_n0 hR)) ?_
            refine lv_iload hx hb dL_law_430 (lv_at hl 1 rfl) ?_
            refine lv_if_eq (tgt := 447) hx hb dL_law_432 (by decide) (fun c_432_10 => ?_) (fun c_432_10 => ?_)
            · exact absurd c_432_10 (by decide)
            · refine lv_iconst (v := 1) hx hb dL_law_435 (by decide) ?_
              refine lv_sipush (v := 128) hx hb dL_law_436 (by decide) ?_
              refine lv_aload_n hx hb dL_law_439 rfl (lv_at hl 13 rfl) ?_
              refine lv_iconst (v := 2) hx hb dL_law_440 (by decide) ?_
              refine xiald hx hb hE.1.1 (hP.arr 0 (by decide)) 0 rfl (k := 2) rfl (show _ < 7 by omega) (by decide) dL_law_441 ?_
              refine W.eq (g2 := F0 m 442 ls [.int (τ 26 0), .int 128, .int 1, .int (nI nT), .ref (al 3)]) (congrArg (fun z => F0 m 442 ls [.int z, .int 128, .int 1, .int (nI nT), .ref (al 3)]) (lr_n2 hR)) ?_
              refine lv_imul hx hb dL_law_442 ?_
              refine lv_iadd hx hb dL_law_443 ?_
              refine lv_goto (tgt := 459) hx hb dL_law_444 (by decide) ?_
              refine W.eq (g2 := F0 m 459 ls [.int (nI (1 + 4 * 0 + 16 * 0 + 128 * D9)), .int (nI nT), .ref (al 3)]) (congrArg (fun z => F0 m 459 ls [.int z, .int (nI nT), .ref (al 3)]) (code_t1 (so := 1) eD9)) ?_
              refine xiast hx hb hE.1.1 hS (hP.arr 3 (by decide)) (hP.oarr 3 (by decide)) 0 rfl (k := nT) rfl (show _ < 60 by omega) (by decide) dL_law_459 (fun H1 locs1 he1 z1 oq1 hS => ?_)
              have hP := hP.put 3 nT (by decide) he1 oq1
              have hC := hC.offL (f := 3) (by decide) z1 oq1
              refine lv_aload hx hb dL_law_460 (lv_at hl 17 rfl) ?_
              refine lv_aload_n hx hb dL_law_462 rfl (lv_at hl 13 rfl) ?_
              refine lv_iconst (v := 0) hx hb dL_law_463 (by decide) ?_
              refine xiald hx hb hE.1.1 (hP.arr 0 (by decide)) 0 rfl (k := 0) rfl (show _ < 7 by omega) (by decide) dL_law_464 ?_
              rw [show (up μ 3 nT (nI (1 + 4 * 0 + 16 * 0 + 128 * D9))) 0 0 = μ 0 0 from by simp [up]]
              refine W.eq (g2 := F0 m 465 ls [.int (nI nT), .ref (al 4)]) (congrArg (fun z => F0 m 465 ls [.int z, .ref (al 4)]) (lr_n0 hR)) ?_
              refine lv_iload hx hb dL_law_465 (lv_at hl 1 rfl) ?_
              refine lv_if_eq (tgt := 476) hx hb dL_law_467 (by decide) (fun c_467_11 => ?_) (fun c_467_11 => ?_)
              · exact absurd c_467_11 (by decide)
              · refine lv_aload_n hx hb dL_law_470 rfl (lv_at hl 13 rfl) ?_
                refine lv_iconst (v := 3) hx hb dL_law_471 (by decide) ?_
                refine xiald hx hb hE.1.1 (hP.arr 0 (by decide)) 0 rfl (k := 3) rfl (show _ < 7 by omega) (by decide) dL_law_472 ?_
                rw [show (up μ 3 nT (nI (1 + 4 * 0 + 16 * 0 + 128 * D9))) 0 3 = μ 0 3 from by simp [up]]
                refine W.eq (g2 := F0 m 473 ls [.int (τ 1 0), .int (nI nT), .ref (al 4)]) (congrArg (fun z => F0 m 473 ls [.int z, .int (nI nT), .ref (al 4)]) (lr_n3 hR)) ?_
                refine lv_goto (tgt := 480) hx hb dL_law_473 (by decide) ?_
                refine xiast hx hb hE.1.1 hS (hP.arr 4 (by decide)) (hP.oarr 4 (by decide)) 0 rfl (k := nT) rfl (show _ < 60 by omega) (by decide) dL_law_480 (fun H1 locs1 he1 z1 oq1 hS => ?_)
                have hP := hP.put 4 nT (by decide) he1 oq1
                have hC := hC.offL (f := 4) (by decide) z1 oq1
                refine lv_aload_n hx hb dL_law_481 rfl (lv_at hl 13 rfl) ?_
                refine lv_iconst (v := 5) hx hb dL_law_482 (by decide) ?_
                refine lv_dup2_11 hx hb dL_law_483 rfl rfl ?_
                refine xiald hx hb hE.1.1 (hP.arr 0 (by decide)) 0 rfl (k := 5) rfl (show _ < 7 by omega) (by decide) dL_law_484 ?_
                rw [show (up (up μ 3 nT (nI (1 + 4 * 0 + 16 * 0 + 128 * D9))) 4 nT (τ 1 0)) 0 5 = μ 0 5 from by simp [up]]
                refine W.eq (g2 := F0 m 485 ls [.int (τ 25 0), .int 5, .ref (al 0)]) (congrArg (fun z => F0 m 485 ls [.int z, .int 5, .ref (al 0)]) (lr_n5 hR)) ?_
                refine lv_aload hx hb dL_law_485 (lv_at hl 17 rfl) ?_
                refine lv_aload_n hx hb dL_law_487 rfl (lv_at hl 13 rfl) ?_
                refine lv_iconst (v := 0) hx hb dL_law_488 (by decide) ?_
                refine xiald hx hb hE.1.1 (hP.arr 0 (by decide)) 0 rfl (k := 0) rfl (show _ < 7 by omega) (by decide) dL_law_489 ?_
                rw [show (up (up μ 3 nT (nI (1 + 4 * 0 + 16 * 0 + 128 * D9))) 4 nT (τ 1 0)) 0 0 = μ 0 0 from by simp [up]]
                refine W.eq (g2 := F0 m 490 ls [.int (nI nT), .ref (al 4), .int (τ 25 0), .int 5, .ref (al 0)]) (congrArg (fun z => F0 m 490 ls [.int z, .ref (al 4), .int (τ 25 0), .int 5, .ref (al 0)]) (lr_n0 hR)) ?_
                refine xiald hx hb hE.1.1 (hP.arr 4 (by decide)) 0 rfl (k := nT) rfl (show _ < 60 by omega) (by decide) dL_law_490 ?_
                rw [show (up (up μ 3 nT (nI (1 + 4 * 0 + 16 * 0 + 128 * D9))) 4 nT (τ 1 0)) 4 nT = τ 1 0 from by simp [up]]
                refine lv_iadd hx hb dL_law_491 ?_
                refine xiast hx hb hE.1.1 hS (hP.arr 0 (by decide)) (hP.oarr 0 (by decide)) 0 rfl (k := 5) rfl (show _ < 7 by omega) (by decide) dL_law_492 (fun H1 locs1 he1 z1 oq1 hS => ?_)
                have hP := hP.put 0 5 (by decide) he1 oq1
                have hC := hC.offL (f := 0) (by decide) z1 oq1
                refine lv_aload_n hx hb dL_law_493 rfl (lv_at hl 13 rfl) ?_
                refine lv_iconst (v := 0) hx hb dL_law_494 (by decide) ?_
                refine lv_dup2_11 hx hb dL_law_495 rfl rfl ?_
                refine xiald hx hb hE.1.1 (hP.arr 0 (by decide)) 0 rfl (k := 0) rfl (show _ < 7 by omega) (by decide) dL_law_496 ?_
                rw [show (up (up (up μ 3 nT (nI (1 + 4 * 0 + 16 * 0 + 128 * D9))) 4 nT (τ 1 0)) 0 5 ((τ 25 0) + (τ 1 0))) 0 0 = μ 0 0 from by simp [up]]
                refine W.eq (g2 := F0 m 497 ls [.int (nI nT), .int 0, .ref (al 0)]) (congrArg (fun z => F0 m 497 ls [.int z, .int 0, .ref (al 0)]) (lr_n0 hR)) ?_
                refine lv_iconst (v := 1) hx hb dL_law_497 (by decide) ?_
                refine lv_iadd hx hb dL_law_498 ?_
                refine W.eq (g2 := F0 m 499 ls [.int (nI (nT + 1)), .int 0, .ref (al 0)]) (congrArg (fun z => F0 m 499 ls [.int z, .int 0, .ref (al 0)]) (nI_1 nT)) ?_
                refine xiast hx hb hE.1.1 hS (hP.arr 0 (by decide)) (hP.oarr 0 (by decide)) 0 rfl (k := 0) rfl (show _ < 7 by omega) (by decide) dL_law_499 (fun H1 locs1 he1 z1 oq1 hS => ?_)
                have hP := hP.put 0 0 (by decide) he1 oq1
                have hC := hC.offL (f := 0) (by decide) z1 oq1
                refine lv_goto (tgt := 2555) hx hb dL_law_500 (by decide) ?_
                have hRf : LR (up (up (up (up μ 3 nT (nI (1 + 4 * 0 + 16 * 0 + 128 * D9))) 4 nT (τ 1 0)) 0 5 ((τ 25 0) + (τ 1 0))) 0 0 (nI (nT + 1))) (mMake τ nT 1 (-1) (-1) (τ 1 0)) (nT + 1) nW := hR.make (so := 1) (ho := 0) (me := 0) (d := D9) (by decide) (by decide) (by decide) hD9 (fun z => absurd z (by decide)) (fun z => absurd z (by decide)) eD9 (lr_pos3 hR).1 hZ.1 hn6
                exact kk _ _ _ _ _ (show cc9 + 6 ≤ cc9 + 10 by omega) (show ss9 + 250 ≤ ss9 + 300 by omega) hS (LINV.of hC hP hRf) (lv_sub hl [0, 10, 4, 11, 12, 13, 14, 15, 16, 17, 18, 19, 20, 21, 22, 23, 24, 25, 26] rfl)
