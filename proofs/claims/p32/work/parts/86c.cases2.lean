set_option maxHeartbeats 4000000 in
set_option maxRecDepth 100000 in
theorem LC_out2 (l : Launch) (hl9 : l.stackTraces = false) {p : Program} {e : Env} {s : State} {m : MethodId} {below : List Frame} {meth : Method} {c : Code} {b : Nat} {G : GE} {a0 : Nat} {al : Nat → Nat} (C : CallFix p m c cL_law 30 s #[Value.ref b] gTb RL) (hE : EN (fun q => s.heap.size ≤ q) G s s.heap) (hN : NCX s) {N cc9 ss9 : Nat} {Qw : State → Prop} {H : Heap} {locs : List Loc} {ls : Array Slot} (hcc : cc9 ≤ 700000) (hss : ss9 ≤ 6900000) (hN9 : N ≤ 200) {τ μ : SG} {nT nW : Nat} (hS : va_S (fun q => s.heap.size ≤ q) s.heap H locs) (hC : CST G (AxL s.heap.size al) a0 τ nT nW N H) (hP : PL G (fun q => s.heap.size ≤ q) al μ 14 H) (hR : LR μ τ nT nW) (ht0 : thr τ 0 = τ) {z9 kd tn : Int32} {y i r h k u : Nat} (hy : y < 67108864) (hiT : nT ≠ 0 → i < nT) (hi0 : nT = 0 → i = 0) (hr9 : r < 12) (hh4 : h < 4) (hk6 : k < 6) (hu0 : nW ≠ 0 → u < nW) (hl : lv_has ls 30 [(18, .int z9), (19, .int kd), (20, .int (nI y)), (21, .int (nI i)), (22, .int (nI r)), (23, .int (nI h)), (24, .int (nI k)), (25, .int (nI u)), (16, .int 1), (17, .int tn), (0, .ref b), (1, .ref a0), (2, .ref (al 0)), (3, .ref (al 1)), (4, .ref (al 2)), (5, .ref (al 3)), (6, .ref (al 4)), (7, .ref (al 5)), (8, .ref (al 6)), (9, .ref (al 7)), (10, .ref (al 8)), (11, .ref (al 9)), (12, .ref (al 10)), (13, .ref (al 11)), (14, .ref (al 12)), (15, .ref (al 13))])
    (kk : ∀ (H1 : Heap) (locs1 : List Loc) (ls1 : Array Slot) (cc1 ss1 : Nat), cc1 ≤ cc9 + 10 → ss1 ≤ ss9 + 300 → va_S (fun q => s.heap.size ≤ q) s.heap H1 locs1 → LINV G s.heap.size a0 al (N + 1) H1 → lv_has ls1 30 [(16, .int 1), (17, .int tn), (20, .int (nI y)), (0, .ref b), (1, .ref a0), (2, .ref (al 0)), (3, .ref (al 1)), (4, .ref (al 2)), (5, .ref (al 3)), (6, .ref (al 4)), (7, .ref (al 5)), (8, .ref (al 6)), (9, .ref (al 7)), (10, .ref (al 8)), (11, .ref (al 9)), (12, .ref (al 10)), (13, .ref (al 11)), (14, .ref (al 12)), (15, .ref (al 13))] → W p l e room_1 s m #[Value.ref b] below meth c H1 locs1 cc1 ss1 Qw (F0 m 2555 ls1 [])) : W p l e room_1 s m #[Value.ref b] below meth c H locs cc9 ss9 Qw (F0 m 1481 ls []) := by
  have hx := C.1
  have hb := C.2.1
  have hown := C.2.2.2.1
  have hts := C.2.2.2.2
  obtain ⟨h60, h10⟩ := lr_n60 hR
  have h27 : τ 27 0 = 0 := by rw [← ht0]; exact thr_27
  have hi60 : i < 60 := by
    rcases Nat.eq_zero_or_pos nT with z | z
    · rw [hi0 z]; omega
    · have := hiT (by omega); omega
  have hMB : ∀ q, McL al q → s.heap.size ≤ q := by
    rintro q ⟨f, hf, rfl⟩
    exact hP.oarr f hf
  have hZ := hC.Z
  obtain ⟨D9, hD9, eD9⟩ := hC.D
  obtain ⟨K9, hK9, eK9⟩ := hC.K
  refine lv_aload_n hx hb dL_law_1481 rfl (lv_at hl 12 rfl) ?_
  refine lv_iconst (v := 0) hx hb dL_law_1482 (by decide) ?_
  refine xiald hx hb hE.1.1 (hP.arr 0 (by decide)) 0 rfl (k := 0) rfl (show _ < 7 by omega) (by decide) dL_law_1483 ?_
  refine W.eq (g2 := F0 m 1484 ls [.int (nI nT)]) (congrArg (fun z => F0 m 1484 ls [.int z]) (lr_n0 hR)) ?_
  refine lv_if_eq (tgt := 1495) hx hb dL_law_1484 (by decide) (fun c_1484_1 => ?_) (fun c_1484_1 => ?_)
  · have hn0 : nT = 0 := nIe (b := 0) (by omega) (by decide) c_1484_1
    refine lv_iconst (v := (-1)) hx hb dL_law_1495 (by decide) ?_
    refine lv_goto (tgt := 1529) hx hb dL_law_1496 (by decide) ?_
    refine lv_istore (lv' := [(26, .int (-1)), (18, .int z9), (19, .int kd), (20, .int (nI y)), (21, .int (nI i)), (22, .int (nI r)), (23, .int (nI h)), (24, .int (nI k)), (25, .int (nI u)), (16, .int 1), (17, .int tn), (0, .ref b), (1, .ref a0), (2, .ref (al 0)), (3, .ref (al 1)), (4, .ref (al 2)), (5, .ref (al 3)), (6, .ref (al 4)), (7, .ref (al 5)), (8, .ref (al 6)), (9, .ref (al 7)), (10, .ref (al 8)), (11, .ref (al 9)), (12, .ref (al 10)), (13, .ref (al 11)), (14, .ref (al 12)), (15, .ref (al 13))]) hx hb dL_law_1529 hl (by decide) rfl (fun ls hl => ?_)
    refine lv_iload hx hb dL_law_1531 (lv_at hl 0 rfl) ?_
    refine lv_if_lt (tgt := 1566) hx hb dL_law_1533 (by decide) (fun c_1533_2 => ?_) (fun c_1533_2 => ?_)
    · refine lv_aload_n hx hb dL_law_1566 rfl (lv_at hl 12 rfl) ?_
      refine lv_iconst (v := 5) hx hb dL_law_1567 (by decide) ?_
      refine lv_iload hx hb dL_law_1568 (lv_at hl 4 rfl) ?_
      refine lv_iconst (v := 0) hx hb dL_law_1570 (by decide) ?_
      refine lv_iconst (v := 0) hx hb dL_law_1571 (by decide) ?_
      have hcm : cm_goOut τ nT nW (nI i) 0 (thr τ 1) := by
        unfold cm_goOut
        rw [ht0]
        exact Or.inl ⟨fun z => by
          obtain ⟨j, hj, -⟩ := z
          omega, rfl⟩
      refine hcallH (n := 5) C hE hN (hD_goOut l G (AxL s.heap.size al) hl9 a0 τ (thr τ 1) 0 nT nW N (nI i) hcm) wML_L_127 wST_L_does wIN_L wCW_L_does (by decide) rfl ⟨Nat.le_of_ble_eq_true rfl, Nat.le_of_ble_eq_true rfl⟩ hS (fun q h => h.1) (fun q h => AxL.new hP hS.1 q h) hC rfl hl.1 (Nat.le_of_ble_eq_true rfl) dL_law_1572 ⟨by show cc9 + 2 ≤ 709356; omega, by show ss9 + 12 ≤ 6973399; omega⟩ (fun v H1 locs1 hv hk hS => ?_)
      obtain ⟨rfl, nT', nW', hC⟩ := hv
      have hP := hP.keptL hk (fun q hq h => h.2 hq)
      refine W.eq (g2 := F0 m 1575 ls [.int ((-11))]) (congrArg (fun z => F0 m 1575 ls [.int z]) (dres1 thr_27)) ?_
      refine lv_aload_n hx hb dL_law_1575 rfl (lv_at hl 13 rfl) ?_
      refine lv_iconst (v := 0) hx hb dL_law_1576 (by decide) ?_
      refine xiald hx hb hE.1.1 (hP.arr 0 (by decide)) 0 rfl (k := 0) rfl (show _ < 7 by omega) (by decide) dL_law_1577 ?_
      refine W.eq (g2 := F0 m 1578 ls [.int (nI nT), .int (-11)]) (congrArg (fun z => F0 m 1578 ls [.int z, .int (-11)]) (lr_n0 hR)) ?_
      refine lv_if_ne (tgt := 1586) hx hb dL_law_1578 (by decide) (fun c_1578_3 => ?_) (fun c_1578_3 => ?_)
      · exact absurd (by rw [hn0]; rfl) c_1578_3
      · refine lv_bipush (v := (-11)) hx hb dL_law_1581 (by decide) ?_
        refine lv_goto (tgt := 1598) hx hb dL_law_1583 (by decide) ?_
        refine lv_icmp_ne (tgt := 1605) hx hb dL_law_1598 (by decide) (fun c_1598_4 => ?_) (fun c_1598_4 => ?_)
        · exact absurd c_1598_4 (by decide)
        · refine lv_iconst (v := 1) hx hb dL_law_1601 (by decide) ?_
          refine lv_goto (tgt := 1606) hx hb dL_law_1602 (by decide) ?_
          refine lv_istore (lv' := [(16, .int 1), (26, .int (-1)), (18, .int z9), (19, .int kd), (20, .int (nI y)), (21, .int (nI i)), (22, .int (nI r)), (23, .int (nI h)), (24, .int (nI k)), (25, .int (nI u)), (17, .int tn), (0, .ref b), (1, .ref a0), (2, .ref (al 0)), (3, .ref (al 1)), (4, .ref (al 2)), (5, .ref (al 3)), (6, .ref (al 4)), (7, .ref (al 5)), (8, .ref (al 6)), (9, .ref (al 7)), (10, .ref (al 8)), (11, .ref (al 9)), (12, .ref (al 10)), (13, .ref (al 11)), (14, .ref (al 12)), (15, .ref (al 13))]) hx hb dL_law_1606 hl (by decide) rfl (fun ls hl => ?_)
          refine lv_goto (tgt := 2555) hx hb dL_law_1608 (by decide) ?_
          have hRf : LR μ (thr τ 1) nT nW := hR.th
          exact kk _ _ _ _ _ (show cc9 + 2 ≤ cc9 + 10 by omega) (show ss9 + 12 ≤ ss9 + 300 by omega) hS (LINV.of hC hP hRf) (lv_sub hl [0, 10, 4, 11, 12, 13, 14, 15, 16, 17, 18, 19, 20, 21, 22, 23, 24, 25, 26] rfl)
    · exact absurd c_1533_2 (by decide)
  · have hn0 : nT ≠ 0 := fun z => c_1484_1 (by rw [z]; rfl)
    have hi := hiT hn0
    refine lv_aload hx hb dL_law_1487 (lv_at hl 18 rfl) ?_
    refine lv_iload hx hb dL_law_1489 (lv_at hl 3 rfl) ?_
    refine xiald hx hb hE.1.1 (hP.arr 6 (by decide)) 0 rfl (k := i) rfl (show _ < 60 by omega) (by decide) dL_law_1491 ?_
    refine lv_if_ne (tgt := 1499) hx hb dL_law_1492 (by decide) (fun c_1492_5 => ?_) (fun c_1492_5 => ?_)
    · obtain ⟨r9, hr99, hy9, ha9, hb9⟩ := its_val (lr_pl hR hi) c_1492_5
      refine lv_aload hx hb dL_law_1499 (lv_at hl 18 rfl) ?_
      refine lv_iload hx hb dL_law_1501 (lv_at hl 3 rfl) ?_
      refine xiald hx hb hE.1.1 (hP.arr 6 (by decide)) 0 rfl (k := i) rfl (show _ < 60 by omega) (by decide) dL_law_1503 ?_
      refine lv_bipush (v := 100) hx hb dL_law_1504 (by decide) ?_
      refine lv_icmp_le (tgt := 1519) hx hb dL_law_1506 (by decide) (fun c_1506_6 => ?_) (fun c_1506_6 => ?_)
      · refine lv_aload hx hb dL_law_1519 (lv_at hl 18 rfl) ?_
        refine lv_iload hx hb dL_law_1521 (lv_at hl 3 rfl) ?_
        refine xiald hx hb hE.1.1 (hP.arr 6 (by decide)) 0 rfl (k := i) rfl (show _ < 60 by omega) (by decide) dL_law_1523 ?_
        refine lv_iconst (v := 1) hx hb dL_law_1524 (by decide) ?_
        refine lv_isub hx hb dL_law_1525 ?_
        refine lv_bipush (v := 100) hx hb dL_law_1526 (by decide) ?_
        refine lv_irem hx hb dL_law_1528 (by decide) ?_
        refine W.eq (g2 := F0 m 1529 ls [.int (nI r9)]) (congrArg (fun z => F0 m 1529 ls [.int z]) (ha9 c_1506_6)) ?_
        refine lv_istore (lv' := [(26, .int (nI r9)), (18, .int z9), (19, .int kd), (20, .int (nI y)), (21, .int (nI i)), (22, .int (nI r)), (23, .int (nI h)), (24, .int (nI k)), (25, .int (nI u)), (16, .int 1), (17, .int tn), (0, .ref b), (1, .ref a0), (2, .ref (al 0)), (3, .ref (al 1)), (4, .ref (al 2)), (5, .ref (al 3)), (6, .ref (al 4)), (7, .ref (al 5)), (8, .ref (al 6)), (9, .ref (al 7)), (10, .ref (al 8)), (11, .ref (al 9)), (12, .ref (al 10)), (13, .ref (al 11)), (14, .ref (al 12)), (15, .ref (al 13))]) hx hb dL_law_1529 hl (by decide) rfl (fun ls hl => ?_)
        refine lv_iload hx hb dL_law_1531 (lv_at hl 0 rfl) ?_
        refine lv_if_lt (tgt := 1566) hx hb dL_law_1533 (by decide) (fun c_1533_7 => ?_) (fun c_1533_7 => ?_)
        · exact absurd c_1533_7 (nI_pos (by omega))
        · refine lv_aload hx hb dL_law_1536 (lv_at hl 19 rfl) ?_
          refine lv_iload hx hb dL_law_1538 (lv_at hl 4 rfl) ?_
          refine lv_iconst (v := 0) hx hb dL_law_1540 (by decide) ?_
          refine xiast hx hb hE.1.1 hS (hP.arr 6 (by decide)) (hP.oarr 6 (by decide)) 0 rfl (k := i) rfl (show _ < 60 by omega) (by decide) dL_law_1541 (fun H1 locs1 he1 z1 oq1 hS => ?_)
          have hP := hP.put 6 i (by decide) he1 oq1
          have hC := hC.offL (f := 6) (by decide) z1 oq1
          refine lv_aload_n hx hb dL_law_1542 rfl (lv_at hl 13 rfl) ?_
          refine lv_aload hx hb dL_law_1543 (lv_at hl 16 rfl) ?_
          refine lv_aload hx hb dL_law_1545 (lv_at hl 18 rfl) ?_
          refine lv_aload hx hb dL_law_1547 (lv_at hl 19 rfl) ?_
          refine lv_aload hx hb dL_law_1549 (lv_at hl 20 rfl) ?_
          refine lv_aload hx hb dL_law_1551 (lv_at hl 21 rfl) ?_
          refine lv_aload hx hb dL_law_1553 (lv_at hl 22 rfl) ?_
          refine lv_aload hx hb dL_law_1555 (lv_at hl 23 rfl) ?_
          refine lv_aload hx hb dL_law_1557 (lv_at hl 25 rfl) ?_
          refine lv_aload hx hb dL_law_1559 (lv_at hl 26 rfl) ?_
          refine lv_iload hx hb dL_law_1561 (lv_at hl 0 rfl) ?_
          refine hcallS (n := 11) C hE (kL_letsIn l G (fun q => McL al q ∨ H1.size ≤ q) al (up μ 6 i 0) (up τ 10 i (-1)) nT nW (hR.w6 hi (Or.inl ⟨rfl, rfl⟩)) r9 hr99) wML_L_139 wST_L_letsIn wIN_L wCO_L_letsIn (by decide) rfl ⟨Nat.le_of_ble_eq_true rfl, Nat.le_of_ble_eq_true rfl⟩ hS (fun q h => h.elim (fun h => hMB q h) (fun h => Nat.le_trans hS.1 h)) (fun q h => Or.inr h) (hP.any (fun q h => Or.inl h)) rfl hl.1 (Nat.le_of_ble_eq_true rfl) dL_law_1563 ⟨by show cc9 + 0 ≤ 709356; omega, by show ss9 + 0 ≤ 6973399; omega⟩ (fun E ce q9 H1 locs1 hx9 _ _ _ _ _ => hx9.elim) (fun v H1 locs1 hv hk hS => ?_)
          obtain ⟨rfl, μ_8, hR_9, hP⟩ := hv
          have hP := hP.any (B := (fun q => s.heap.size ≤ q)) (fun q h => hMB q h)
          have hC := hC.kept hk (fun q hq hlt h => h.elim hq.2 (fun h => absurd hlt (Nat.not_lt.mpr h)))
          refine lv_aload_n hx hb dL_law_1566 rfl (lv_at hl 12 rfl) ?_
          refine lv_iconst (v := 5) hx hb dL_law_1567 (by decide) ?_
          refine lv_iload hx hb dL_law_1568 (lv_at hl 4 rfl) ?_
          refine lv_iconst (v := 0) hx hb dL_law_1570 (by decide) ?_
          refine lv_iconst (v := 0) hx hb dL_law_1571 (by decide) ?_
          have hcm : cm_goOut τ nT nW (nI i) (nI r9) (mLet nW nT r9 nT (up τ 10 i (-1))) := by
            unfold cm_goOut
            rw [ht0]
            exact Or.inr (Or.inr ⟨i, r9, hi, rfl, hr99, hy9, rfl, rfl⟩)
          refine hcallH (n := 5) C hE hN (hD_goOut l G (AxL s.heap.size al) hl9 a0 τ (mLet nW nT r9 nT (up τ 10 i (-1))) (nI r9) nT nW N (nI i) hcm) wML_L_127 wST_L_does wIN_L wCW_L_does (by decide) rfl ⟨Nat.le_of_ble_eq_true rfl, Nat.le_of_ble_eq_true rfl⟩ hS (fun q h => h.1) (fun q h => AxL.new hP hS.1 q h) hC rfl hl.1 (Nat.le_of_ble_eq_true rfl) dL_law_1572 ⟨by show cc9 + 0 + 2 ≤ 709356; omega, by show ss9 + 0 + 12 ≤ 6973399; omega⟩ (fun v H1 locs1 hv hk hS => ?_)
          obtain ⟨rfl, nT', nW', hC⟩ := hv
          have hP := hP.keptL hk (fun q hq h => h.2 hq)
          refine W.eq (g2 := F0 m 1575 ls [.int (nI r9)]) (congrArg (fun z => F0 m 1575 ls [.int z]) (dres0 ((mLet_ne (by decide) _ _).trans (by simp [up]; exact h27)))) ?_
          refine lv_aload_n hx hb dL_law_1575 rfl (lv_at hl 13 rfl) ?_
          refine lv_iconst (v := 0) hx hb dL_law_1576 (by decide) ?_
          refine xiald hx hb hE.1.1 (hP.arr 0 (by decide)) 0 rfl (k := 0) rfl (show _ < 7 by omega) (by decide) dL_law_1577 ?_
          refine W.eq (g2 := F0 m 1578 ls [.int (nI nT), .int (nI r9)]) (congrArg (fun z => F0 m 1578 ls [.int z, .int (nI r9)]) (lr_n0 hR_9)) ?_
          refine lv_if_ne (tgt := 1586) hx hb dL_law_1578 (by decide) (fun c_1578_10 => ?_) (fun c_1578_10 => ?_)
          · refine lv_iload hx hb dL_law_1586 (lv_at hl 0 rfl) ?_
            refine lv_if_ge (tgt := 1596) hx hb dL_law_1588 (by decide) (fun c_1588_11 => ?_) (fun c_1588_11 => ?_)
            · refine lv_iload hx hb dL_law_1596 (lv_at hl 0 rfl) ?_
              refine lv_icmp_ne (tgt := 1605) hx hb dL_law_1598 (by decide) (fun c_1598_12 => ?_) (fun c_1598_12 => ?_)
              · exact absurd rfl c_1598_12
              · refine lv_iconst (v := 1) hx hb dL_law_1601 (by decide) ?_
                refine lv_goto (tgt := 1606) hx hb dL_law_1602 (by decide) ?_
                refine lv_istore (lv' := [(16, .int 1), (26, .int (nI r9)), (18, .int z9), (19, .int kd), (20, .int (nI y)), (21, .int (nI i)), (22, .int (nI r)), (23, .int (nI h)), (24, .int (nI k)), (25, .int (nI u)), (17, .int tn), (0, .ref b), (1, .ref a0), (2, .ref (al 0)), (3, .ref (al 1)), (4, .ref (al 2)), (5, .ref (al 3)), (6, .ref (al 4)), (7, .ref (al 5)), (8, .ref (al 6)), (9, .ref (al 7)), (10, .ref (al 8)), (11, .ref (al 9)), (12, .ref (al 10)), (13, .ref (al 11)), (14, .ref (al 12)), (15, .ref (al 13))]) hx hb dL_law_1606 hl (by decide) rfl (fun ls hl => ?_)
                refine lv_goto (tgt := 2555) hx hb dL_law_1608 (by decide) ?_
                have hRf : LR μ_8 (mLet nW nT r9 nT (up τ 10 i (-1))) nT nW := hR_9
                exact kk _ _ _ _ _ (show cc9 + 0 + 2 ≤ cc9 + 10 by omega) (show ss9 + 0 + 12 ≤ ss9 + 300 by omega) hS (LINV.of hC hP hRf) (lv_sub hl [0, 10, 4, 11, 12, 13, 14, 15, 16, 17, 18, 19, 20, 21, 22, 23, 24, 25, 26] rfl)
            · exact absurd (nI_pos' (by omega)) c_1588_11
          · exact absurd (nIe (b := 0) (by omega) (by decide) c_1578_10) hn0
      · refine lv_aload hx hb dL_law_1509 (lv_at hl 18 rfl) ?_
        refine lv_iload hx hb dL_law_1511 (lv_at hl 3 rfl) ?_
        refine xiald hx hb hE.1.1 (hP.arr 6 (by decide)) 0 rfl (k := i) rfl (show _ < 60 by omega) (by decide) dL_law_1513 ?_
        refine lv_iconst (v := 2) hx hb dL_law_1514 (by decide) ?_
        refine lv_isub hx hb dL_law_1515 ?_
        refine lv_goto (tgt := 1526) hx hb dL_law_1516 (by decide) ?_
        refine lv_bipush (v := 100) hx hb dL_law_1526 (by decide) ?_
        refine lv_irem hx hb dL_law_1528 (by decide) ?_
        refine W.eq (g2 := F0 m 1529 ls [.int (nI r9)]) (congrArg (fun z => F0 m 1529 ls [.int z]) (hb9 c_1506_6)) ?_
        refine lv_istore (lv' := [(26, .int (nI r9)), (18, .int z9), (19, .int kd), (20, .int (nI y)), (21, .int (nI i)), (22, .int (nI r)), (23, .int (nI h)), (24, .int (nI k)), (25, .int (nI u)), (16, .int 1), (17, .int tn), (0, .ref b), (1, .ref a0), (2, .ref (al 0)), (3, .ref (al 1)), (4, .ref (al 2)), (5, .ref (al 3)), (6, .ref (al 4)), (7, .ref (al 5)), (8, .ref (al 6)), (9, .ref (al 7)), (10, .ref (al 8)), (11, .ref (al 9)), (12, .ref (al 10)), (13, .ref (al 11)), (14, .ref (al 12)), (15, .ref (al 13))]) hx hb dL_law_1529 hl (by decide) rfl (fun ls hl => ?_)
        refine lv_iload hx hb dL_law_1531 (lv_at hl 0 rfl) ?_
        refine lv_if_lt (tgt := 1566) hx hb dL_law_1533 (by decide) (fun c_1533_13 => ?_) (fun c_1533_13 => ?_)
        · exact absurd c_1533_13 (nI_pos (by omega))
        · refine lv_aload hx hb dL_law_1536 (lv_at hl 19 rfl) ?_
          refine lv_iload hx hb dL_law_1538 (lv_at hl 4 rfl) ?_
          refine lv_iconst (v := 0) hx hb dL_law_1540 (by decide) ?_
          refine xiast hx hb hE.1.1 hS (hP.arr 6 (by decide)) (hP.oarr 6 (by decide)) 0 rfl (k := i) rfl (show _ < 60 by omega) (by decide) dL_law_1541 (fun H1 locs1 he1 z1 oq1 hS => ?_)
          have hP := hP.put 6 i (by decide) he1 oq1
          have hC := hC.offL (f := 6) (by decide) z1 oq1
          refine lv_aload_n hx hb dL_law_1542 rfl (lv_at hl 13 rfl) ?_
          refine lv_aload hx hb dL_law_1543 (lv_at hl 16 rfl) ?_
          refine lv_aload hx hb dL_law_1545 (lv_at hl 18 rfl) ?_
          refine lv_aload hx hb dL_law_1547 (lv_at hl 19 rfl) ?_
          refine lv_aload hx hb dL_law_1549 (lv_at hl 20 rfl) ?_
          refine lv_aload hx hb dL_law_1551 (lv_at hl 21 rfl) ?_
          refine lv_aload hx hb dL_law_1553 (lv_at hl 22 rfl) ?_
          refine lv_aload hx hb dL_law_1555 (lv_at hl 23 rfl) ?_
          refine lv_aload hx hb dL_law_1557 (lv_at hl 25 rfl) ?_
          refine lv_aload hx hb dL_law_1559 (lv_at hl 26 rfl) ?_
          refine lv_iload hx hb dL_law_1561 (lv_at hl 0 rfl) ?_
          refine hcallS (n := 11) C hE (kL_letsIn l G (fun q => McL al q ∨ H1.size ≤ q) al (up μ 6 i 0) (up τ 10 i (-1)) nT nW (hR.w6 hi (Or.inl ⟨rfl, rfl⟩)) r9 hr99) wML_L_139 wST_L_letsIn wIN_L wCO_L_letsIn (by decide) rfl ⟨Nat.le_of_ble_eq_true rfl, Nat.le_of_ble_eq_true rfl⟩ hS (fun q h => h.elim (fun h => hMB q h) (fun h => Nat.le_trans hS.1 h)) (fun q h => Or.inr h) (hP.any (fun q h => Or.inl h)) rfl hl.1 (Nat.le_of_ble_eq_true rfl) dL_law_1563 ⟨by show cc9 + 0 ≤ 709356; omega, by show ss9 + 0 ≤ 6973399; omega⟩ (fun E ce q9 H1 locs1 hx9 _ _ _ _ _ => hx9.elim) (fun v H1 locs1 hv hk hS => ?_)
          obtain ⟨rfl, μ_14, hR_15, hP⟩ := hv
          have hP := hP.any (B := (fun q => s.heap.size ≤ q)) (fun q h => hMB q h)
          have hC := hC.kept hk (fun q hq hlt h => h.elim hq.2 (fun h => absurd hlt (Nat.not_lt.mpr h)))
          refine lv_aload_n hx hb dL_law_1566 rfl (lv_at hl 12 rfl) ?_
          refine lv_iconst (v := 5) hx hb dL_law_1567 (by decide) ?_
          refine lv_iload hx hb dL_law_1568 (lv_at hl 4 rfl) ?_
          refine lv_iconst (v := 0) hx hb dL_law_1570 (by decide) ?_
          refine lv_iconst (v := 0) hx hb dL_law_1571 (by decide) ?_
          have hcm : cm_goOut τ nT nW (nI i) (nI r9) (mLet nW nT r9 nT (up τ 10 i (-1))) := by
            unfold cm_goOut
            rw [ht0]
            exact Or.inr (Or.inr ⟨i, r9, hi, rfl, hr99, hy9, rfl, rfl⟩)
          refine hcallH (n := 5) C hE hN (hD_goOut l G (AxL s.heap.size al) hl9 a0 τ (mLet nW nT r9 nT (up τ 10 i (-1))) (nI r9) nT nW N (nI i) hcm) wML_L_127 wST_L_does wIN_L wCW_L_does (by decide) rfl ⟨Nat.le_of_ble_eq_true rfl, Nat.le_of_ble_eq_true rfl⟩ hS (fun q h => h.1) (fun q h => AxL.new hP hS.1 q h) hC rfl hl.1 (Nat.le_of_ble_eq_true rfl) dL_law_1572 ⟨by show cc9 + 0 + 2 ≤ 709356; omega, by show ss9 + 0 + 12 ≤ 6973399; omega⟩ (fun v H1 locs1 hv hk hS => ?_)
          obtain ⟨rfl, nT', nW', hC⟩ := hv
          have hP := hP.keptL hk (fun q hq h => h.2 hq)
          refine W.eq (g2 := F0 m 1575 ls [.int (nI r9)]) (congrArg (fun z => F0 m 1575 ls [.int z]) (dres0 ((mLet_ne (by decide) _ _).trans (by simp [up]; exact h27)))) ?_
          refine lv_aload_n hx hb dL_law_1575 rfl (lv_at hl 13 rfl) ?_
          refine lv_iconst (v := 0) hx hb dL_law_1576 (by decide) ?_
          refine xiald hx hb hE.1.1 (hP.arr 0 (by decide)) 0 rfl (k := 0) rfl (show _ < 7 by omega) (by decide) dL_law_1577 ?_
          refine W.eq (g2 := F0 m 1578 ls [.int (nI nT), .int (nI r9)]) (congrArg (fun z => F0 m 1578 ls [.int z, .int (nI r9)]) (lr_n0 hR_15)) ?_
          refine lv_if_ne (tgt := 1586) hx hb dL_law_1578 (by decide) (fun c_1578_16 => ?_) (fun c_1578_16 => ?_)
          · refine lv_iload hx hb dL_law_1586 (lv_at hl 0 rfl) ?_
            refine lv_if_ge (tgt := 1596) hx hb dL_law_1588 (by decide) (fun c_1588_17 => ?_) (fun c_1588_17 => ?_)
            · refine lv_iload hx hb dL_law_1596 (lv_at hl 0 rfl) ?_
              refine lv_icmp_ne (tgt := 1605) hx hb dL_law_1598 (by decide) (fun c_1598_18 => ?_) (fun c_1598_18 => ?_)
              · exact absurd rfl c_1598_18
              · refine lv_iconst (v := 1) hx hb dL_law_1601 (by decide) ?_
                refine lv_goto (tgt := 1606) hx hb dL_law_1602 (by decide) ?_
                refine lv_istore (lv' := [(16, .int 1), (26, .int (nI r9)), (18, .int z9), (19, .int kd), (20, .int (nI y)), (21, .int (nI i)), (22, .int (nI r)), (23, .int (nI h)), (24, .int (nI k)), (25, .int (nI u)), (17, .int tn), (0, .ref b), (1, .ref a0), (2, .ref (al 0)), (3, .ref (al 1)), (4, .ref (al 2)), (5, .ref (al 3)), (6, .ref (al 4)), (7, .ref (al 5)), (8, .ref (al 6)), (9, .ref (al 7)), (10, .ref (al 8)), (11, .ref (al 9)), (12, .ref (al 10)), (13, .ref (al 11)), (14, .ref (al 12)), (15, .ref (al 13))]) hx hb dL_law_1606 hl (by decide) rfl (fun ls hl => ?_)
                refine lv_goto (tgt := 2555) hx hb dL_law_1608 (by decide) ?_
                have hRf : LR μ_14 (mLet nW nT r9 nT (up τ 10 i (-1))) nT nW := hR_15
                exact kk _ _ _ _ _ (show cc9 + 0 + 2 ≤ cc9 + 10 by omega) (show ss9 + 0 + 12 ≤ ss9 + 300 by omega) hS (LINV.of hC hP hRf) (lv_sub hl [0, 10, 4, 11, 12, 13, 14, 15, 16, 17, 18, 19, 20, 21, 22, 23, 24, 25, 26] rfl)
            · exact absurd (nI_pos' (by omega)) c_1588_17
          · exact absurd (nIe (b := 0) (by omega) (by decide) c_1578_16) hn0
    · refine lv_iconst (v := (-1)) hx hb dL_law_1495 (by decide) ?_
      refine lv_goto (tgt := 1529) hx hb dL_law_1496 (by decide) ?_
      refine lv_istore (lv' := [(26, .int (-1)), (18, .int z9), (19, .int kd), (20, .int (nI y)), (21, .int (nI i)), (22, .int (nI r)), (23, .int (nI h)), (24, .int (nI k)), (25, .int (nI u)), (16, .int 1), (17, .int tn), (0, .ref b), (1, .ref a0), (2, .ref (al 0)), (3, .ref (al 1)), (4, .ref (al 2)), (5, .ref (al 3)), (6, .ref (al 4)), (7, .ref (al 5)), (8, .ref (al 6)), (9, .ref (al 7)), (10, .ref (al 8)), (11, .ref (al 9)), (12, .ref (al 10)), (13, .ref (al 11)), (14, .ref (al 12)), (15, .ref (al 13))]) hx hb dL_law_1529 hl (by decide) rfl (fun ls hl => ?_)
      refine lv_iload hx hb dL_law_1531 (lv_at hl 0 rfl) ?_
      refine lv_if_lt (tgt := 1566) hx hb dL_law_1533 (by decide) (fun c_1533_19 => ?_) (fun c_1533_19 => ?_)
      · refine lv_aload_n hx hb dL_law_1566 rfl (lv_at hl 12 rfl) ?_
        refine lv_iconst (v := 5) hx hb dL_law_1567 (by decide) ?_
        refine lv_iload hx hb dL_law_1568 (lv_at hl 4 rfl) ?_
        refine lv_iconst (v := 0) hx hb dL_law_1570 (by decide) ?_
        refine lv_iconst (v := 0) hx hb dL_law_1571 (by decide) ?_
        have hcm : cm_goOut τ nT nW (nI i) 0 (thr τ 2) := by
          unfold cm_goOut
          rw [ht0]
          exact Or.inr (Or.inl ⟨i, hi, rfl, (pw_0 (lr_pl hR hi)).mp c_1492_5, rfl⟩)
        refine hcallH (n := 5) C hE hN (hD_goOut l G (AxL s.heap.size al) hl9 a0 τ (thr τ 2) 0 nT nW N (nI i) hcm) wML_L_127 wST_L_does wIN_L wCW_L_does (by decide) rfl ⟨Nat.le_of_ble_eq_true rfl, Nat.le_of_ble_eq_true rfl⟩ hS (fun q h => h.1) (fun q h => AxL.new hP hS.1 q h) hC rfl hl.1 (Nat.le_of_ble_eq_true rfl) dL_law_1572 ⟨by show cc9 + 2 ≤ 709356; omega, by show ss9 + 12 ≤ 6973399; omega⟩ (fun v H1 locs1 hv hk hS => ?_)
        obtain ⟨rfl, nT', nW', hC⟩ := hv
        have hP := hP.keptL hk (fun q hq h => h.2 hq)
        refine W.eq (g2 := F0 m 1575 ls [.int ((-13))]) (congrArg (fun z => F0 m 1575 ls [.int z]) (dres2 thr_27)) ?_
        refine lv_aload_n hx hb dL_law_1575 rfl (lv_at hl 13 rfl) ?_
        refine lv_iconst (v := 0) hx hb dL_law_1576 (by decide) ?_
        refine xiald hx hb hE.1.1 (hP.arr 0 (by decide)) 0 rfl (k := 0) rfl (show _ < 7 by omega) (by decide) dL_law_1577 ?_
        refine W.eq (g2 := F0 m 1578 ls [.int (nI nT), .int (-13)]) (congrArg (fun z => F0 m 1578 ls [.int z, .int (-13)]) (lr_n0 hR)) ?_
        refine lv_if_ne (tgt := 1586) hx hb dL_law_1578 (by decide) (fun c_1578_20 => ?_) (fun c_1578_20 => ?_)
        · refine lv_iload hx hb dL_law_1586 (lv_at hl 0 rfl) ?_
          refine lv_if_ge (tgt := 1596) hx hb dL_law_1588 (by decide) (fun c_1588_21 => ?_) (fun c_1588_21 => ?_)
          · exact absurd c_1588_21 (by decide)
          · refine lv_bipush (v := (-13)) hx hb dL_law_1591 (by decide) ?_
            refine lv_goto (tgt := 1598) hx hb dL_law_1593 (by decide) ?_
            refine lv_icmp_ne (tgt := 1605) hx hb dL_law_1598 (by decide) (fun c_1598_22 => ?_) (fun c_1598_22 => ?_)
            · exact absurd c_1598_22 (by decide)
            · refine lv_iconst (v := 1) hx hb dL_law_1601 (by decide) ?_
              refine lv_goto (tgt := 1606) hx hb dL_law_1602 (by decide) ?_
              refine lv_istore (lv' := [(16, .int 1), (26, .int (-1)), (18, .int z9), (19, .int kd), (20, .int (nI y)), (21, .int (nI i)), (22, .int (nI r)), (23, .int (nI h)), (24, .int (nI k)), (25, .int (nI u)), (17, .int tn), (0, .ref b), (1, .ref a0), (2, .ref (al 0)), (3, .ref (al 1)), (4, .ref (al 2)), (5, .ref (al 3)), (6, .ref (al 4)), (7, .ref (al 5)), (8, .ref (al 6)), (9, .ref (al 7)), (10, .ref (al 8)), (11, .ref (al 9)), (12, .ref (al 10)), (13, .ref (al 11)), (14, .ref (al 12)), (15, .ref (al 13))]) hx hb dL_law_1606 hl (by decide) rfl (fun ls hl => ?_)
              refine lv_goto (tgt := 2555) hx hb dL_law_1608 (by decide) ?_
              have hRf : LR μ (thr τ 2) nT nW := hR.th
              exact kk _ _ _ _ _ (show cc9 + 2 ≤ cc9 + 10 by omega) (show ss9 + 12 ≤ ss9 + 300 by omega) hS (LINV.of hC hP hRf) (lv_sub hl [0, 10, 4, 11, 12, 13, 14, 15, 16, 17, 18, 19, 20, 21, 22, 23, 24, 25, 26] rfl)
        · exact absurd (nIe (b := 0) (by omega) (by decide) c_1578_20) hn0
      · exact absurd c_1533_19 (by decide)
set_option maxHeartbeats 4000000 in
set_option maxRecDepth 100000 in
theorem LC_out (l : Launch) (hl9 : l.stackTraces = false) {p : Program} {e : Env} {s : State} {m : MethodId} {below : List Frame} {meth : Method} {c : Code} {b : Nat} {G : GE} {a0 : Nat} {al : Nat → Nat} (C : CallFix p m c cL_law 30 s #[Value.ref b] gTb RL) (hE : EN (fun q => s.heap.size ≤ q) G s s.heap) (hN : NCX s) {N cc9 ss9 : Nat} {Qw : State → Prop} {H : Heap} {locs : List Loc} {ls : Array Slot} (hcc : cc9 ≤ 700000) (hss : ss9 ≤ 6900000) (hN9 : N ≤ 200) {τ μ : SG} {nT nW : Nat} (hS : va_S (fun q => s.heap.size ≤ q) s.heap H locs) (hC : CST G (AxL s.heap.size al) a0 τ nT nW N H) (hP : PL G (fun q => s.heap.size ≤ q) al μ 14 H) (hR : LR μ τ nT nW) (ht0 : thr τ 0 = τ) {z9 kd tn : Int32} {y i r h k u : Nat} (hy : y < 67108864) (hiT : nT ≠ 0 → i < nT) (hi0 : nT = 0 → i = 0) (hr9 : r < 12) (hh4 : h < 4) (hk6 : k < 6) (hu0 : nW ≠ 0 → u < nW) (hl : lv_has ls 30 [(18, .int z9), (19, .int kd), (20, .int (nI y)), (21, .int (nI i)), (22, .int (nI r)), (23, .int (nI h)), (24, .int (nI k)), (25, .int (nI u)), (16, .int 1), (17, .int tn), (0, .ref b), (1, .ref a0), (2, .ref (al 0)), (3, .ref (al 1)), (4, .ref (al 2)), (5, .ref (al 3)), (6, .ref (al 4)), (7, .ref (al 5)), (8, .ref (al 6)), (9, .ref (al 7)), (10, .ref (al 8)), (11, .ref (al 9)), (12, .ref (al 10)), (13, .ref (al 11)), (14, .ref (al 12)), (15, .ref (al 13))])
    (kk : ∀ (H1 : Heap) (locs1 : List Loc) (ls1 : Array Slot) (cc1 ss1 : Nat), cc1 ≤ cc9 + 10 → ss1 ≤ ss9 + 300 → va_S (fun q => s.heap.size ≤ q) s.heap H1 locs1 → LINV G s.heap.size a0 al (N + 1) H1 → lv_has ls1 30 [(16, .int 1), (17, .int tn), (20, .int (nI y)), (0, .ref b), (1, .ref a0), (2, .ref (al 0)), (3, .ref (al 1)), (4, .ref (al 2)), (5, .ref (al 3)), (6, .ref (al 4)), (7, .ref (al 5)), (8, .ref (al 6)), (9, .ref (al 7)), (10, .ref (al 8)), (11, .ref (al 9)), (12, .ref (al 10)), (13, .ref (al 11)), (14, .ref (al 12)), (15, .ref (al 13))] → W p l e room_1 s m #[Value.ref b] below meth c H1 locs1 cc1 ss1 Qw (F0 m 2555 ls1 [])) : W p l e room_1 s m #[Value.ref b] below meth c H locs cc9 ss9 Qw (F0 m 1432 ls []) := by
  have hx := C.1
  have hb := C.2.1
  have hown := C.2.2.2.1
  have hts := C.2.2.2.2
  obtain ⟨h60, h10⟩ := lr_n60 hR
  have h27 : τ 27 0 = 0 := by rw [← ht0]; exact thr_27
  have hi60 : i < 60 := by
    rcases Nat.eq_zero_or_pos nT with z | z
    · rw [hi0 z]; omega
    · have := hiT (by omega); omega
  have hMB : ∀ q, McL al q → s.heap.size ≤ q := by
    rintro q ⟨f, hf, rfl⟩
    exact hP.oarr f hf
  have hZ := hC.Z
  obtain ⟨D9, hD9, eD9⟩ := hC.D
  obtain ⟨K9, hK9, eK9⟩ := hC.K
  refine lv_iload hx hb dL_law_1432 (lv_at hl 1 rfl) ?_
  refine lv_bipush (v := 20) hx hb dL_law_1434 (by decide) ?_
  refine lv_icmp_ge (tgt := 1611) hx hb dL_law_1436 (by decide) (fun c_1436_1 => ?_) (fun c_1436_1 => ?_)
  · exact LC_addw l hl9 C hE hN hcc hss hN9 hS hC hP hR ht0 hy hiT hi0 hr9 hh4 hk6 hu0 (lv_sub hl [0, 1, 2, 3, 4, 5, 6, 7, 8, 9, 10, 11, 12, 13, 14, 15, 16, 17, 18, 19, 20, 21, 22, 23, 24, 25] rfl) kk
  · refine lv_iconst (v := 0) hx hb dL_law_1439 (by decide) ?_
    refine lv_istore (lv' := [(26, .int 0), (18, .int z9), (19, .int kd), (20, .int (nI y)), (21, .int (nI i)), (22, .int (nI r)), (23, .int (nI h)), (24, .int (nI k)), (25, .int (nI u)), (16, .int 1), (17, .int tn), (0, .ref b), (1, .ref a0), (2, .ref (al 0)), (3, .ref (al 1)), (4, .ref (al 2)), (5, .ref (al 3)), (6, .ref (al 4)), (7, .ref (al 5)), (8, .ref (al 6)), (9, .ref (al 7)), (10, .ref (al 8)), (11, .ref (al 9)), (12, .ref (al 10)), (13, .ref (al 11)), (14, .ref (al 12)), (15, .ref (al 13))]) hx hb dL_law_1440 hl (by decide) rfl (fun ls hl => ?_)
    have L1442 : ∀ (n9 : Nat) (i1 j : Nat) (h1 : j ≤ nT) (h2 : nT < j + n9) (hT1 : nT ≠ 0 → i1 < nT) (h01 : nT = 0 → i1 = 0) (H : Heap) (locs : List Loc) (ls : Array Slot), va_S (fun q => s.heap.size ≤ q) s.heap H locs → PL G (fun q => s.heap.size ≤ q) al μ 14 H → CST G (AxL s.heap.size al) a0 τ nT nW N H → lv_has ls 30 [(26, .int (nI j)), (21, .int (nI i1)), (18, .int z9), (19, .int kd), (20, .int (nI y)), (22, .int (nI r)), (23, .int (nI h)), (24, .int (nI k)), (25, .int (nI u)), (16, .int 1), (17, .int tn), (0, .ref b), (1, .ref a0), (2, .ref (al 0)), (3, .ref (al 1)), (4, .ref (al 2)), (5, .ref (al 3)), (6, .ref (al 4)), (7, .ref (al 5)), (8, .ref (al 6)), (9, .ref (al 7)), (10, .ref (al 8)), (11, .ref (al 9)), (12, .ref (al 10)), (13, .ref (al 11)), (14, .ref (al 12)), (15, .ref (al 13))] → W p l e room_1 s m #[Value.ref b] below meth c H locs (cc9) (ss9) Qw (F0 m 1442 ls []) := by
      intro n9
      induction n9 with
      | zero =>
        intro i1 j h1 h2 hT1 h01 H locs ls hS hP hC hl
        exact absurd True.intro (by omega)
      | succ n9 ih1442 =>
        intro i1 j h1 h2 hT1 h01 H locs ls hS hP hC hl
        refine lv_iload hx hb dL_law_1442 (lv_at hl 0 rfl) ?_
        refine lv_aload_n hx hb dL_law_1444 rfl (lv_at hl 13 rfl) ?_
        refine lv_iconst (v := 0) hx hb dL_law_1445 (by decide) ?_
        refine xiald hx hb hE.1.1 (hP.arr 0 (by decide)) 0 rfl (k := 0) rfl (show _ < 7 by omega) (by decide) dL_law_1446 ?_
        refine W.eq (g2 := F0 m 1447 ls [.int (nI nT), .int (nI j)]) (congrArg (fun z => F0 m 1447 ls [.int z, .int (nI j)]) (lr_n0 hR)) ?_
        refine lv_icmp_ge (tgt := 1481) hx hb dL_law_1447 (by decide) (fun c_1447_2 => ?_) (fun c_1447_2 => ?_)
        · exact LC_out2 l hl9 C hE hN hcc hss hN9 hS hC hP hR ht0 hy hT1 h01 hr9 hh4 hk6 hu0 (lv_sub hl [2, 3, 4, 1, 5, 6, 7, 8, 9, 10, 11, 12, 13, 14, 15, 16, 17, 18, 19, 20, 21, 22, 23, 24, 25, 26] rfl) kk
        · have hj := nI_lt' h1 (by omega) c_1447_2
          have hi1 := hT1 (by omega)
          refine lv_aload hx hb dL_law_1450 (lv_at hl 19 rfl) ?_
          refine lv_iload hx hb dL_law_1452 (lv_at hl 1 rfl) ?_
          refine xiald hx hb hE.1.1 (hP.arr 6 (by decide)) 0 rfl (k := i1) rfl (show _ < 60 by omega) (by decide) dL_law_1454 ?_
          refine lv_if_ne (tgt := 1481) hx hb dL_law_1455 (by decide) (fun c_1455_3 => ?_) (fun c_1455_3 => ?_)
          · exact LC_out2 l hl9 C hE hN hcc hss hN9 hS hC hP hR ht0 hy hT1 h01 hr9 hh4 hk6 hu0 (lv_sub hl [2, 3, 4, 1, 5, 6, 7, 8, 9, 10, 11, 12, 13, 14, 15, 16, 17, 18, 19, 20, 21, 22, 23, 24, 25, 26] rfl) kk
          · refine lv_iload hx hb dL_law_1458 (lv_at hl 4 rfl) ?_
            refine lv_iconst (v := 4) hx hb dL_law_1460 (by decide) ?_
            refine lv_irem hx hb dL_law_1461 (by decide) ?_
            refine lv_if_le (tgt := 1481) hx hb dL_law_1462 (by decide) (fun c_1462_4 => ?_) (fun c_1462_4 => ?_)
            · exact LC_out2 l hl9 C hE hN hcc hss hN9 hS hC hP hR ht0 hy hT1 h01 hr9 hh4 hk6 hu0 (lv_sub hl [2, 3, 4, 1, 5, 6, 7, 8, 9, 10, 11, 12, 13, 14, 15, 16, 17, 18, 19, 20, 21, 22, 23, 24, 25, 26] rfl) kk
            · refine lv_iload hx hb dL_law_1465 (lv_at hl 1 rfl) ?_
              refine lv_iconst (v := 1) hx hb dL_law_1467 (by decide) ?_
              refine lv_iadd hx hb dL_law_1468 ?_
              refine W.eq (g2 := F0 m 1469 ls [.int (nI (i1 + 1))]) (congrArg (fun z => F0 m 1469 ls [.int z]) (nI_1 i1)) ?_
              refine lv_aload_n hx hb dL_law_1469 rfl (lv_at hl 13 rfl) ?_
              refine lv_iconst (v := 0) hx hb dL_law_1470 (by decide) ?_
              refine xiald hx hb hE.1.1 (hP.arr 0 (by decide)) 0 rfl (k := 0) rfl (show _ < 7 by omega) (by decide) dL_law_1471 ?_
              refine W.eq (g2 := F0 m 1472 ls [.int (nI nT), .int (nI (i1 + 1))]) (congrArg (fun z => F0 m 1472 ls [.int z, .int (nI (i1 + 1))]) (lr_n0 hR)) ?_
              refine lv_irem hx hb dL_law_1472 (nI_ne0 (by omega) (by omega)) ?_
              refine W.eq (g2 := F0 m 1473 ls [.int (nI ((i1 + 1) % nT))]) (congrArg (fun z => F0 m 1473 ls [.int z]) (pk_rem (by omega) (by omega) (by omega))) ?_
              refine lv_istore (lv' := [(21, .int (nI ((i1 + 1) % nT))), (26, .int (nI j)), (18, .int z9), (19, .int kd), (20, .int (nI y)), (22, .int (nI r)), (23, .int (nI h)), (24, .int (nI k)), (25, .int (nI u)), (16, .int 1), (17, .int tn), (0, .ref b), (1, .ref a0), (2, .ref (al 0)), (3, .ref (al 1)), (4, .ref (al 2)), (5, .ref (al 3)), (6, .ref (al 4)), (7, .ref (al 5)), (8, .ref (al 6)), (9, .ref (al 7)), (10, .ref (al 8)), (11, .ref (al 9)), (12, .ref (al 10)), (13, .ref (al 11)), (14, .ref (al 12)), (15, .ref (al 13))]) hx hb dL_law_1473 hl (by decide) rfl (fun ls hl => ?_)
              refine lv_iinc (v := (nI (j + 1))) (lv' := [(26, .int (nI (j + 1))), (21, .int (nI ((i1 + 1) % nT))), (18, .int z9), (19, .int kd), (20, .int (nI y)), (22, .int (nI r)), (23, .int (nI h)), (24, .int (nI k)), (25, .int (nI u)), (16, .int 1), (17, .int tn), (0, .ref b), (1, .ref a0), (2, .ref (al 0)), (3, .ref (al 1)), (4, .ref (al 2)), (5, .ref (al 3)), (6, .ref (al 4)), (7, .ref (al 5)), (8, .ref (al 6)), (9, .ref (al 7)), (10, .ref (al 8)), (11, .ref (al 9)), (12, .ref (al 10)), (13, .ref (al 11)), (14, .ref (al 12)), (15, .ref (al 13))]) hx hb dL_law_1475 hl (k := 1) rfl (nI_1 _) (by decide) rfl (fun ls hl => ?_)
              refine lv_goto (tgt := 1442) hx hb dL_law_1478 (by decide) ?_
              exact ih1442 ((i1 + 1) % nT) (j + 1) (by omega) (by omega) (fun _ => Nat.mod_lt _ (by omega)) (fun z => absurd z (by omega)) _ _ _ hS hP hC (lv_sub hl [0, 1, 2, 3, 4, 5, 6, 7, 8, 9, 10, 11, 12, 13, 14, 15, 16, 17, 18, 19, 20, 21, 22, 23, 24, 25, 26] rfl)
    exact L1442 (nT + 1) i 0 (by omega) (by omega) hiT hi0 _ _ _ hS hP hC (lv_sub hl [0, 4, 1, 2, 3, 5, 6, 7, 8, 9, 10, 11, 12, 13, 14, 15, 16, 17, 18, 19, 20, 21, 22, 23, 24, 25, 26] rfl)
set_option maxHeartbeats 4000000 in
set_option maxRecDepth 100000 in
theorem LC_enter (l : Launch) (hl9 : l.stackTraces = false) {p : Program} {e : Env} {s : State} {m : MethodId} {below : List Frame} {meth : Method} {c : Code} {b : Nat} {G : GE} {a0 : Nat} {al : Nat → Nat} (C : CallFix p m c cL_law 30 s #[Value.ref b] gTb RL) (hE : EN (fun q => s.heap.size ≤ q) G s s.heap) (hN : NCX s) {N cc9 ss9 : Nat} {Qw : State → Prop} {H : Heap} {locs : List Loc} {ls : Array Slot} (hcc : cc9 ≤ 700000) (hss : ss9 ≤ 6900000) (hN9 : N ≤ 200) {τ μ : SG} {nT nW : Nat} (hS : va_S (fun q => s.heap.size ≤ q) s.heap H locs) (hC : CST G (AxL s.heap.size al) a0 τ nT nW N H) (hP : PL G (fun q => s.heap.size ≤ q) al μ 14 H) (hR : LR μ τ nT nW) (ht0 : thr τ 0 = τ) {z9 kd tn : Int32} {y i r h k u : Nat} (hy : y < 67108864) (hiT : nT ≠ 0 → i < nT) (hi0 : nT = 0 → i = 0) (hr9 : r < 12) (hh4 : h < 4) (hk6 : k < 6) (hu0 : nW ≠ 0 → u < nW) (hl : lv_has ls 30 [(18, .int z9), (19, .int kd), (20, .int (nI y)), (21, .int (nI i)), (22, .int (nI r)), (23, .int (nI h)), (24, .int (nI k)), (25, .int (nI u)), (16, .int 1), (17, .int tn), (0, .ref b), (1, .ref a0), (2, .ref (al 0)), (3, .ref (al 1)), (4, .ref (al 2)), (5, .ref (al 3)), (6, .ref (al 4)), (7, .ref (al 5)), (8, .ref (al 6)), (9, .ref (al 7)), (10, .ref (al 8)), (11, .ref (al 9)), (12, .ref (al 10)), (13, .ref (al 11)), (14, .ref (al 12)), (15, .ref (al 13))])
    (kk : ∀ (H1 : Heap) (locs1 : List Loc) (ls1 : Array Slot) (cc1 ss1 : Nat), cc1 ≤ cc9 + 10 → ss1 ≤ ss9 + 300 → va_S (fun q => s.heap.size ≤ q) s.heap H1 locs1 → LINV G s.heap.size a0 al (N + 1) H1 → lv_has ls1 30 [(16, .int 1), (17, .int tn), (20, .int (nI y)), (0, .ref b), (1, .ref a0), (2, .ref (al 0)), (3, .ref (al 1)), (4, .ref (al 2)), (5, .ref (al 3)), (6, .ref (al 4)), (7, .ref (al 5)), (8, .ref (al 6)), (9, .ref (al 7)), (10, .ref (al 8)), (11, .ref (al 9)), (12, .ref (al 10)), (13, .ref (al 11)), (14, .ref (al 12)), (15, .ref (al 13))] → W p l e room_1 s m #[Value.ref b] below meth c H1 locs1 cc1 ss1 Qw (F0 m 2555 ls1 [])) : W p l e room_1 s m #[Value.ref b] below meth c H locs cc9 ss9 Qw (F0 m 1197 ls []) := by
  have hx := C.1
  have hb := C.2.1
  have hown := C.2.2.2.1
  have hts := C.2.2.2.2
  obtain ⟨h60, h10⟩ := lr_n60 hR
  have h27 : τ 27 0 = 0 := by rw [← ht0]; exact thr_27
  have hi60 : i < 60 := by
    rcases Nat.eq_zero_or_pos nT with z | z
    · rw [hi0 z]; omega
    · have := hiT (by omega); omega
  have hMB : ∀ q, McL al q → s.heap.size ≤ q := by
    rintro q ⟨f, hf, rfl⟩
    exact hP.oarr f hf
  have hZ := hC.Z
  obtain ⟨D9, hD9, eD9⟩ := hC.D
  obtain ⟨K9, hK9, eK9⟩ := hC.K
  refine lv_iload hx hb dL_law_1197 (lv_at hl 1 rfl) ?_
  refine lv_bipush (v := 18) hx hb dL_law_1199 (by decide) ?_
  refine lv_icmp_ge (tgt := 1432) hx hb dL_law_1201 (by decide) (fun c_1201_1 => ?_) (fun c_1201_1 => ?_)
  · exact LC_out l hl9 C hE hN hcc hss hN9 hS hC hP hR ht0 hy hiT hi0 hr9 hh4 hk6 hu0 (lv_sub hl [0, 1, 2, 3, 4, 5, 6, 7, 8, 9, 10, 11, 12, 13, 14, 15, 16, 17, 18, 19, 20, 21, 22, 23, 24, 25] rfl) kk
  · refine lv_aload_n hx hb dL_law_1204 rfl (lv_at hl 12 rfl) ?_
    refine lv_iconst (v := 0) hx hb dL_law_1205 (by decide) ?_
    refine xiald hx hb hE.1.1 (hP.arr 0 (by decide)) 0 rfl (k := 0) rfl (show _ < 7 by omega) (by decide) dL_law_1206 ?_
    refine W.eq (g2 := F0 m 1207 ls [.int (nI nT)]) (congrArg (fun z => F0 m 1207 ls [.int z]) (lr_n0 hR)) ?_
    refine lv_if_le (tgt := 1273) hx hb dL_law_1207 (by decide) (fun c_1207_2 => ?_) (fun c_1207_2 => ?_)
    · have hn0 : nT = 0 := nI_le0 (by omega) c_1207_2
      refine lv_iconst (v := 0) hx hb dL_law_1273 (by decide) ?_
      refine lv_istore (lv' := [(26, .int 0), (18, .int z9), (19, .int kd), (20, .int (nI y)), (21, .int (nI i)), (22, .int (nI r)), (23, .int (nI h)), (24, .int (nI k)), (25, .int (nI u)), (16, .int 1), (17, .int tn), (0, .ref b), (1, .ref a0), (2, .ref (al 0)), (3, .ref (al 1)), (4, .ref (al 2)), (5, .ref (al 3)), (6, .ref (al 4)), (7, .ref (al 5)), (8, .ref (al 6)), (9, .ref (al 7)), (10, .ref (al 8)), (11, .ref (al 9)), (12, .ref (al 10)), (13, .ref (al 11)), (14, .ref (al 12)), (15, .ref (al 13))]) hx hb dL_law_1274 hl (by decide) rfl (fun ls hl => ?_)
      refine lv_iload hx hb dL_law_1276 (lv_at hl 0 rfl) ?_
      refine lv_if_eq (tgt := 1317) hx hb dL_law_1278 (by decide) (fun c_1278_3 => ?_) (fun c_1278_3 => ?_)
      · refine lv_iconst (v := 0) hx hb dL_law_1317 (by decide) ?_
        refine lv_istore (lv' := [(27, .int 0), (26, .int 0), (18, .int z9), (19, .int kd), (20, .int (nI y)), (21, .int (nI i)), (22, .int (nI r)), (23, .int (nI h)), (24, .int (nI k)), (25, .int (nI u)), (16, .int 1), (17, .int tn), (0, .ref b), (1, .ref a0), (2, .ref (al 0)), (3, .ref (al 1)), (4, .ref (al 2)), (5, .ref (al 3)), (6, .ref (al 4)), (7, .ref (al 5)), (8, .ref (al 6)), (9, .ref (al 7)), (10, .ref (al 8)), (11, .ref (al 9)), (12, .ref (al 10)), (13, .ref (al 11)), (14, .ref (al 12)), (15, .ref (al 13))]) hx hb dL_law_1318 hl (by decide) rfl (fun ls hl => ?_)
        refine lv_iload hx hb dL_law_1320 (lv_at hl 0 rfl) ?_
        refine lv_if_eq (tgt := 1348) hx hb dL_law_1322 (by decide) (fun c_1322_4 => ?_) (fun c_1322_4 => ?_)
        · refine lv_iload hx hb dL_law_1348 (lv_at hl 1 rfl) ?_
          refine lv_if_eq (tgt := 1378) hx hb dL_law_1350 (by decide) (fun c_1350_5 => ?_) (fun c_1350_5 => ?_)
          · refine lv_aload_n hx hb dL_law_1378 rfl (lv_at hl 13 rfl) ?_
            refine lv_iconst (v := 4) hx hb dL_law_1379 (by decide) ?_
            refine lv_iload hx hb dL_law_1380 (lv_at hl 5 rfl) ?_
            refine lv_iload hx hb dL_law_1382 (lv_at hl 6 rfl) ?_
            refine lv_iconst (v := 0) hx hb dL_law_1384 (by decide) ?_
            have hcm : cm_enter τ nT nW (nI i) (nI r) 0 (thr τ 1) := by
              unfold cm_enter
              rw [ht0]
              exact Or.inl ⟨fun z => by
                obtain ⟨⟨j, hj, -⟩, -⟩ := z
                omega, rfl⟩
            refine hcallH (n := 5) C hE hN (hD_enter l G (AxL s.heap.size al) hl9 a0 τ (thr τ 1) 0 nT nW N (nI i) (nI r) hcm (by omega)) wML_L_127 wST_L_does wIN_L wCW_L_does (by decide) rfl ⟨Nat.le_of_ble_eq_true rfl, Nat.le_of_ble_eq_true rfl⟩ hS (fun q h => h.1) (fun q h => AxL.new hP hS.1 q h) hC rfl hl.1 (Nat.le_of_ble_eq_true rfl) dL_law_1385 ⟨by show cc9 + 6 ≤ 709356; omega, by show ss9 + 250 ≤ 6973399; omega⟩ (fun v H1 locs1 hv hk hS => ?_)
            obtain ⟨rfl, nT', nW', hC⟩ := hv
            have hP := hP.keptL hk (fun q hq h => h.2 hq)
            refine W.eq (g2 := F0 m 1388 ls [.int ((-11))]) (congrArg (fun z => F0 m 1388 ls [.int z]) (dres1 thr_27)) ?_
            refine lv_aload_n hx hb dL_law_1388 rfl (lv_at hl 14 rfl) ?_
            refine lv_iconst (v := 0) hx hb dL_law_1389 (by decide) ?_
            refine xiald hx hb hE.1.1 (hP.arr 0 (by decide)) 0 rfl (k := 0) rfl (show _ < 7 by omega) (by decide) dL_law_1390 ?_
            refine W.eq (g2 := F0 m 1391 ls [.int (nI nT), .int (-11)]) (congrArg (fun z => F0 m 1391 ls [.int z, .int (-11)]) (lr_n0 hR)) ?_
            refine lv_if_ne (tgt := 1399) hx hb dL_law_1391 (by decide) (fun c_1391_6 => ?_) (fun c_1391_6 => ?_)
            · exact absurd (by rw [hn0]; rfl) c_1391_6
            · refine lv_bipush (v := (-11)) hx hb dL_law_1394 (by decide) ?_
              refine lv_goto (tgt := 1419) hx hb dL_law_1396 (by decide) ?_
              refine lv_icmp_ne (tgt := 1426) hx hb dL_law_1419 (by decide) (fun c_1419_7 => ?_) (fun c_1419_7 => ?_)
              · exact absurd c_1419_7 (by decide)
              · refine lv_iconst (v := 1) hx hb dL_law_1422 (by decide) ?_
                refine lv_goto (tgt := 1427) hx hb dL_law_1423 (by decide) ?_
                refine lv_istore (lv' := [(16, .int 1), (27, .int 0), (26, .int 0), (18, .int z9), (19, .int kd), (20, .int (nI y)), (21, .int (nI i)), (22, .int (nI r)), (23, .int (nI h)), (24, .int (nI k)), (25, .int (nI u)), (17, .int tn), (0, .ref b), (1, .ref a0), (2, .ref (al 0)), (3, .ref (al 1)), (4, .ref (al 2)), (5, .ref (al 3)), (6, .ref (al 4)), (7, .ref (al 5)), (8, .ref (al 6)), (9, .ref (al 7)), (10, .ref (al 8)), (11, .ref (al 9)), (12, .ref (al 10)), (13, .ref (al 11)), (14, .ref (al 12)), (15, .ref (al 13))]) hx hb dL_law_1427 hl (by decide) rfl (fun ls hl => ?_)
                refine lv_goto (tgt := 2555) hx hb dL_law_1429 (by decide) ?_
                have hRf : LR μ (thr τ 1) nT nW := hR.th
                exact kk _ _ _ _ _ (show cc9 + 6 ≤ cc9 + 10 by omega) (show ss9 + 250 ≤ ss9 + 300 by omega) hS (LINV.of hC hP hRf) (lv_sub hl [0, 11, 5, 12, 13, 14, 15, 16, 17, 18, 19, 20, 21, 22, 23, 24, 25, 26, 27] rfl)
          · exact absurd c_1350_5 (by decide)
        · exact absurd c_1322_4 (by decide)
      · exact absurd c_1278_3 (by decide)
    · have hn0 : nT ≠ 0 := nI_gt0 c_1207_2
      have hi := hiT hn0
      refine lv_aload_n hx hb dL_law_1210 rfl (lv_at hl 12 rfl) ?_
      refine lv_aload hx hb dL_law_1211 (lv_at hl 15 rfl) ?_
      refine lv_aload hx hb dL_law_1213 (lv_at hl 16 rfl) ?_
      refine lv_iload hx hb dL_law_1215 (lv_at hl 3 rfl) ?_
      refine hcallS (n := 4) C hE (kL_isNow l G (fun q => H.size ≤ q) (fun q => s.heap.size ≤ q) al μ τ nT nW hR i hi) wML_L_28 wST_L_isNow wIN_L wCO_L_isNow (by decide) rfl ⟨Nat.le_of_ble_eq_true rfl, Nat.le_of_ble_eq_true rfl⟩ hS (fun q h => Nat.le_trans hS.1 h) (fun q h => h) hP rfl hl.1 (Nat.le_of_ble_eq_true rfl) dL_law_1217 ⟨by show cc9 + 0 ≤ 709356; omega, by show ss9 + 0 ≤ 6973399; omega⟩ (fun E ce q9 H1 locs1 hx9 _ _ _ _ _ => hx9.elim) (fun v H1 locs1 hv hk hS => ?_)
      have hP := hP.old hk
      have hC := hC.old hk
      subst hv
      refine lv_if_eq (tgt := 1273) hx hb dL_law_1220 (by decide) (fun c_1220_8 => ?_) (fun c_1220_8 => ?_)
      · refine lv_iconst (v := 0) hx hb dL_law_1273 (by decide) ?_
        refine lv_istore (lv' := [(26, .int 0), (18, .int z9), (19, .int kd), (20, .int (nI y)), (21, .int (nI i)), (22, .int (nI r)), (23, .int (nI h)), (24, .int (nI k)), (25, .int (nI u)), (16, .int 1), (17, .int tn), (0, .ref b), (1, .ref a0), (2, .ref (al 0)), (3, .ref (al 1)), (4, .ref (al 2)), (5, .ref (al 3)), (6, .ref (al 4)), (7, .ref (al 5)), (8, .ref (al 6)), (9, .ref (al 7)), (10, .ref (al 8)), (11, .ref (al 9)), (12, .ref (al 10)), (13, .ref (al 11)), (14, .ref (al 12)), (15, .ref (al 13))]) hx hb dL_law_1274 hl (by decide) rfl (fun ls hl => ?_)
        refine lv_iload hx hb dL_law_1276 (lv_at hl 0 rfl) ?_
        refine lv_if_eq (tgt := 1317) hx hb dL_law_1278 (by decide) (fun c_1278_9 => ?_) (fun c_1278_9 => ?_)
        · refine lv_iconst (v := 0) hx hb dL_law_1317 (by decide) ?_
          refine lv_istore (lv' := [(27, .int 0), (26, .int 0), (18, .int z9), (19, .int kd), (20, .int (nI y)), (21, .int (nI i)), (22, .int (nI r)), (23, .int (nI h)), (24, .int (nI k)), (25, .int (nI u)), (16, .int 1), (17, .int tn), (0, .ref b), (1, .ref a0), (2, .ref (al 0)), (3, .ref (al 1)), (4, .ref (al 2)), (5, .ref (al 3)), (6, .ref (al 4)), (7, .ref (al 5)), (8, .ref (al 6)), (9, .ref (al 7)), (10, .ref (al 8)), (11, .ref (al 9)), (12, .ref (al 10)), (13, .ref (al 11)), (14, .ref (al 12)), (15, .ref (al 13))]) hx hb dL_law_1318 hl (by decide) rfl (fun ls hl => ?_)
          refine lv_iload hx hb dL_law_1320 (lv_at hl 0 rfl) ?_
          refine lv_if_eq (tgt := 1348) hx hb dL_law_1322 (by decide) (fun c_1322_10 => ?_) (fun c_1322_10 => ?_)
          · refine lv_iload hx hb dL_law_1348 (lv_at hl 1 rfl) ?_
            refine lv_if_eq (tgt := 1378) hx hb dL_law_1350 (by decide) (fun c_1350_11 => ?_) (fun c_1350_11 => ?_)
            · refine lv_aload_n hx hb dL_law_1378 rfl (lv_at hl 13 rfl) ?_
              refine lv_iconst (v := 4) hx hb dL_law_1379 (by decide) ?_
              refine lv_iload hx hb dL_law_1380 (lv_at hl 5 rfl) ?_
              refine lv_iload hx hb dL_law_1382 (lv_at hl 6 rfl) ?_
              refine lv_iconst (v := 0) hx hb dL_law_1384 (by decide) ?_
              have hcm : cm_enter τ nT nW (nI i) (nI r) 0 (thr τ 2) := by
                unfold cm_enter
                rw [ht0]
                exact Or.inr (Or.inl ⟨i, r, hi, rfl, hr9, rfl, fun z => (by have z2 := z.1; rw [b2i_0.mp c_1220_8] at z2; cases z2), rfl⟩)
              refine hcallH (n := 5) C hE hN (hD_enter l G (AxL s.heap.size al) hl9 a0 τ (thr τ 2) 0 nT nW N (nI i) (nI r) hcm (by omega)) wML_L_127 wST_L_does wIN_L wCW_L_does (by decide) rfl ⟨Nat.le_of_ble_eq_true rfl, Nat.le_of_ble_eq_true rfl⟩ hS (fun q h => h.1) (fun q h => AxL.new hP hS.1 q h) hC rfl hl.1 (Nat.le_of_ble_eq_true rfl) dL_law_1385 ⟨by show cc9 + 0 + 6 ≤ 709356; omega, by show ss9 + 0 + 250 ≤ 6973399; omega⟩ (fun v H1 locs1 hv hk hS => ?_)
              obtain ⟨rfl, nT', nW', hC⟩ := hv
              have hP := hP.keptL hk (fun q hq h => h.2 hq)
              refine W.eq (g2 := F0 m 1388 ls [.int ((-13))]) (congrArg (fun z => F0 m 1388 ls [.int z]) (dres2 thr_27)) ?_
              refine lv_aload_n hx hb dL_law_1388 rfl (lv_at hl 14 rfl) ?_
              refine lv_iconst (v := 0) hx hb dL_law_1389 (by decide) ?_
              refine xiald hx hb hE.1.1 (hP.arr 0 (by decide)) 0 rfl (k := 0) rfl (show _ < 7 by omega) (by decide) dL_law_1390 ?_
              refine W.eq (g2 := F0 m 1391 ls [.int (nI nT), .int (-13)]) (congrArg (fun z => F0 m 1391 ls [.int z, .int (-13)]) (lr_n0 hR)) ?_
              refine lv_if_ne (tgt := 1399) hx hb dL_law_1391 (by decide) (fun c_1391_12 => ?_) (fun c_1391_12 => ?_)
              · refine lv_iload hx hb dL_law_1399 (lv_at hl 1 rfl) ?_
                refine lv_if_ne (tgt := 1409) hx hb dL_law_1401 (by decide) (fun c_1401_13 => ?_) (fun c_1401_13 => ?_)
                · exact absurd c_1401_13 (by decide)
                · refine lv_bipush (v := (-13)) hx hb dL_law_1404 (by decide) ?_
                  refine lv_goto (tgt := 1419) hx hb dL_law_1406 (by decide) ?_
                  refine lv_icmp_ne (tgt := 1426) hx hb dL_law_1419 (by decide) (fun c_1419_14 => ?_) (fun c_1419_14 => ?_)
                  · exact absurd c_1419_14 (by decide)
                  · refine lv_iconst (v := 1) hx hb dL_law_1422 (by decide) ?_
                    refine lv_goto (tgt := 1427) hx hb dL_law_1423 (by decide) ?_
                    refine lv_istore (lv' := [(16, .int 1), (27, .int 0), (26, .int 0), (18, .int z9), (19, .int kd), (20, .int (nI y)), (21, .int (nI i)), (22, .int (nI r)), (23, .int (nI h)), (24, .int (nI k)), (25, .int (nI u)), (17, .int tn), (0, .ref b), (1, .ref a0), (2, .ref (al 0)), (3, .ref (al 1)), (4, .ref (al 2)), (5, .ref (al 3)), (6, .ref (al 4)), (7, .ref (al 5)), (8, .ref (al 6)), (9, .ref (al 7)), (10, .ref (al 8)), (11, .ref (al 9)), (12, .ref (al 10)), (13, .ref (al 11)), (14, .ref (al 12)), (15, .ref (al 13))]) hx hb dL_law_1427 hl (by decide) rfl (fun ls hl => ?_)
                    refine lv_goto (tgt := 2555) hx hb dL_law_1429 (by decide) ?_
                    have hRf : LR μ (thr τ 2) nT nW := hR.th
                    exact kk _ _ _ _ _ (show cc9 + 0 + 6 ≤ cc9 + 10 by omega) (show ss9 + 0 + 250 ≤ ss9 + 300 by omega) hS (LINV.of hC hP hRf) (lv_sub hl [0, 11, 5, 12, 13, 14, 15, 16, 17, 18, 19, 20, 21, 22, 23, 24, 25, 26, 27] rfl)
              · exact absurd (nIe (b := 0) (by omega) (by decide) c_1391_12) hn0
            · exact absurd c_1350_11 (by decide)
          · exact absurd c_1322_10 (by decide)
        · exact absurd c_1278_9 (by decide)
      · refine lv_aload hx hb dL_law_1223 (lv_at hl 15 rfl) ?_
        refine lv_iload hx hb dL_law_1225 (lv_at hl 3 rfl) ?_
        refine xiald hx hb hE.1.1 (hP.arr 3 (by decide)) 0 rfl (k := i) rfl (show _ < 60 by omega) (by decide) dL_law_1227 ?_
        refine lv_iconst (v := 4) hx hb dL_law_1228 (by decide) ?_
        refine lv_irem hx hb dL_law_1229 (by decide) ?_
        refine W.eq (g2 := F0 m 1230 ls [.int (τ 4 i)]) (congrArg (fun z => F0 m 1230 ls [.int z]) (lr_so hR hi)) ?_
        refine lv_if_gt (tgt := 1249) hx hb dL_law_1230 (by decide) (fun c_1230_15 => ?_) (fun c_1230_15 => ?_)
        · refine lv_aload hx hb dL_law_1249 (lv_at hl 18 rfl) ?_
          refine lv_iload hx hb dL_law_1251 (lv_at hl 3 rfl) ?_
          refine xiald hx hb hE.1.1 (hP.arr 6 (by decide)) 0 rfl (k := i) rfl (show _ < 60 by omega) (by decide) dL_law_1253 ?_
          refine lv_if_ne (tgt := 1273) hx hb dL_law_1254 (by decide) (fun c_1254_16 => ?_) (fun c_1254_16 => ?_)
          · refine lv_iconst (v := 0) hx hb dL_law_1273 (by decide) ?_
            refine lv_istore (lv' := [(26, .int 0), (18, .int z9), (19, .int kd), (20, .int (nI y)), (21, .int (nI i)), (22, .int (nI r)), (23, .int (nI h)), (24, .int (nI k)), (25, .int (nI u)), (16, .int 1), (17, .int tn), (0, .ref b), (1, .ref a0), (2, .ref (al 0)), (3, .ref (al 1)), (4, .ref (al 2)), (5, .ref (al 3)), (6, .ref (al 4)), (7, .ref (al 5)), (8, .ref (al 6)), (9, .ref (al 7)), (10, .ref (al 8)), (11, .ref (al 9)), (12, .ref (al 10)), (13, .ref (al 11)), (14, .ref (al 12)), (15, .ref (al 13))]) hx hb dL_law_1274 hl (by decide) rfl (fun ls hl => ?_)
            refine lv_iload hx hb dL_law_1276 (lv_at hl 0 rfl) ?_
            refine lv_if_eq (tgt := 1317) hx hb dL_law_1278 (by decide) (fun c_1278_17 => ?_) (fun c_1278_17 => ?_)
            · refine lv_iconst (v := 0) hx hb dL_law_1317 (by decide) ?_
              refine lv_istore (lv' := [(27, .int 0), (26, .int 0), (18, .int z9), (19, .int kd), (20, .int (nI y)), (21, .int (nI i)), (22, .int (nI r)), (23, .int (nI h)), (24, .int (nI k)), (25, .int (nI u)), (16, .int 1), (17, .int tn), (0, .ref b), (1, .ref a0), (2, .ref (al 0)), (3, .ref (al 1)), (4, .ref (al 2)), (5, .ref (al 3)), (6, .ref (al 4)), (7, .ref (al 5)), (8, .ref (al 6)), (9, .ref (al 7)), (10, .ref (al 8)), (11, .ref (al 9)), (12, .ref (al 10)), (13, .ref (al 11)), (14, .ref (al 12)), (15, .ref (al 13))]) hx hb dL_law_1318 hl (by decide) rfl (fun ls hl => ?_)
              refine lv_iload hx hb dL_law_1320 (lv_at hl 0 rfl) ?_
              refine lv_if_eq (tgt := 1348) hx hb dL_law_1322 (by decide) (fun c_1322_18 => ?_) (fun c_1322_18 => ?_)
              · refine lv_iload hx hb dL_law_1348 (lv_at hl 1 rfl) ?_
                refine lv_if_eq (tgt := 1378) hx hb dL_law_1350 (by decide) (fun c_1350_19 => ?_) (fun c_1350_19 => ?_)
                · refine lv_aload_n hx hb dL_law_1378 rfl (lv_at hl 13 rfl) ?_
                  refine lv_iconst (v := 4) hx hb dL_law_1379 (by decide) ?_
                  refine lv_iload hx hb dL_law_1380 (lv_at hl 5 rfl) ?_
                  refine lv_iload hx hb dL_law_1382 (lv_at hl 6 rfl) ?_
                  refine lv_iconst (v := 0) hx hb dL_law_1384 (by decide) ?_
                  have hcm : cm_enter τ nT nW (nI i) (nI r) 0 (thr τ 2) := by
                    unfold cm_enter
                    rw [ht0]
                    exact Or.inr (Or.inl ⟨i, r, hi, rfl, hr9, rfl, fun z => c_1254_16 ((pw_0 (lr_pl hR hi)).mpr z.2.2.1), rfl⟩)
                  refine hcallH (n := 5) C hE hN (hD_enter l G (AxL s.heap.size al) hl9 a0 τ (thr τ 2) 0 nT nW N (nI i) (nI r) hcm (by omega)) wML_L_127 wST_L_does wIN_L wCW_L_does (by decide) rfl ⟨Nat.le_of_ble_eq_true rfl, Nat.le_of_ble_eq_true rfl⟩ hS (fun q h => h.1) (fun q h => AxL.new hP hS.1 q h) hC rfl hl.1 (Nat.le_of_ble_eq_true rfl) dL_law_1385 ⟨by show cc9 + 0 + 6 ≤ 709356; omega, by show ss9 + 0 + 250 ≤ 6973399; omega⟩ (fun v H1 locs1 hv hk hS => ?_)
                  obtain ⟨rfl, nT', nW', hC⟩ := hv
                  have hP := hP.keptL hk (fun q hq h => h.2 hq)
                  refine W.eq (g2 := F0 m 1388 ls [.int ((-13))]) (congrArg (fun z => F0 m 1388 ls [.int z]) (dres2 thr_27)) ?_
                  refine lv_aload_n hx hb dL_law_1388 rfl (lv_at hl 14 rfl) ?_
                  refine lv_iconst (v := 0) hx hb dL_law_1389 (by decide) ?_
                  refine xiald hx hb hE.1.1 (hP.arr 0 (by decide)) 0 rfl (k := 0) rfl (show _ < 7 by omega) (by decide) dL_law_1390 ?_
                  refine W.eq (g2 := F0 m 1391 ls [.int (nI nT), .int (-13)]) (congrArg (fun z => F0 m 1391 ls [.int z, .int (-13)]) (lr_n0 hR)) ?_
                  refine lv_if_ne (tgt := 1399) hx hb dL_law_1391 (by decide) (fun c_1391_20 => ?_) (fun c_1391_20 => ?_)
                  · refine lv_iload hx hb dL_law_1399 (lv_at hl 1 rfl) ?_
                    refine lv_if_ne (tgt := 1409) hx hb dL_law_1401 (by decide) (fun c_1401_21 => ?_) (fun c_1401_21 => ?_)
                    · exact absurd c_1401_21 (by decide)
                    · refine lv_bipush (v := (-13)) hx hb dL_law_1404 (by decide) ?_
                      refine lv_goto (tgt := 1419) hx hb dL_law_1406 (by decide) ?_
                      refine lv_icmp_ne (tgt := 1426) hx hb dL_law_1419 (by decide) (fun c_1419_22 => ?_) (fun c_1419_22 => ?_)
                      · exact absurd c_1419_22 (by decide)
                      · refine lv_iconst (v := 1) hx hb dL_law_1422 (by decide) ?_
                        refine lv_goto (tgt := 1427) hx hb dL_law_1423 (by decide) ?_
                        refine lv_istore (lv' := [(16, .int 1), (27, .int 0), (26, .int 0), (18, .int z9), (19, .int kd), (20, .int (nI y)), (21, .int (nI i)), (22, .int (nI r)), (23, .int (nI h)), (24, .int (nI k)), (25, .int (nI u)), (17, .int tn), (0, .ref b), (1, .ref a0), (2, .ref (al 0)), (3, .ref (al 1)), (4, .ref (al 2)), (5, .ref (al 3)), (6, .ref (al 4)), (7, .ref (al 5)), (8, .ref (al 6)), (9, .ref (al 7)), (10, .ref (al 8)), (11, .ref (al 9)), (12, .ref (al 10)), (13, .ref (al 11)), (14, .ref (al 12)), (15, .ref (al 13))]) hx hb dL_law_1427 hl (by decide) rfl (fun ls hl => ?_)
                        refine lv_goto (tgt := 2555) hx hb dL_law_1429 (by decide) ?_
                        have hRf : LR μ (thr τ 2) nT nW := hR.th
                        exact kk _ _ _ _ _ (show cc9 + 0 + 6 ≤ cc9 + 10 by omega) (show ss9 + 0 + 250 ≤ ss9 + 300 by omega) hS (LINV.of hC hP hRf) (lv_sub hl [0, 11, 5, 12, 13, 14, 15, 16, 17, 18, 19, 20, 21, 22, 23, 24, 25, 26, 27] rfl)
                  · exact absurd (nIe (b := 0) (by omega) (by decide) c_1391_20) hn0
                · exact absurd c_1350_19 (by decide)
              · exact absurd c_1322_18 (by decide)
            · exact absurd c_1278_17 (by decide)
          · refine lv_aload_n hx hb dL_law_1257 rfl (lv_at hl 12 rfl) ?_
            refine lv_bipush (v := 6) hx hb dL_law_1258 (by decide) ?_
            refine xiald hx hb hE.1.1 (hP.arr 0 (by decide)) 0 rfl (k := 6) rfl (show _ < 7 by omega) (by decide) dL_law_1260 ?_
            refine lv_iload hx hb dL_law_1261 (lv_at hl 4 rfl) ?_
            refine lv_ishr hx hb dL_law_1263 ?_
            refine lv_iconst (v := 1) hx hb dL_law_1264 (by decide) ?_
            refine lv_iand hx hb dL_law_1265 ?_
            refine W.eq (g2 := F0 m 1266 ls [.int (τ 15 r)]) (congrArg (fun z => F0 m 1266 ls [.int z]) (lr_cl hR hr9)) ?_
            refine lv_if_ne (tgt := 1273) hx hb dL_law_1266 (by decide) (fun c_1266_23 => ?_) (fun c_1266_23 => ?_)
            · refine lv_iconst (v := 0) hx hb dL_law_1273 (by decide) ?_
              refine lv_istore (lv' := [(26, .int 0), (18, .int z9), (19, .int kd), (20, .int (nI y)), (21, .int (nI i)), (22, .int (nI r)), (23, .int (nI h)), (24, .int (nI k)), (25, .int (nI u)), (16, .int 1), (17, .int tn), (0, .ref b), (1, .ref a0), (2, .ref (al 0)), (3, .ref (al 1)), (4, .ref (al 2)), (5, .ref (al 3)), (6, .ref (al 4)), (7, .ref (al 5)), (8, .ref (al 6)), (9, .ref (al 7)), (10, .ref (al 8)), (11, .ref (al 9)), (12, .ref (al 10)), (13, .ref (al 11)), (14, .ref (al 12)), (15, .ref (al 13))]) hx hb dL_law_1274 hl (by decide) rfl (fun ls hl => ?_)
              refine lv_iload hx hb dL_law_1276 (lv_at hl 0 rfl) ?_
              refine lv_if_eq (tgt := 1317) hx hb dL_law_1278 (by decide) (fun c_1278_24 => ?_) (fun c_1278_24 => ?_)
              · refine lv_iconst (v := 0) hx hb dL_law_1317 (by decide) ?_
                refine lv_istore (lv' := [(27, .int 0), (26, .int 0), (18, .int z9), (19, .int kd), (20, .int (nI y)), (21, .int (nI i)), (22, .int (nI r)), (23, .int (nI h)), (24, .int (nI k)), (25, .int (nI u)), (16, .int 1), (17, .int tn), (0, .ref b), (1, .ref a0), (2, .ref (al 0)), (3, .ref (al 1)), (4, .ref (al 2)), (5, .ref (al 3)), (6, .ref (al 4)), (7, .ref (al 5)), (8, .ref (al 6)), (9, .ref (al 7)), (10, .ref (al 8)), (11, .ref (al 9)), (12, .ref (al 10)), (13, .ref (al 11)), (14, .ref (al 12)), (15, .ref (al 13))]) hx hb dL_law_1318 hl (by decide) rfl (fun ls hl => ?_)
                refine lv_iload hx hb dL_law_1320 (lv_at hl 0 rfl) ?_
                refine lv_if_eq (tgt := 1348) hx hb dL_law_1322 (by decide) (fun c_1322_25 => ?_) (fun c_1322_25 => ?_)
                · refine lv_iload hx hb dL_law_1348 (lv_at hl 1 rfl) ?_
                  refine lv_if_eq (tgt := 1378) hx hb dL_law_1350 (by decide) (fun c_1350_26 => ?_) (fun c_1350_26 => ?_)
                  · refine lv_aload_n hx hb dL_law_1378 rfl (lv_at hl 13 rfl) ?_
                    refine lv_iconst (v := 4) hx hb dL_law_1379 (by decide) ?_
                    refine lv_iload hx hb dL_law_1380 (lv_at hl 5 rfl) ?_
                    refine lv_iload hx hb dL_law_1382 (lv_at hl 6 rfl) ?_
                    refine lv_iconst (v := 0) hx hb dL_law_1384 (by decide) ?_
                    have hcm : cm_enter τ nT nW (nI i) (nI r) 0 (thr τ 2) := by
                      unfold cm_enter
                      rw [ht0]
                      exact Or.inr (Or.inl ⟨i, r, hi, rfl, hr9, rfl, fun z => c_1266_23 z.2.2.2, rfl⟩)
                    refine hcallH (n := 5) C hE hN (hD_enter l G (AxL s.heap.size al) hl9 a0 τ (thr τ 2) 0 nT nW N (nI i) (nI r) hcm (by omega)) wML_L_127 wST_L_does wIN_L wCW_L_does (by decide) rfl ⟨Nat.le_of_ble_eq_true rfl, Nat.le_of_ble_eq_true rfl⟩ hS (fun q h => h.1) (fun q h => AxL.new hP hS.1 q h) hC rfl hl.1 (Nat.le_of_ble_eq_true rfl) dL_law_1385 ⟨by show cc9 + 0 + 6 ≤ 709356; omega, by show ss9 + 0 + 250 ≤ 6973399; omega⟩ (fun v H1 locs1 hv hk hS => ?_)
                    obtain ⟨rfl, nT', nW', hC⟩ := hv
                    have hP := hP.keptL hk (fun q hq h => h.2 hq)
                    refine W.eq (g2 := F0 m 1388 ls [.int ((-13))]) (congrArg (fun z => F0 m 1388 ls [.int z]) (dres2 thr_27)) ?_
                    refine lv_aload_n hx hb dL_law_1388 rfl (lv_at hl 14 rfl) ?_
                    refine lv_iconst (v := 0) hx hb dL_law_1389 (by decide) ?_
                    refine xiald hx hb hE.1.1 (hP.arr 0 (by decide)) 0 rfl (k := 0) rfl (show _ < 7 by omega) (by decide) dL_law_1390 ?_
                    refine W.eq (g2 := F0 m 1391 ls [.int (nI nT), .int (-13)]) (congrArg (fun z => F0 m 1391 ls [.int z, .int (-13)]) (lr_n0 hR)) ?_
                    refine lv_if_ne (tgt := 1399) hx hb dL_law_1391 (by decide) (fun c_1391_27 => ?_) (fun c_1391_27 => ?_)
                    · refine lv_iload hx hb dL_law_1399 (lv_at hl 1 rfl) ?_
                      refine lv_if_ne (tgt := 1409) hx hb dL_law_1401 (by decide) (fun c_1401_28 => ?_) (fun c_1401_28 => ?_)
                      · exact absurd c_1401_28 (by decide)
                      · refine lv_bipush (v := (-13)) hx hb dL_law_1404 (by decide) ?_
                        refine lv_goto (tgt := 1419) hx hb dL_law_1406 (by decide) ?_
                        refine lv_icmp_ne (tgt := 1426) hx hb dL_law_1419 (by decide) (fun c_1419_29 => ?_) (fun c_1419_29 => ?_)
                        · exact absurd c_1419_29 (by decide)
                        · refine lv_iconst (v := 1) hx hb dL_law_1422 (by decide) ?_
                          refine lv_goto (tgt := 1427) hx hb dL_law_1423 (by decide) ?_
                          refine lv_istore (lv' := [(16, .int 1), (27, .int 0), (26, .int 0), (18, .int z9), (19, .int kd), (20, .int (nI y)), (21, .int (nI i)), (22, .int (nI r)), (23, .int (nI h)), (24, .int (nI k)), (25, .int (nI u)), (17, .int tn), (0, .ref b), (1, .ref a0), (2, .ref (al 0)), (3, .ref (al 1)), (4, .ref (al 2)), (5, .ref (al 3)), (6, .ref (al 4)), (7, .ref (al 5)), (8, .ref (al 6)), (9, .ref (al 7)), (10, .ref (al 8)), (11, .ref (al 9)), (12, .ref (al 10)), (13, .ref (al 11)), (14, .ref (al 12)), (15, .ref (al 13))]) hx hb dL_law_1427 hl (by decide) rfl (fun ls hl => ?_)
                          refine lv_goto (tgt := 2555) hx hb dL_law_1429 (by decide) ?_
                          have hRf : LR μ (thr τ 2) nT nW := hR.th
                          exact kk _ _ _ _ _ (show cc9 + 0 + 6 ≤ cc9 + 10 by omega) (show ss9 + 0 + 250 ≤ ss9 + 300 by omega) hS (LINV.of hC hP hRf) (lv_sub hl [0, 11, 5, 12, 13, 14, 15, 16, 17, 18, 19, 20, 21, 22, 23, 24, 25, 26, 27] rfl)
                    · exact absurd (nIe (b := 0) (by omega) (by decide) c_1391_27) hn0
                  · exact absurd c_1350_26 (by decide)
                · exact absurd c_1322_25 (by decide)
              · exact absurd c_1278_24 (by decide)
            · refine lv_iconst (v := 1) hx hb dL_law_1269 (by decide) ?_
              refine lv_goto (tgt := 1274) hx hb dL_law_1270 (by decide) ?_
              refine lv_istore (lv' := [(26, .int 1), (18, .int z9), (19, .int kd), (20, .int (nI y)), (21, .int (nI i)), (22, .int (nI r)), (23, .int (nI h)), (24, .int (nI k)), (25, .int (nI u)), (16, .int 1), (17, .int tn), (0, .ref b), (1, .ref a0), (2, .ref (al 0)), (3, .ref (al 1)), (4, .ref (al 2)), (5, .ref (al 3)), (6, .ref (al 4)), (7, .ref (al 5)), (8, .ref (al 6)), (9, .ref (al 7)), (10, .ref (al 8)), (11, .ref (al 9)), (12, .ref (al 10)), (13, .ref (al 11)), (14, .ref (al 12)), (15, .ref (al 13))]) hx hb dL_law_1274 hl (by decide) rfl (fun ls hl => ?_)
              refine lv_iload hx hb dL_law_1276 (lv_at hl 0 rfl) ?_
              refine lv_if_eq (tgt := 1317) hx hb dL_law_1278 (by decide) (fun c_1278_30 => ?_) (fun c_1278_30 => ?_)
              · exact absurd c_1278_30 (by decide)
              · refine lv_aload_n hx hb dL_law_1281 rfl (lv_at hl 13 rfl) ?_
                refine lv_aload hx hb dL_law_1282 (lv_at hl 19 rfl) ?_
                refine lv_iload hx hb dL_law_1284 (lv_at hl 5 rfl) ?_
                refine hcallS (n := 3) C hE (kL_inside l G (fun q => H1.size ≤ q) (fun q => s.heap.size ≤ q) al μ τ nT nW hR r hr9) wML_L_16 wST_L_inside wIN_L wCO_L_inside (by decide) rfl ⟨Nat.le_of_ble_eq_true rfl, Nat.le_of_ble_eq_true rfl⟩ hS (fun q h => Nat.le_trans hS.1 h) (fun q h => h) hP rfl hl.1 (Nat.le_of_ble_eq_true rfl) dL_law_1286 ⟨by show cc9 + 0 + 0 ≤ 709356; omega, by show ss9 + 0 + 0 ≤ 6973399; omega⟩ (fun E ce q9 H1 locs1 hx9 _ _ _ _ _ => hx9.elim) (fun v H1 locs1 hv hk hS => ?_)
                have hP := hP.old hk
                have hC := hC.old hk
                subst hv
                refine lv_aload hx hb dL_law_1289 (lv_at hl 21 rfl) ?_
                refine lv_iload hx hb dL_law_1291 (lv_at hl 5 rfl) ?_
                refine xiald hx hb hE.1.1 (hP.arr 8 (by decide)) 0 rfl (k := r) rfl (show _ < 12 by omega) (by decide) dL_law_1293 ?_
                refine W.eq (g2 := F0 m 1294 ls [.int (τ 14 r), .int (nI (cntF (mIn τ (nI r)) 0 nT))]) (congrArg (fun z => F0 m 1294 ls [.int z, .int (nI (cntF (mIn τ (nI r)) 0 nT))]) (lr_k hR hr9)) ?_
                refine lv_icmp_ge (tgt := 1317) hx hb dL_law_1294 (by decide) (fun c_1294_31 => ?_) (fun c_1294_31 => ?_)
                · refine lv_iconst (v := 0) hx hb dL_law_1317 (by decide) ?_
                  refine lv_istore (lv' := [(27, .int 0), (26, .int 1), (18, .int z9), (19, .int kd), (20, .int (nI y)), (21, .int (nI i)), (22, .int (nI r)), (23, .int (nI h)), (24, .int (nI k)), (25, .int (nI u)), (16, .int 1), (17, .int tn), (0, .ref b), (1, .ref a0), (2, .ref (al 0)), (3, .ref (al 1)), (4, .ref (al 2)), (5, .ref (al 3)), (6, .ref (al 4)), (7, .ref (al 5)), (8, .ref (al 6)), (9, .ref (al 7)), (10, .ref (al 8)), (11, .ref (al 9)), (12, .ref (al 10)), (13, .ref (al 11)), (14, .ref (al 12)), (15, .ref (al 13))]) hx hb dL_law_1318 hl (by decide) rfl (fun ls hl => ?_)
                  refine lv_iload hx hb dL_law_1320 (lv_at hl 0 rfl) ?_
                  refine lv_if_eq (tgt := 1348) hx hb dL_law_1322 (by decide) (fun c_1322_32 => ?_) (fun c_1322_32 => ?_)
                  · refine lv_iload hx hb dL_law_1348 (lv_at hl 1 rfl) ?_
                    refine lv_if_eq (tgt := 1378) hx hb dL_law_1350 (by decide) (fun c_1350_33 => ?_) (fun c_1350_33 => ?_)
                    · exact absurd c_1350_33 (by decide)
                    · refine lv_aload hx hb dL_law_1353 (lv_at hl 20 rfl) ?_
                      refine lv_iload hx hb dL_law_1355 (lv_at hl 5 rfl) ?_
                      refine lv_iload hx hb dL_law_1357 (lv_at hl 6 rfl) ?_
                      refine lv_bipush (v := 102) hx hb dL_law_1359 (by decide) ?_
                      refine lv_iadd hx hb dL_law_1361 ?_
                      refine W.eq (g2 := F0 m 1362 ls [.int (nI (r + 102)), .int (nI i), .ref (al 6)]) (congrArg (fun z => F0 m 1362 ls [.int z, .int (nI i), .ref (al 6)]) (nI_addN r 102)) ?_
                      refine xiast hx hb hE.1.1 hS (hP.arr 6 (by decide)) (hP.oarr 6 (by decide)) 0 rfl (k := i) rfl (show _ < 60 by omega) (by decide) dL_law_1362 (fun H1 locs1 he1 z1 oq1 hS => ?_)
                      have hP := hP.put 6 i (by decide) he1 oq1
                      have hC := hC.offL (f := 6) (by decide) z1 oq1
                      refine lv_aload hx hb dL_law_1363 (lv_at hl 21 rfl) ?_
                      refine lv_iload hx hb dL_law_1365 (lv_at hl 5 rfl) ?_
                      refine lv_aload_n hx hb dL_law_1367 rfl (lv_at hl 14 rfl) ?_
                      refine lv_iconst (v := 4) hx hb dL_law_1368 (by decide) ?_
                      refine xiald hx hb hE.1.1 (hP.arr 0 (by decide)) 0 rfl (k := 4) rfl (show _ < 7 by omega) (by decide) dL_law_1369 ?_
                      rw [show (up μ 6 i (nI (r + 102))) 0 4 = μ 0 4 from by simp [up]]
                      refine W.eq (g2 := F0 m 1370 ls [.int (τ 12 0), .int (nI i), .ref (al 7)]) (congrArg (fun z => F0 m 1370 ls [.int z, .int (nI i), .ref (al 7)]) (lr_n4 hR)) ?_
                      refine W.eq (g2 := F0 m 1370 ls [.int (nI K9), .int (nI i), .ref (al 7)]) (congrArg (fun z => F0 m 1370 ls [.int z, .int (nI i), .ref (al 7)]) (eK9)) ?_
                      refine xiast hx hb hE.1.1 hS (hP.arr 7 (by decide)) (hP.oarr 7 (by decide)) 0 rfl (k := i) rfl (show _ < 60 by omega) (by decide) dL_law_1370 (fun H1 locs1 he1 z1 oq1 hS => ?_)
                      have hP := hP.put 7 i (by decide) he1 oq1
                      have hC := hC.offL (f := 7) (by decide) z1 oq1
                      refine lv_aload_n hx hb dL_law_1371 rfl (lv_at hl 14 rfl) ?_
                      refine lv_iconst (v := 4) hx hb dL_law_1372 (by decide) ?_
                      refine lv_dup2_11 hx hb dL_law_1373 rfl rfl ?_
                      refine xiald hx hb hE.1.1 (hP.arr 0 (by decide)) 0 rfl (k := 4) rfl (show _ < 7 by omega) (by decide) dL_law_1374 ?_
                      rw [show (up (up μ 6 i (nI (r + 102))) 7 i (nI K9)) 0 4 = μ 0 4 from by simp [up]]
                      refine W.eq (g2 := F0 m 1375 ls [.int (τ 12 0), .int 4, .ref (al 0)]) (congrArg (fun z => F0 m 1375 ls [.int z, .int 4, .ref (al 0)]) (lr_n4 hR)) ?_
                      refine lv_iconst (v := 1) hx hb dL_law_1375 (by decide) ?_
                      refine lv_iadd hx hb dL_law_1376 ?_
                      refine xiast hx hb hE.1.1 hS (hP.arr 0 (by decide)) (hP.oarr 0 (by decide)) 0 rfl (k := 4) rfl (show _ < 7 by omega) (by decide) dL_law_1377 (fun H1 locs1 he1 z1 oq1 hS => ?_)
                      have hP := hP.put 0 4 (by decide) he1 oq1
                      have hC := hC.offL (f := 0) (by decide) z1 oq1
                      refine lv_aload_n hx hb dL_law_1378 rfl (lv_at hl 13 rfl) ?_
                      refine lv_iconst (v := 4) hx hb dL_law_1379 (by decide) ?_
                      refine lv_iload hx hb dL_law_1380 (lv_at hl 5 rfl) ?_
                      refine lv_iload hx hb dL_law_1382 (lv_at hl 6 rfl) ?_
                      refine lv_iconst (v := 0) hx hb dL_law_1384 (by decide) ?_
                      have hcm : cm_enter τ nT nW (nI i) (nI r) 0 (up (up (up τ 10 i (100 + nI r)) 11 i (nI K9)) 12 0 (τ 12 0 + 1)) := by
                        unfold cm_enter
                        rw [ht0]
                        exact Or.inr (Or.inr (Or.inr ⟨i, r, hi, rfl, hr9, rfl, ⟨b2i_1.mp c_1220_8, for_ok1 c_1230_15, (pw_0 (lr_pl hR hi)).mp c_1254_16, c_1266_23⟩, fun z => Int32.not_le.mpr z.1 c_1294_31, rfl, by rw [← eK9]⟩))
                      refine hcallH (n := 5) C hE hN (hD_enter l G (AxL s.heap.size al) hl9 a0 τ (up (up (up τ 10 i (100 + nI r)) 11 i (nI K9)) 12 0 (τ 12 0 + 1)) 0 nT nW N (nI i) (nI r) hcm (by omega)) wML_L_127 wST_L_does wIN_L wCW_L_does (by decide) rfl ⟨Nat.le_of_ble_eq_true rfl, Nat.le_of_ble_eq_true rfl⟩ hS (fun q h => h.1) (fun q h => AxL.new hP hS.1 q h) hC rfl hl.1 (Nat.le_of_ble_eq_true rfl) dL_law_1385 ⟨by show cc9 + 0 + 0 + 6 ≤ 709356; omega, by show ss9 + 0 + 0 + 250 ≤ 6973399; omega⟩ (fun v H1 locs1 hv hk hS => ?_)
                      obtain ⟨rfl, nT', nW', hC⟩ := hv
                      have hP := hP.keptL hk (fun q hq h => h.2 hq)
                      refine W.eq (g2 := F0 m 1388 ls [.int (0)]) (congrArg (fun z => F0 m 1388 ls [.int z]) (dres0 (by simp [up]; exact h27))) ?_
                      refine lv_aload_n hx hb dL_law_1388 rfl (lv_at hl 14 rfl) ?_
                      refine lv_iconst (v := 0) hx hb dL_law_1389 (by decide) ?_
                      refine xiald hx hb hE.1.1 (hP.arr 0 (by decide)) 0 rfl (k := 0) rfl (show _ < 7 by omega) (by decide) dL_law_1390 ?_
                      rw [show (up (up (up μ 6 i (nI (r + 102))) 7 i (nI K9)) 0 4 ((τ 12 0) + 1)) 0 0 = μ 0 0 from by simp [up]]
                      refine W.eq (g2 := F0 m 1391 ls [.int (nI nT), .int 0]) (congrArg (fun z => F0 m 1391 ls [.int z, .int 0]) (lr_n0 hR)) ?_
                      refine lv_if_ne (tgt := 1399) hx hb dL_law_1391 (by decide) (fun c_1391_34 => ?_) (fun c_1391_34 => ?_)
                      · refine lv_iload hx hb dL_law_1399 (lv_at hl 1 rfl) ?_
                        refine lv_if_ne (tgt := 1409) hx hb dL_law_1401 (by decide) (fun c_1401_35 => ?_) (fun c_1401_35 => ?_)
                        · refine lv_iload hx hb dL_law_1409 (lv_at hl 0 rfl) ?_
                          refine lv_if_eq (tgt := 1418) hx hb dL_law_1411 (by decide) (fun c_1411_36 => ?_) (fun c_1411_36 => ?_)
                          · refine lv_iconst (v := 0) hx hb dL_law_1418 (by decide) ?_
                            refine lv_icmp_ne (tgt := 1426) hx hb dL_law_1419 (by decide) (fun c_1419_37 => ?_) (fun c_1419_37 => ?_)
                            · exact absurd c_1419_37 (by decide)
                            · refine lv_iconst (v := 1) hx hb dL_law_1422 (by decide) ?_
                              refine lv_goto (tgt := 1427) hx hb dL_law_1423 (by decide) ?_
                              refine lv_istore (lv' := [(16, .int 1), (27, .int 0), (26, .int 1), (18, .int z9), (19, .int kd), (20, .int (nI y)), (21, .int (nI i)), (22, .int (nI r)), (23, .int (nI h)), (24, .int (nI k)), (25, .int (nI u)), (17, .int tn), (0, .ref b), (1, .ref a0), (2, .ref (al 0)), (3, .ref (al 1)), (4, .ref (al 2)), (5, .ref (al 3)), (6, .ref (al 4)), (7, .ref (al 5)), (8, .ref (al 6)), (9, .ref (al 7)), (10, .ref (al 8)), (11, .ref (al 9)), (12, .ref (al 10)), (13, .ref (al 11)), (14, .ref (al 12)), (15, .ref (al 13))]) hx hb dL_law_1427 hl (by decide) rfl (fun ls hl => ?_)
                              refine lv_goto (tgt := 2555) hx hb dL_law_1429 (by decide) ?_
                              have hRf : LR (up (up (up μ 6 i (nI (r + 102))) 7 i (nI K9)) 0 4 ((τ 12 0) + 1)) (up (up (up τ 10 i (100 + nI r)) 11 i (nI K9)) 12 0 (τ 12 0 + 1)) nT nW := ((hR.w6 hi (Or.inr ⟨r, hr9, Or.inr ⟨rfl, rfl⟩⟩)).q7 (by omega)).n4
                              exact kk _ _ _ _ _ (show cc9 + 0 + 0 + 6 ≤ cc9 + 10 by omega) (show ss9 + 0 + 0 + 250 ≤ ss9 + 300 by omega) hS (LINV.of hC hP hRf) (lv_sub hl [0, 11, 5, 12, 13, 14, 15, 16, 17, 18, 19, 20, 21, 22, 23, 24, 25, 26, 27] rfl)
                          · exact absurd c_1411_36 (by decide)
                        · exact absurd c_1401_35 (by decide)
                      · exact absurd (nIe (b := 0) (by omega) (by decide) c_1391_34) hn0
                  · exact absurd c_1322_32 (by decide)
                · refine lv_aload_n hx hb dL_law_1297 rfl (lv_at hl 13 rfl) ?_
                  refine lv_aload hx hb dL_law_1298 (lv_at hl 16 rfl) ?_
                  refine lv_aload hx hb dL_law_1300 (lv_at hl 19 rfl) ?_
                  refine lv_aload hx hb dL_law_1302 (lv_at hl 20 rfl) ?_
                  refine lv_iload hx hb dL_law_1304 (lv_at hl 5 rfl) ?_
                  refine lv_iconst (v := (-1)) hx hb dL_law_1306 (by decide) ?_
                  refine hcallS (n := 6) C hE (kL_queued l G (fun q => H1.size ≤ q) (fun q => s.heap.size ≤ q) al μ τ nT nW hR r hr9 (-1)) wML_L_10 wST_L_queued wIN_L wCO_L_queued (by decide) rfl ⟨Nat.le_of_ble_eq_true rfl, Nat.le_of_ble_eq_true rfl⟩ hS (fun q h => Nat.le_trans hS.1 h) (fun q h => h) hP rfl hl.1 (Nat.le_of_ble_eq_true rfl) dL_law_1307 ⟨by show cc9 + 0 + 0 + 0 ≤ 709356; omega, by show ss9 + 0 + 0 + 0 ≤ 6973399; omega⟩ (fun E ce q9 H1 locs1 hx9 _ _ _ _ _ => hx9.elim) (fun v H1 locs1 hv hk hS => ?_)
                  have hP := hP.old hk
                  have hC := hC.old hk
                  subst hv
                  refine W.eq (g2 := F0 m 1310 ls [.int (mQ τ nT r 0)]) (congrArg (fun z => F0 m 1310 ls [.int z]) (lQue_0 (lr_QB hR) (by omega))) ?_
                  refine lv_if_ge (tgt := 1317) hx hb dL_law_1310 (by decide) (fun c_1310_38 => ?_) (fun c_1310_38 => ?_)
                  · refine lv_iconst (v := 0) hx hb dL_law_1317 (by decide) ?_
                    refine lv_istore (lv' := [(27, .int 0), (26, .int 1), (18, .int z9), (19, .int kd), (20, .int (nI y)), (21, .int (nI i)), (22, .int (nI r)), (23, .int (nI h)), (24, .int (nI k)), (25, .int (nI u)), (16, .int 1), (17, .int tn), (0, .ref b), (1, .ref a0), (2, .ref (al 0)), (3, .ref (al 1)), (4, .ref (al 2)), (5, .ref (al 3)), (6, .ref (al 4)), (7, .ref (al 5)), (8, .ref (al 6)), (9, .ref (al 7)), (10, .ref (al 8)), (11, .ref (al 9)), (12, .ref (al 10)), (13, .ref (al 11)), (14, .ref (al 12)), (15, .ref (al 13))]) hx hb dL_law_1318 hl (by decide) rfl (fun ls hl => ?_)
                    refine lv_iload hx hb dL_law_1320 (lv_at hl 0 rfl) ?_
                    refine lv_if_eq (tgt := 1348) hx hb dL_law_1322 (by decide) (fun c_1322_39 => ?_) (fun c_1322_39 => ?_)
                    · refine lv_iload hx hb dL_law_1348 (lv_at hl 1 rfl) ?_
                      refine lv_if_eq (tgt := 1378) hx hb dL_law_1350 (by decide) (fun c_1350_40 => ?_) (fun c_1350_40 => ?_)
                      · exact absurd c_1350_40 (by decide)
                      · refine lv_aload hx hb dL_law_1353 (lv_at hl 20 rfl) ?_
                        refine lv_iload hx hb dL_law_1355 (lv_at hl 5 rfl) ?_
                        refine lv_iload hx hb dL_law_1357 (lv_at hl 6 rfl) ?_
                        refine lv_bipush (v := 102) hx hb dL_law_1359 (by decide) ?_
                        refine lv_iadd hx hb dL_law_1361 ?_
                        refine W.eq (g2 := F0 m 1362 ls [.int (nI (r + 102)), .int (nI i), .ref (al 6)]) (congrArg (fun z => F0 m 1362 ls [.int z, .int (nI i), .ref (al 6)]) (nI_addN r 102)) ?_
                        refine xiast hx hb hE.1.1 hS (hP.arr 6 (by decide)) (hP.oarr 6 (by decide)) 0 rfl (k := i) rfl (show _ < 60 by omega) (by decide) dL_law_1362 (fun H1 locs1 he1 z1 oq1 hS => ?_)
                        have hP := hP.put 6 i (by decide) he1 oq1
                        have hC := hC.offL (f := 6) (by decide) z1 oq1
                        refine lv_aload hx hb dL_law_1363 (lv_at hl 21 rfl) ?_
                        refine lv_iload hx hb dL_law_1365 (lv_at hl 5 rfl) ?_
                        refine lv_aload_n hx hb dL_law_1367 rfl (lv_at hl 14 rfl) ?_
                        refine lv_iconst (v := 4) hx hb dL_law_1368 (by decide) ?_
                        refine xiald hx hb hE.1.1 (hP.arr 0 (by decide)) 0 rfl (k := 4) rfl (show _ < 7 by omega) (by decide) dL_law_1369 ?_
                        rw [show (up μ 6 i (nI (r + 102))) 0 4 = μ 0 4 from by simp [up]]
                        refine W.eq (g2 := F0 m 1370 ls [.int (τ 12 0), .int (nI i), .ref (al 7)]) (congrArg (fun z => F0 m 1370 ls [.int z, .int (nI i), .ref (al 7)]) (lr_n4 hR)) ?_
                        refine W.eq (g2 := F0 m 1370 ls [.int (nI K9), .int (nI i), .ref (al 7)]) (congrArg (fun z => F0 m 1370 ls [.int z, .int (nI i), .ref (al 7)]) (eK9)) ?_
                        refine xiast hx hb hE.1.1 hS (hP.arr 7 (by decide)) (hP.oarr 7 (by decide)) 0 rfl (k := i) rfl (show _ < 60 by omega) (by decide) dL_law_1370 (fun H1 locs1 he1 z1 oq1 hS => ?_)
                        have hP := hP.put 7 i (by decide) he1 oq1
                        have hC := hC.offL (f := 7) (by decide) z1 oq1
                        refine lv_aload_n hx hb dL_law_1371 rfl (lv_at hl 14 rfl) ?_
                        refine lv_iconst (v := 4) hx hb dL_law_1372 (by decide) ?_
                        refine lv_dup2_11 hx hb dL_law_1373 rfl rfl ?_
                        refine xiald hx hb hE.1.1 (hP.arr 0 (by decide)) 0 rfl (k := 4) rfl (show _ < 7 by omega) (by decide) dL_law_1374 ?_
                        rw [show (up (up μ 6 i (nI (r + 102))) 7 i (nI K9)) 0 4 = μ 0 4 from by simp [up]]
                        refine W.eq (g2 := F0 m 1375 ls [.int (τ 12 0), .int 4, .ref (al 0)]) (congrArg (fun z => F0 m 1375 ls [.int z, .int 4, .ref (al 0)]) (lr_n4 hR)) ?_
                        refine lv_iconst (v := 1) hx hb dL_law_1375 (by decide) ?_
                        refine lv_iadd hx hb dL_law_1376 ?_
                        refine xiast hx hb hE.1.1 hS (hP.arr 0 (by decide)) (hP.oarr 0 (by decide)) 0 rfl (k := 4) rfl (show _ < 7 by omega) (by decide) dL_law_1377 (fun H1 locs1 he1 z1 oq1 hS => ?_)
                        have hP := hP.put 0 4 (by decide) he1 oq1
                        have hC := hC.offL (f := 0) (by decide) z1 oq1
                        refine lv_aload_n hx hb dL_law_1378 rfl (lv_at hl 13 rfl) ?_
                        refine lv_iconst (v := 4) hx hb dL_law_1379 (by decide) ?_
                        refine lv_iload hx hb dL_law_1380 (lv_at hl 5 rfl) ?_
                        refine lv_iload hx hb dL_law_1382 (lv_at hl 6 rfl) ?_
                        refine lv_iconst (v := 0) hx hb dL_law_1384 (by decide) ?_
                        have hcm : cm_enter τ nT nW (nI i) (nI r) 0 (up (up (up τ 10 i (100 + nI r)) 11 i (nI K9)) 12 0 (τ 12 0 + 1)) := by
                          unfold cm_enter
                          rw [ht0]
                          exact Or.inr (Or.inr (Or.inr ⟨i, r, hi, rfl, hr9, rfl, ⟨b2i_1.mp c_1220_8, for_ok1 c_1230_15, (pw_0 (lr_pl hR hi)).mp c_1254_16, c_1266_23⟩, fun z => mQ_gn c_1310_38 z.2, rfl, by rw [← eK9]⟩))
                        refine hcallH (n := 5) C hE hN (hD_enter l G (AxL s.heap.size al) hl9 a0 τ (up (up (up τ 10 i (100 + nI r)) 11 i (nI K9)) 12 0 (τ 12 0 + 1)) 0 nT nW N (nI i) (nI r) hcm (by omega)) wML_L_127 wST_L_does wIN_L wCW_L_does (by decide) rfl ⟨Nat.le_of_ble_eq_true rfl, Nat.le_of_ble_eq_true rfl⟩ hS (fun q h => h.1) (fun q h => AxL.new hP hS.1 q h) hC rfl hl.1 (Nat.le_of_ble_eq_true rfl) dL_law_1385 ⟨by show cc9 + 0 + 0 + 0 + 6 ≤ 709356; omega, by show ss9 + 0 + 0 + 0 + 250 ≤ 6973399; omega⟩ (fun v H1 locs1 hv hk hS => ?_)
                        obtain ⟨rfl, nT', nW', hC⟩ := hv
                        have hP := hP.keptL hk (fun q hq h => h.2 hq)
                        refine W.eq (g2 := F0 m 1388 ls [.int (0)]) (congrArg (fun z => F0 m 1388 ls [.int z]) (dres0 (by simp [up]; exact h27))) ?_
                        refine lv_aload_n hx hb dL_law_1388 rfl (lv_at hl 14 rfl) ?_
                        refine lv_iconst (v := 0) hx hb dL_law_1389 (by decide) ?_
                        refine xiald hx hb hE.1.1 (hP.arr 0 (by decide)) 0 rfl (k := 0) rfl (show _ < 7 by omega) (by decide) dL_law_1390 ?_
                        rw [show (up (up (up μ 6 i (nI (r + 102))) 7 i (nI K9)) 0 4 ((τ 12 0) + 1)) 0 0 = μ 0 0 from by simp [up]]
                        refine W.eq (g2 := F0 m 1391 ls [.int (nI nT), .int 0]) (congrArg (fun z => F0 m 1391 ls [.int z, .int 0]) (lr_n0 hR)) ?_
                        refine lv_if_ne (tgt := 1399) hx hb dL_law_1391 (by decide) (fun c_1391_41 => ?_) (fun c_1391_41 => ?_)
                        · refine lv_iload hx hb dL_law_1399 (lv_at hl 1 rfl) ?_
                          refine lv_if_ne (tgt := 1409) hx hb dL_law_1401 (by decide) (fun c_1401_42 => ?_) (fun c_1401_42 => ?_)
                          · refine lv_iload hx hb dL_law_1409 (lv_at hl 0 rfl) ?_
                            refine lv_if_eq (tgt := 1418) hx hb dL_law_1411 (by decide) (fun c_1411_43 => ?_) (fun c_1411_43 => ?_)
                            · refine lv_iconst (v := 0) hx hb dL_law_1418 (by decide) ?_
                              refine lv_icmp_ne (tgt := 1426) hx hb dL_law_1419 (by decide) (fun c_1419_44 => ?_) (fun c_1419_44 => ?_)
                              · exact absurd c_1419_44 (by decide)
                              · refine lv_iconst (v := 1) hx hb dL_law_1422 (by decide) ?_
                                refine lv_goto (tgt := 1427) hx hb dL_law_1423 (by decide) ?_
                                refine lv_istore (lv' := [(16, .int 1), (27, .int 0), (26, .int 1), (18, .int z9), (19, .int kd), (20, .int (nI y)), (21, .int (nI i)), (22, .int (nI r)), (23, .int (nI h)), (24, .int (nI k)), (25, .int (nI u)), (17, .int tn), (0, .ref b), (1, .ref a0), (2, .ref (al 0)), (3, .ref (al 1)), (4, .ref (al 2)), (5, .ref (al 3)), (6, .ref (al 4)), (7, .ref (al 5)), (8, .ref (al 6)), (9, .ref (al 7)), (10, .ref (al 8)), (11, .ref (al 9)), (12, .ref (al 10)), (13, .ref (al 11)), (14, .ref (al 12)), (15, .ref (al 13))]) hx hb dL_law_1427 hl (by decide) rfl (fun ls hl => ?_)
                                refine lv_goto (tgt := 2555) hx hb dL_law_1429 (by decide) ?_
                                have hRf : LR (up (up (up μ 6 i (nI (r + 102))) 7 i (nI K9)) 0 4 ((τ 12 0) + 1)) (up (up (up τ 10 i (100 + nI r)) 11 i (nI K9)) 12 0 (τ 12 0 + 1)) nT nW := ((hR.w6 hi (Or.inr ⟨r, hr9, Or.inr ⟨rfl, rfl⟩⟩)).q7 (by omega)).n4
                                exact kk _ _ _ _ _ (show cc9 + 0 + 0 + 0 + 6 ≤ cc9 + 10 by omega) (show ss9 + 0 + 0 + 0 + 250 ≤ ss9 + 300 by omega) hS (LINV.of hC hP hRf) (lv_sub hl [0, 11, 5, 12, 13, 14, 15, 16, 17, 18, 19, 20, 21, 22, 23, 24, 25, 26, 27] rfl)
                            · exact absurd c_1411_43 (by decide)
                          · exact absurd c_1401_42 (by decide)
                        · exact absurd (nIe (b := 0) (by omega) (by decide) c_1391_41) hn0
                    · exact absurd c_1322_39 (by decide)
                  · refine lv_iconst (v := 1) hx hb dL_law_1313 (by decide) ?_
                    refine lv_goto (tgt := 1318) hx hb dL_law_1314 (by decide) ?_
                    refine lv_istore (lv' := [(27, .int 1), (26, .int 1), (18, .int z9), (19, .int kd), (20, .int (nI y)), (21, .int (nI i)), (22, .int (nI r)), (23, .int (nI h)), (24, .int (nI k)), (25, .int (nI u)), (16, .int 1), (17, .int tn), (0, .ref b), (1, .ref a0), (2, .ref (al 0)), (3, .ref (al 1)), (4, .ref (al 2)), (5, .ref (al 3)), (6, .ref (al 4)), (7, .ref (al 5)), (8, .ref (al 6)), (9, .ref (al 7)), (10, .ref (al 8)), (11, .ref (al 9)), (12, .ref (al 10)), (13, .ref (al 11)), (14, .ref (al 12)), (15, .ref (al 13))]) hx hb dL_law_1318 hl (by decide) rfl (fun ls hl => ?_)
                    refine lv_iload hx hb dL_law_1320 (lv_at hl 0 rfl) ?_
                    refine lv_if_eq (tgt := 1348) hx hb dL_law_1322 (by decide) (fun c_1322_45 => ?_) (fun c_1322_45 => ?_)
                    · exact absurd c_1322_45 (by decide)
                    · refine lv_aload_n hx hb dL_law_1325 rfl (lv_at hl 14 rfl) ?_
                      refine lv_aload hx hb dL_law_1326 (lv_at hl 19 rfl) ?_
                      refine lv_aload hx hb dL_law_1328 (lv_at hl 20 rfl) ?_
                      refine lv_aload hx hb dL_law_1330 (lv_at hl 23 rfl) ?_
                      refine lv_aload hx hb dL_law_1332 (lv_at hl 24 rfl) ?_
                      refine lv_aload hx hb dL_law_1334 (lv_at hl 26 rfl) ?_
                      refine lv_aload hx hb dL_law_1336 (lv_at hl 27 rfl) ?_
                      refine lv_iload hx hb dL_law_1338 (lv_at hl 5 rfl) ?_
                      refine lv_iload hx hb dL_law_1340 (lv_at hl 6 rfl) ?_
                      refine hcallS (n := 9) C hE (kL_sees l G (fun q => McL al q ∨ H1.size ≤ q) al μ τ nT nW hR i r hi hr9) wML_L_20 wST_L_sees wIN_L wCO_L_sees (by decide) rfl ⟨Nat.le_of_ble_eq_true rfl, Nat.le_of_ble_eq_true rfl⟩ hS (fun q h => h.elim (fun h => hMB q h) (fun h => Nat.le_trans hS.1 h)) (fun q h => Or.inr h) (hP.any (fun q h => Or.inl h)) rfl hl.1 (Nat.le_of_ble_eq_true rfl) dL_law_1342 ⟨by show cc9 + 0 + 0 + 0 + 0 ≤ 709356; omega, by show ss9 + 0 + 0 + 0 + 0 ≤ 6973399; omega⟩ (fun E ce q9 H1 locs1 hx9 _ _ _ _ _ => hx9.elim) (fun v H1 locs1 hv hk hS => ?_)
                      obtain ⟨rfl, μ_46, hR_47, hP⟩ := hv
                      have hP := hP.any (B := (fun q => s.heap.size ≤ q)) (fun q h => hMB q h)
                      have hC := hC.kept hk (fun q hq hlt h => h.elim hq.2 (fun h => absurd hlt (Nat.not_lt.mpr h)))
                      refine lv_goto (tgt := 1378) hx hb dL_law_1345 (by decide) ?_
                      refine lv_aload_n hx hb dL_law_1378 rfl (lv_at hl 13 rfl) ?_
                      refine lv_iconst (v := 4) hx hb dL_law_1379 (by decide) ?_
                      refine lv_iload hx hb dL_law_1380 (lv_at hl 5 rfl) ?_
                      refine lv_iload hx hb dL_law_1382 (lv_at hl 6 rfl) ?_
                      refine lv_iconst (v := 0) hx hb dL_law_1384 (by decide) ?_
                      have hcm : cm_enter τ nT nW (nI i) (nI r) 1 (mSee nW i r τ) := by
                        unfold cm_enter
                        rw [ht0]
                        exact Or.inr (Or.inr (Or.inl ⟨i, r, hi, rfl, hr9, rfl, ⟨b2i_1.mp c_1220_8, for_ok1 c_1230_15, (pw_0 (lr_pl hR hi)).mp c_1254_16, c_1266_23⟩, ⟨Int32.not_le.mp c_1294_31, mQ_ge (by omega) c_1310_38⟩, rfl, rfl⟩))
                      refine hcallH (n := 5) C hE hN (hD_enter l G (AxL s.heap.size al) hl9 a0 τ (mSee nW i r τ) 1 nT nW N (nI i) (nI r) hcm (by omega)) wML_L_127 wST_L_does wIN_L wCW_L_does (by decide) rfl ⟨Nat.le_of_ble_eq_true rfl, Nat.le_of_ble_eq_true rfl⟩ hS (fun q h => h.1) (fun q h => AxL.new hP hS.1 q h) hC rfl hl.1 (Nat.le_of_ble_eq_true rfl) dL_law_1385 ⟨by show cc9 + 0 + 0 + 0 + 0 + 6 ≤ 709356; omega, by show ss9 + 0 + 0 + 0 + 0 + 250 ≤ 6973399; omega⟩ (fun v H1 locs1 hv hk hS => ?_)
                      obtain ⟨rfl, nT', nW', hC⟩ := hv
                      have hP := hP.keptL hk (fun q hq h => h.2 hq)
                      refine W.eq (g2 := F0 m 1388 ls [.int (1)]) (congrArg (fun z => F0 m 1388 ls [.int z]) (dres0 ((mSee_ne (by decide)).trans h27))) ?_
                      refine lv_aload_n hx hb dL_law_1388 rfl (lv_at hl 14 rfl) ?_
                      refine lv_iconst (v := 0) hx hb dL_law_1389 (by decide) ?_
                      refine xiald hx hb hE.1.1 (hP.arr 0 (by decide)) 0 rfl (k := 0) rfl (show _ < 7 by omega) (by decide) dL_law_1390 ?_
                      refine W.eq (g2 := F0 m 1391 ls [.int (nI nT), .int 1]) (congrArg (fun z => F0 m 1391 ls [.int z, .int 1]) (lr_n0 hR_47)) ?_
                      refine lv_if_ne (tgt := 1399) hx hb dL_law_1391 (by decide) (fun c_1391_48 => ?_) (fun c_1391_48 => ?_)
                      · refine lv_iload hx hb dL_law_1399 (lv_at hl 1 rfl) ?_
                        refine lv_if_ne (tgt := 1409) hx hb dL_law_1401 (by decide) (fun c_1401_49 => ?_) (fun c_1401_49 => ?_)
                        · refine lv_iload hx hb dL_law_1409 (lv_at hl 0 rfl) ?_
                          refine lv_if_eq (tgt := 1418) hx hb dL_law_1411 (by decide) (fun c_1411_50 => ?_) (fun c_1411_50 => ?_)
                          · exact absurd c_1411_50 (by decide)
                          · refine lv_iconst (v := 1) hx hb dL_law_1414 (by decide) ?_
                            refine lv_goto (tgt := 1419) hx hb dL_law_1415 (by decide) ?_
                            refine lv_icmp_ne (tgt := 1426) hx hb dL_law_1419 (by decide) (fun c_1419_51 => ?_) (fun c_1419_51 => ?_)
                            · exact absurd c_1419_51 (by decide)
                            · refine lv_iconst (v := 1) hx hb dL_law_1422 (by decide) ?_
                              refine lv_goto (tgt := 1427) hx hb dL_law_1423 (by decide) ?_
                              refine lv_istore (lv' := [(16, .int 1), (27, .int 1), (26, .int 1), (18, .int z9), (19, .int kd), (20, .int (nI y)), (21, .int (nI i)), (22, .int (nI r)), (23, .int (nI h)), (24, .int (nI k)), (25, .int (nI u)), (17, .int tn), (0, .ref b), (1, .ref a0), (2, .ref (al 0)), (3, .ref (al 1)), (4, .ref (al 2)), (5, .ref (al 3)), (6, .ref (al 4)), (7, .ref (al 5)), (8, .ref (al 6)), (9, .ref (al 7)), (10, .ref (al 8)), (11, .ref (al 9)), (12, .ref (al 10)), (13, .ref (al 11)), (14, .ref (al 12)), (15, .ref (al 13))]) hx hb dL_law_1427 hl (by decide) rfl (fun ls hl => ?_)
                              refine lv_goto (tgt := 2555) hx hb dL_law_1429 (by decide) ?_
                              have hRf : LR μ_46 (mSee nW i r τ) nT nW := hR_47
                              exact kk _ _ _ _ _ (show cc9 + 0 + 0 + 0 + 0 + 6 ≤ cc9 + 10 by omega) (show ss9 + 0 + 0 + 0 + 0 + 250 ≤ ss9 + 300 by omega) hS (LINV.of hC hP hRf) (lv_sub hl [0, 11, 5, 12, 13, 14, 15, 16, 17, 18, 19, 20, 21, 22, 23, 24, 25, 26, 27] rfl)
                        · exact absurd c_1401_49 (by decide)
                      · exact absurd (nIe (b := 0) (by omega) (by decide) c_1391_48) hn0
        · obtain ⟨ho9, hh9, eh9, e59⟩ := lr_ho hR hi
          refine lv_aload hx hb dL_law_1233 (lv_at hl 15 rfl) ?_
          refine lv_iload hx hb dL_law_1235 (lv_at hl 3 rfl) ?_
          refine xiald hx hb hE.1.1 (hP.arr 3 (by decide)) 0 rfl (k := i) rfl (show _ < 60 by omega) (by decide) dL_law_1237 ?_
          refine lv_iconst (v := 4) hx hb dL_law_1238 (by decide) ?_
          refine lv_idiv hx hb dL_law_1239 (by decide) ?_
          refine lv_iconst (v := 4) hx hb dL_law_1240 (by decide) ?_
          refine lv_irem hx hb dL_law_1241 (by decide) ?_
          refine W.eq (g2 := F0 m 1242 ls [.int (nI ho9)]) (congrArg (fun z => F0 m 1242 ls [.int z]) (eh9)) ?_
          refine lv_iload hx hb dL_law_1242 (lv_at hl 4 rfl) ?_
          refine lv_iconst (v := 3) hx hb dL_law_1244 (by decide) ?_
          refine lv_idiv hx hb dL_law_1245 (by decide) ?_
          refine W.eq (g2 := F0 m 1246 ls [.int (nI (r / 3)), .int (nI ho9)]) (congrArg (fun z => F0 m 1246 ls [.int z, .int (nI ho9)]) (r3 r hr9)) ?_
          refine lv_icmp_ne (tgt := 1273) hx hb dL_law_1246 (by decide) (fun c_1246_52 => ?_) (fun c_1246_52 => ?_)
          · refine lv_iconst (v := 0) hx hb dL_law_1273 (by decide) ?_
            refine lv_istore (lv' := [(26, .int 0), (18, .int z9), (19, .int kd), (20, .int (nI y)), (21, .int (nI i)), (22, .int (nI r)), (23, .int (nI h)), (24, .int (nI k)), (25, .int (nI u)), (16, .int 1), (17, .int tn), (0, .ref b), (1, .ref a0), (2, .ref (al 0)), (3, .ref (al 1)), (4, .ref (al 2)), (5, .ref (al 3)), (6, .ref (al 4)), (7, .ref (al 5)), (8, .ref (al 6)), (9, .ref (al 7)), (10, .ref (al 8)), (11, .ref (al 9)), (12, .ref (al 10)), (13, .ref (al 11)), (14, .ref (al 12)), (15, .ref (al 13))]) hx hb dL_law_1274 hl (by decide) rfl (fun ls hl => ?_)
            refine lv_iload hx hb dL_law_1276 (lv_at hl 0 rfl) ?_
            refine lv_if_eq (tgt := 1317) hx hb dL_law_1278 (by decide) (fun c_1278_53 => ?_) (fun c_1278_53 => ?_)
            · refine lv_iconst (v := 0) hx hb dL_law_1317 (by decide) ?_
              refine lv_istore (lv' := [(27, .int 0), (26, .int 0), (18, .int z9), (19, .int kd), (20, .int (nI y)), (21, .int (nI i)), (22, .int (nI r)), (23, .int (nI h)), (24, .int (nI k)), (25, .int (nI u)), (16, .int 1), (17, .int tn), (0, .ref b), (1, .ref a0), (2, .ref (al 0)), (3, .ref (al 1)), (4, .ref (al 2)), (5, .ref (al 3)), (6, .ref (al 4)), (7, .ref (al 5)), (8, .ref (al 6)), (9, .ref (al 7)), (10, .ref (al 8)), (11, .ref (al 9)), (12, .ref (al 10)), (13, .ref (al 11)), (14, .ref (al 12)), (15, .ref (al 13))]) hx hb dL_law_1318 hl (by decide) rfl (fun ls hl => ?_)
              refine lv_iload hx hb dL_law_1320 (lv_at hl 0 rfl) ?_
              refine lv_if_eq (tgt := 1348) hx hb dL_law_1322 (by decide) (fun c_1322_54 => ?_) (fun c_1322_54 => ?_)
              · refine lv_iload hx hb dL_law_1348 (lv_at hl 1 rfl) ?_
                refine lv_if_eq (tgt := 1378) hx hb dL_law_1350 (by decide) (fun c_1350_55 => ?_) (fun c_1350_55 => ?_)
                · refine lv_aload_n hx hb dL_law_1378 rfl (lv_at hl 13 rfl) ?_
                  refine lv_iconst (v := 4) hx hb dL_law_1379 (by decide) ?_
                  refine lv_iload hx hb dL_law_1380 (lv_at hl 5 rfl) ?_
                  refine lv_iload hx hb dL_law_1382 (lv_at hl 6 rfl) ?_
                  refine lv_iconst (v := 0) hx hb dL_law_1384 (by decide) ?_
                  have hcm : cm_enter τ nT nW (nI i) (nI r) 0 (thr τ 2) := by
                    unfold cm_enter
                    rw [ht0]
                    exact Or.inr (Or.inl ⟨i, r, hi, rfl, hr9, rfl, fun z => for_no (so_0 hR hi c_1230_15) (fun q => c_1246_52 ((e59 (so_0 hR hi c_1230_15)).symm.trans q)) z.2.1, rfl⟩)
                  refine hcallH (n := 5) C hE hN (hD_enter l G (AxL s.heap.size al) hl9 a0 τ (thr τ 2) 0 nT nW N (nI i) (nI r) hcm (by omega)) wML_L_127 wST_L_does wIN_L wCW_L_does (by decide) rfl ⟨Nat.le_of_ble_eq_true rfl, Nat.le_of_ble_eq_true rfl⟩ hS (fun q h => h.1) (fun q h => AxL.new hP hS.1 q h) hC rfl hl.1 (Nat.le_of_ble_eq_true rfl) dL_law_1385 ⟨by show cc9 + 0 + 6 ≤ 709356; omega, by show ss9 + 0 + 250 ≤ 6973399; omega⟩ (fun v H1 locs1 hv hk hS => ?_)
                  obtain ⟨rfl, nT', nW', hC⟩ := hv
                  have hP := hP.keptL hk (fun q hq h => h.2 hq)
                  refine W.eq (g2 := F0 m 1388 ls [.int ((-13))]) (congrArg (fun z => F0 m 1388 ls [.int z]) (dres2 thr_27)) ?_
                  refine lv_aload_n hx hb dL_law_1388 rfl (lv_at hl 14 rfl) ?_
                  refine lv_iconst (v := 0) hx hb dL_law_1389 (by decide) ?_
                  refine xiald hx hb hE.1.1 (hP.arr 0 (by decide)) 0 rfl (k := 0) rfl (show _ < 7 by omega) (by decide) dL_law_1390 ?_
                  refine W.eq (g2 := F0 m 1391 ls [.int (nI nT), .int (-13)]) (congrArg (fun z => F0 m 1391 ls [.int z, .int (-13)]) (lr_n0 hR)) ?_
                  refine lv_if_ne (tgt := 1399) hx hb dL_law_1391 (by decide) (fun c_1391_56 => ?_) (fun c_1391_56 => ?_)
                  · refine lv_iload hx hb dL_law_1399 (lv_at hl 1 rfl) ?_
                    refine lv_if_ne (tgt := 1409) hx hb dL_law_1401 (by decide) (fun c_1401_57 => ?_) (fun c_1401_57 => ?_)
                    · exact absurd c_1401_57 (by decide)
                    · refine lv_bipush (v := (-13)) hx hb dL_law_1404 (by decide) ?_
                      refine lv_goto (tgt := 1419) hx hb dL_law_1406 (by decide) ?_
                      refine lv_icmp_ne (tgt := 1426) hx hb dL_law_1419 (by decide) (fun c_1419_58 => ?_) (fun c_1419_58 => ?_)
                      · exact absurd c_1419_58 (by decide)
                      · refine lv_iconst (v := 1) hx hb dL_law_1422 (by decide) ?_
                        refine lv_goto (tgt := 1427) hx hb dL_law_1423 (by decide) ?_
                        refine lv_istore (lv' := [(16, .int 1), (27, .int 0), (26, .int 0), (18, .int z9), (19, .int kd), (20, .int (nI y)), (21, .int (nI i)), (22, .int (nI r)), (23, .int (nI h)), (24, .int (nI k)), (25, .int (nI u)), (17, .int tn), (0, .ref b), (1, .ref a0), (2, .ref (al 0)), (3, .ref (al 1)), (4, .ref (al 2)), (5, .ref (al 3)), (6, .ref (al 4)), (7, .ref (al 5)), (8, .ref (al 6)), (9, .ref (al 7)), (10, .ref (al 8)), (11, .ref (al 9)), (12, .ref (al 10)), (13, .ref (al 11)), (14, .ref (al 12)), (15, .ref (al 13))]) hx hb dL_law_1427 hl (by decide) rfl (fun ls hl => ?_)
                        refine lv_goto (tgt := 2555) hx hb dL_law_1429 (by decide) ?_
                        have hRf : LR μ (thr τ 2) nT nW := hR.th
                        exact kk _ _ _ _ _ (show cc9 + 0 + 6 ≤ cc9 + 10 by omega) (show ss9 + 0 + 250 ≤ ss9 + 300 by omega) hS (LINV.of hC hP hRf) (lv_sub hl [0, 11, 5, 12, 13, 14, 15, 16, 17, 18, 19, 20, 21, 22, 23, 24, 25, 26, 27] rfl)
                  · exact absurd (nIe (b := 0) (by omega) (by decide) c_1391_56) hn0
                · exact absurd c_1350_55 (by decide)
              · exact absurd c_1322_54 (by decide)
            · exact absurd c_1278_53 (by decide)
          · refine lv_aload hx hb dL_law_1249 (lv_at hl 18 rfl) ?_
            refine lv_iload hx hb dL_law_1251 (lv_at hl 3 rfl) ?_
            refine xiald hx hb hE.1.1 (hP.arr 6 (by decide)) 0 rfl (k := i) rfl (show _ < 60 by omega) (by decide) dL_law_1253 ?_
            refine lv_if_ne (tgt := 1273) hx hb dL_law_1254 (by decide) (fun c_1254_59 => ?_) (fun c_1254_59 => ?_)
            · refine lv_iconst (v := 0) hx hb dL_law_1273 (by decide) ?_
              refine lv_istore (lv' := [(26, .int 0), (18, .int z9), (19, .int kd), (20, .int (nI y)), (21, .int (nI i)), (22, .int (nI r)), (23, .int (nI h)), (24, .int (nI k)), (25, .int (nI u)), (16, .int 1), (17, .int tn), (0, .ref b), (1, .ref a0), (2, .ref (al 0)), (3, .ref (al 1)), (4, .ref (al 2)), (5, .ref (al 3)), (6, .ref (al 4)), (7, .ref (al 5)), (8, .ref (al 6)), (9, .ref (al 7)), (10, .ref (al 8)), (11, .ref (al 9)), (12, .ref (al 10)), (13, .ref (al 11)), (14, .ref (al 12)), (15, .ref (al 13))]) hx hb dL_law_1274 hl (by decide) rfl (fun ls hl => ?_)
              refine lv_iload hx hb dL_law_1276 (lv_at hl 0 rfl) ?_
              refine lv_if_eq (tgt := 1317) hx hb dL_law_1278 (by decide) (fun c_1278_60 => ?_) (fun c_1278_60 => ?_)
              · refine lv_iconst (v := 0) hx hb dL_law_1317 (by decide) ?_
                refine lv_istore (lv' := [(27, .int 0), (26, .int 0), (18, .int z9), (19, .int kd), (20, .int (nI y)), (21, .int (nI i)), (22, .int (nI r)), (23, .int (nI h)), (24, .int (nI k)), (25, .int (nI u)), (16, .int 1), (17, .int tn), (0, .ref b), (1, .ref a0), (2, .ref (al 0)), (3, .ref (al 1)), (4, .ref (al 2)), (5, .ref (al 3)), (6, .ref (al 4)), (7, .ref (al 5)), (8, .ref (al 6)), (9, .ref (al 7)), (10, .ref (al 8)), (11, .ref (al 9)), (12, .ref (al 10)), (13, .ref (al 11)), (14, .ref (al 12)), (15, .ref (al 13))]) hx hb dL_law_1318 hl (by decide) rfl (fun ls hl => ?_)
                refine lv_iload hx hb dL_law_1320 (lv_at hl 0 rfl) ?_
                refine lv_if_eq (tgt := 1348) hx hb dL_law_1322 (by decide) (fun c_1322_61 => ?_) (fun c_1322_61 => ?_)
                · refine lv_iload hx hb dL_law_1348 (lv_at hl 1 rfl) ?_
                  refine lv_if_eq (tgt := 1378) hx hb dL_law_1350 (by decide) (fun c_1350_62 => ?_) (fun c_1350_62 => ?_)
                  · refine lv_aload_n hx hb dL_law_1378 rfl (lv_at hl 13 rfl) ?_
                    refine lv_iconst (v := 4) hx hb dL_law_1379 (by decide) ?_
                    refine lv_iload hx hb dL_law_1380 (lv_at hl 5 rfl) ?_
                    refine lv_iload hx hb dL_law_1382 (lv_at hl 6 rfl) ?_
                    refine lv_iconst (v := 0) hx hb dL_law_1384 (by decide) ?_
                    have hcm : cm_enter τ nT nW (nI i) (nI r) 0 (thr τ 2) := by
                      unfold cm_enter
                      rw [ht0]
                      exact Or.inr (Or.inl ⟨i, r, hi, rfl, hr9, rfl, fun z => c_1254_59 ((pw_0 (lr_pl hR hi)).mpr z.2.2.1), rfl⟩)
                    refine hcallH (n := 5) C hE hN (hD_enter l G (AxL s.heap.size al) hl9 a0 τ (thr τ 2) 0 nT nW N (nI i) (nI r) hcm (by omega)) wML_L_127 wST_L_does wIN_L wCW_L_does (by decide) rfl ⟨Nat.le_of_ble_eq_true rfl, Nat.le_of_ble_eq_true rfl⟩ hS (fun q h => h.1) (fun q h => AxL.new hP hS.1 q h) hC rfl hl.1 (Nat.le_of_ble_eq_true rfl) dL_law_1385 ⟨by show cc9 + 0 + 6 ≤ 709356; omega, by show ss9 + 0 + 250 ≤ 6973399; omega⟩ (fun v H1 locs1 hv hk hS => ?_)
                    obtain ⟨rfl, nT', nW', hC⟩ := hv
                    have hP := hP.keptL hk (fun q hq h => h.2 hq)
                    refine W.eq (g2 := F0 m 1388 ls [.int ((-13))]) (congrArg (fun z => F0 m 1388 ls [.int z]) (dres2 thr_27)) ?_
                    refine lv_aload_n hx hb dL_law_1388 rfl (lv_at hl 14 rfl) ?_
                    refine lv_iconst (v := 0) hx hb dL_law_1389 (by decide) ?_
                    refine xiald hx hb hE.1.1 (hP.arr 0 (by decide)) 0 rfl (k := 0) rfl (show _ < 7 by omega) (by decide) dL_law_1390 ?_
                    refine W.eq (g2 := F0 m 1391 ls [.int (nI nT), .int (-13)]) (congrArg (fun z => F0 m 1391 ls [.int z, .int (-13)]) (lr_n0 hR)) ?_
                    refine lv_if_ne (tgt := 1399) hx hb dL_law_1391 (by decide) (fun c_1391_63 => ?_) (fun c_1391_63 => ?_)
                    · refine lv_iload hx hb dL_law_1399 (lv_at hl 1 rfl) ?_
                      refine lv_if_ne (tgt := 1409) hx hb dL_law_1401 (by decide) (fun c_1401_64 => ?_) (fun c_1401_64 => ?_)
                      · exact absurd c_1401_64 (by decide)
                      · refine lv_bipush (v := (-13)) hx hb dL_law_1404 (by decide) ?_
                        refine lv_goto (tgt := 1419) hx hb dL_law_1406 (by decide) ?_
                        refine lv_icmp_ne (tgt := 1426) hx hb dL_law_1419 (by decide) (fun c_1419_65 => ?_) (fun c_1419_65 => ?_)
                        · exact absurd c_1419_65 (by decide)
                        · refine lv_iconst (v := 1) hx hb dL_law_1422 (by decide) ?_
                          refine lv_goto (tgt := 1427) hx hb dL_law_1423 (by decide) ?_
                          refine lv_istore (lv' := [(16, .int 1), (27, .int 0), (26, .int 0), (18, .int z9), (19, .int kd), (20, .int (nI y)), (21, .int (nI i)), (22, .int (nI r)), (23, .int (nI h)), (24, .int (nI k)), (25, .int (nI u)), (17, .int tn), (0, .ref b), (1, .ref a0), (2, .ref (al 0)), (3, .ref (al 1)), (4, .ref (al 2)), (5, .ref (al 3)), (6, .ref (al 4)), (7, .ref (al 5)), (8, .ref (al 6)), (9, .ref (al 7)), (10, .ref (al 8)), (11, .ref (al 9)), (12, .ref (al 10)), (13, .ref (al 11)), (14, .ref (al 12)), (15, .ref (al 13))]) hx hb dL_law_1427 hl (by decide) rfl (fun ls hl => ?_)
                          refine lv_goto (tgt := 2555) hx hb dL_law_1429 (by decide) ?_
                          have hRf : LR μ (thr τ 2) nT nW := hR.th
                          exact kk _ _ _ _ _ (show cc9 + 0 + 6 ≤ cc9 + 10 by omega) (show ss9 + 0 + 250 ≤ ss9 + 300 by omega) hS (LINV.of hC hP hRf) (lv_sub hl [0, 11, 5, 12, 13, 14, 15, 16, 17, 18, 19, 20, 21, 22, 23, 24, 25, 26, 27] rfl)
                    · exact absurd (nIe (b := 0) (by omega) (by decide) c_1391_63) hn0
                  · exact absurd c_1350_62 (by decide)
                · exact absurd c_1322_61 (by decide)
              · exact absurd c_1278_60 (by decide)
            · refine lv_aload_n hx hb dL_law_1257 rfl (lv_at hl 12 rfl) ?_
              refine lv_bipush (v := 6) hx hb dL_law_1258 (by decide) ?_
              refine xiald hx hb hE.1.1 (hP.arr 0 (by decide)) 0 rfl (k := 6) rfl (show _ < 7 by omega) (by decide) dL_law_1260 ?_
              refine lv_iload hx hb dL_law_1261 (lv_at hl 4 rfl) ?_
              refine lv_ishr hx hb dL_law_1263 ?_
              refine lv_iconst (v := 1) hx hb dL_law_1264 (by decide) ?_
              refine lv_iand hx hb dL_law_1265 ?_
              refine W.eq (g2 := F0 m 1266 ls [.int (τ 15 r)]) (congrArg (fun z => F0 m 1266 ls [.int z]) (lr_cl hR hr9)) ?_
              refine lv_if_ne (tgt := 1273) hx hb dL_law_1266 (by decide) (fun c_1266_66 => ?_) (fun c_1266_66 => ?_)
              · refine lv_iconst (v := 0) hx hb dL_law_1273 (by decide) ?_
                refine lv_istore (lv' := [(26, .int 0), (18, .int z9), (19, .int kd), (20, .int (nI y)), (21, .int (nI i)), (22, .int (nI r)), (23, .int (nI h)), (24, .int (nI k)), (25, .int (nI u)), (16, .int 1), (17, .int tn), (0, .ref b), (1, .ref a0), (2, .ref (al 0)), (3, .ref (al 1)), (4, .ref (al 2)), (5, .ref (al 3)), (6, .ref (al 4)), (7, .ref (al 5)), (8, .ref (al 6)), (9, .ref (al 7)), (10, .ref (al 8)), (11, .ref (al 9)), (12, .ref (al 10)), (13, .ref (al 11)), (14, .ref (al 12)), (15, .ref (al 13))]) hx hb dL_law_1274 hl (by decide) rfl (fun ls hl => ?_)
                refine lv_iload hx hb dL_law_1276 (lv_at hl 0 rfl) ?_
                refine lv_if_eq (tgt := 1317) hx hb dL_law_1278 (by decide) (fun c_1278_67 => ?_) (fun c_1278_67 => ?_)
                · refine lv_iconst (v := 0) hx hb dL_law_1317 (by decide) ?_
                  refine lv_istore (lv' := [(27, .int 0), (26, .int 0), (18, .int z9), (19, .int kd), (20, .int (nI y)), (21, .int (nI i)), (22, .int (nI r)), (23, .int (nI h)), (24, .int (nI k)), (25, .int (nI u)), (16, .int 1), (17, .int tn), (0, .ref b), (1, .ref a0), (2, .ref (al 0)), (3, .ref (al 1)), (4, .ref (al 2)), (5, .ref (al 3)), (6, .ref (al 4)), (7, .ref (al 5)), (8, .ref (al 6)), (9, .ref (al 7)), (10, .ref (al 8)), (11, .ref (al 9)), (12, .ref (al 10)), (13, .ref (al 11)), (14, .ref (al 12)), (15, .ref (al 13))]) hx hb dL_law_1318 hl (by decide) rfl (fun ls hl => ?_)
                  refine lv_iload hx hb dL_law_1320 (lv_at hl 0 rfl) ?_
                  refine lv_if_eq (tgt := 1348) hx hb dL_law_1322 (by decide) (fun c_1322_68 => ?_) (fun c_1322_68 => ?_)
                  · refine lv_iload hx hb dL_law_1348 (lv_at hl 1 rfl) ?_
                    refine lv_if_eq (tgt := 1378) hx hb dL_law_1350 (by decide) (fun c_1350_69 => ?_) (fun c_1350_69 => ?_)
                    · refine lv_aload_n hx hb dL_law_1378 rfl (lv_at hl 13 rfl) ?_
                      refine lv_iconst (v := 4) hx hb dL_law_1379 (by decide) ?_
                      refine lv_iload hx hb dL_law_1380 (lv_at hl 5 rfl) ?_
                      refine lv_iload hx hb dL_law_1382 (lv_at hl 6 rfl) ?_
                      refine lv_iconst (v := 0) hx hb dL_law_1384 (by decide) ?_
                      have hcm : cm_enter τ nT nW (nI i) (nI r) 0 (thr τ 2) := by
                        unfold cm_enter
                        rw [ht0]
                        exact Or.inr (Or.inl ⟨i, r, hi, rfl, hr9, rfl, fun z => c_1266_66 z.2.2.2, rfl⟩)
                      refine hcallH (n := 5) C hE hN (hD_enter l G (AxL s.heap.size al) hl9 a0 τ (thr τ 2) 0 nT nW N (nI i) (nI r) hcm (by omega)) wML_L_127 wST_L_does wIN_L wCW_L_does (by decide) rfl ⟨Nat.le_of_ble_eq_true rfl, Nat.le_of_ble_eq_true rfl⟩ hS (fun q h => h.1) (fun q h => AxL.new hP hS.1 q h) hC rfl hl.1 (Nat.le_of_ble_eq_true rfl) dL_law_1385 ⟨by show cc9 + 0 + 6 ≤ 709356; omega, by show ss9 + 0 + 250 ≤ 6973399; omega⟩ (fun v H1 locs1 hv hk hS => ?_)
                      obtain ⟨rfl, nT', nW', hC⟩ := hv
                      have hP := hP.keptL hk (fun q hq h => h.2 hq)
                      refine W.eq (g2 := F0 m 1388 ls [.int ((-13))]) (congrArg (fun z => F0 m 1388 ls [.int z]) (dres2 thr_27)) ?_
                      refine lv_aload_n hx hb dL_law_1388 rfl (lv_at hl 14 rfl) ?_
                      refine lv_iconst (v := 0) hx hb dL_law_1389 (by decide) ?_
                      refine xiald hx hb hE.1.1 (hP.arr 0 (by decide)) 0 rfl (k := 0) rfl (show _ < 7 by omega) (by decide) dL_law_1390 ?_
                      refine W.eq (g2 := F0 m 1391 ls [.int (nI nT), .int (-13)]) (congrArg (fun z => F0 m 1391 ls [.int z, .int (-13)]) (lr_n0 hR)) ?_
                      refine lv_if_ne (tgt := 1399) hx hb dL_law_1391 (by decide) (fun c_1391_70 => ?_) (fun c_1391_70 => ?_)
                      · refine lv_iload hx hb dL_law_1399 (lv_at hl 1 rfl) ?_
                        refine lv_if_ne (tgt := 1409) hx hb dL_law_1401 (by decide) (fun c_1401_71 => ?_) (fun c_1401_71 => ?_)
                        · exact absurd c_1401_71 (by decide)
                        · refine lv_bipush (v := (-13)) hx hb dL_law_1404 (by decide) ?_
                          refine lv_goto (tgt := 1419) hx hb dL_law_1406 (by decide) ?_
                          refine lv_icmp_ne (tgt := 1426) hx hb dL_law_1419 (by decide) (fun c_1419_72 => ?_) (fun c_1419_72 => ?_)
                          · exact absurd c_1419_72 (by decide)
                          · refine lv_iconst (v := 1) hx hb dL_law_1422 (by decide) ?_
                            refine lv_goto (tgt := 1427) hx hb dL_law_1423 (by decide) ?_
                            refine lv_istore (lv' := [(16, .int 1), (27, .int 0), (26, .int 0), (18, .int z9), (19, .int kd), (20, .int (nI y)), (21, .int (nI i)), (22, .int (nI r)), (23, .int (nI h)), (24, .int (nI k)), (25, .int (nI u)), (17, .int tn), (0, .ref b), (1, .ref a0), (2, .ref (al 0)), (3, .ref (al 1)), (4, .ref (al 2)), (5, .ref (al 3)), (6, .ref (al 4)), (7, .ref (al 5)), (8, .ref (al 6)), (9, .ref (al 7)), (10, .ref (al 8)), (11, .ref (al 9)), (12, .ref (al 10)), (13, .ref (al 11)), (14, .ref (al 12)), (15, .ref (al 13))]) hx hb dL_law_1427 hl (by decide) rfl (fun ls hl => ?_)
                            refine lv_goto (tgt := 2555) hx hb dL_law_1429 (by decide) ?_
                            have hRf : LR μ (thr τ 2) nT nW := hR.th
                            exact kk _ _ _ _ _ (show cc9 + 0 + 6 ≤ cc9 + 10 by omega) (show ss9 + 0 + 250 ≤ ss9 + 300 by omega) hS (LINV.of hC hP hRf) (lv_sub hl [0, 11, 5, 12, 13, 14, 15, 16, 17, 18, 19, 20, 21, 22, 23, 24, 25, 26, 27] rfl)
                      · exact absurd (nIe (b := 0) (by omega) (by decide) c_1391_70) hn0
                    · exact absurd c_1350_69 (by decide)
                  · exact absurd c_1322_68 (by decide)
                · exact absurd c_1278_67 (by decide)
              · refine lv_iconst (v := 1) hx hb dL_law_1269 (by decide) ?_
                refine lv_goto (tgt := 1274) hx hb dL_law_1270 (by decide) ?_
                refine lv_istore (lv' := [(26, .int 1), (18, .int z9), (19, .int kd), (20, .int (nI y)), (21, .int (nI i)), (22, .int (nI r)), (23, .int (nI h)), (24, .int (nI k)), (25, .int (nI u)), (16, .int 1), (17, .int tn), (0, .ref b), (1, .ref a0), (2, .ref (al 0)), (3, .ref (al 1)), (4, .ref (al 2)), (5, .ref (al 3)), (6, .ref (al 4)), (7, .ref (al 5)), (8, .ref (al 6)), (9, .ref (al 7)), (10, .ref (al 8)), (11, .ref (al 9)), (12, .ref (al 10)), (13, .ref (al 11)), (14, .ref (al 12)), (15, .ref (al 13))]) hx hb dL_law_1274 hl (by decide) rfl (fun ls hl => ?_)
                refine lv_iload hx hb dL_law_1276 (lv_at hl 0 rfl) ?_
                refine lv_if_eq (tgt := 1317) hx hb dL_law_1278 (by decide) (fun c_1278_73 => ?_) (fun c_1278_73 => ?_)
                · exact absurd c_1278_73 (by decide)
                · refine lv_aload_n hx hb dL_law_1281 rfl (lv_at hl 13 rfl) ?_
                  refine lv_aload hx hb dL_law_1282 (lv_at hl 19 rfl) ?_
                  refine lv_iload hx hb dL_law_1284 (lv_at hl 5 rfl) ?_
                  refine hcallS (n := 3) C hE (kL_inside l G (fun q => H1.size ≤ q) (fun q => s.heap.size ≤ q) al μ τ nT nW hR r hr9) wML_L_16 wST_L_inside wIN_L wCO_L_inside (by decide) rfl ⟨Nat.le_of_ble_eq_true rfl, Nat.le_of_ble_eq_true rfl⟩ hS (fun q h => Nat.le_trans hS.1 h) (fun q h => h) hP rfl hl.1 (Nat.le_of_ble_eq_true rfl) dL_law_1286 ⟨by show cc9 + 0 + 0 ≤ 709356; omega, by show ss9 + 0 + 0 ≤ 6973399; omega⟩ (fun E ce q9 H1 locs1 hx9 _ _ _ _ _ => hx9.elim) (fun v H1 locs1 hv hk hS => ?_)
                  have hP := hP.old hk
                  have hC := hC.old hk
                  subst hv
                  refine lv_aload hx hb dL_law_1289 (lv_at hl 21 rfl) ?_
                  refine lv_iload hx hb dL_law_1291 (lv_at hl 5 rfl) ?_
                  refine xiald hx hb hE.1.1 (hP.arr 8 (by decide)) 0 rfl (k := r) rfl (show _ < 12 by omega) (by decide) dL_law_1293 ?_
                  refine W.eq (g2 := F0 m 1294 ls [.int (τ 14 r), .int (nI (cntF (mIn τ (nI r)) 0 nT))]) (congrArg (fun z => F0 m 1294 ls [.int z, .int (nI (cntF (mIn τ (nI r)) 0 nT))]) (lr_k hR hr9)) ?_
                  refine lv_icmp_ge (tgt := 1317) hx hb dL_law_1294 (by decide) (fun c_1294_74 => ?_) (fun c_1294_74 => ?_)
                  · refine lv_iconst (v := 0) hx hb dL_law_1317 (by decide) ?_
                    refine lv_istore (lv' := [(27, .int 0), (26, .int 1), (18, .int z9), (19, .int kd), (20, .int (nI y)), (21, .int (nI i)), (22, .int (nI r)), (23, .int (nI h)), (24, .int (nI k)), (25, .int (nI u)), (16, .int 1), (17, .int tn), (0, .ref b), (1, .ref a0), (2, .ref (al 0)), (3, .ref (al 1)), (4, .ref (al 2)), (5, .ref (al 3)), (6, .ref (al 4)), (7, .ref (al 5)), (8, .ref (al 6)), (9, .ref (al 7)), (10, .ref (al 8)), (11, .ref (al 9)), (12, .ref (al 10)), (13, .ref (al 11)), (14, .ref (al 12)), (15, .ref (al 13))]) hx hb dL_law_1318 hl (by decide) rfl (fun ls hl => ?_)
                    refine lv_iload hx hb dL_law_1320 (lv_at hl 0 rfl) ?_
                    refine lv_if_eq (tgt := 1348) hx hb dL_law_1322 (by decide) (fun c_1322_75 => ?_) (fun c_1322_75 => ?_)
                    · refine lv_iload hx hb dL_law_1348 (lv_at hl 1 rfl) ?_
                      refine lv_if_eq (tgt := 1378) hx hb dL_law_1350 (by decide) (fun c_1350_76 => ?_) (fun c_1350_76 => ?_)
                      · exact absurd c_1350_76 (by decide)
                      · refine lv_aload hx hb dL_law_1353 (lv_at hl 20 rfl) ?_
                        refine lv_iload hx hb dL_law_1355 (lv_at hl 5 rfl) ?_
                        refine lv_iload hx hb dL_law_1357 (lv_at hl 6 rfl) ?_
                        refine lv_bipush (v := 102) hx hb dL_law_1359 (by decide) ?_
                        refine lv_iadd hx hb dL_law_1361 ?_
                        refine W.eq (g2 := F0 m 1362 ls [.int (nI (r + 102)), .int (nI i), .ref (al 6)]) (congrArg (fun z => F0 m 1362 ls [.int z, .int (nI i), .ref (al 6)]) (nI_addN r 102)) ?_
                        refine xiast hx hb hE.1.1 hS (hP.arr 6 (by decide)) (hP.oarr 6 (by decide)) 0 rfl (k := i) rfl (show _ < 60 by omega) (by decide) dL_law_1362 (fun H1 locs1 he1 z1 oq1 hS => ?_)
                        have hP := hP.put 6 i (by decide) he1 oq1
                        have hC := hC.offL (f := 6) (by decide) z1 oq1
                        refine lv_aload hx hb dL_law_1363 (lv_at hl 21 rfl) ?_
                        refine lv_iload hx hb dL_law_1365 (lv_at hl 5 rfl) ?_
                        refine lv_aload_n hx hb dL_law_1367 rfl (lv_at hl 14 rfl) ?_
                        refine lv_iconst (v := 4) hx hb dL_law_1368 (by decide) ?_
                        refine xiald hx hb hE.1.1 (hP.arr 0 (by decide)) 0 rfl (k := 4) rfl (show _ < 7 by omega) (by decide) dL_law_1369 ?_
                        rw [show (up μ 6 i (nI (r + 102))) 0 4 = μ 0 4 from by simp [up]]
                        refine W.eq (g2 := F0 m 1370 ls [.int (τ 12 0), .int (nI i), .ref (al 7)]) (congrArg (fun z => F0 m 1370 ls [.int z, .int (nI i), .ref (al 7)]) (lr_n4 hR)) ?_
                        refine W.eq (g2 := F0 m 1370 ls [.int (nI K9), .int (nI i), .ref (al 7)]) (congrArg (fun z => F0 m 1370 ls [.int z, .int (nI i), .ref (al 7)]) (eK9)) ?_
                        refine xiast hx hb hE.1.1 hS (hP.arr 7 (by decide)) (hP.oarr 7 (by decide)) 0 rfl (k := i) rfl (show _ < 60 by omega) (by decide) dL_law_1370 (fun H1 locs1 he1 z1 oq1 hS => ?_)
                        have hP := hP.put 7 i (by decide) he1 oq1
                        have hC := hC.offL (f := 7) (by decide) z1 oq1
                        refine lv_aload_n hx hb dL_law_1371 rfl (lv_at hl 14 rfl) ?_
                        refine lv_iconst (v := 4) hx hb dL_law_1372 (by decide) ?_
                        refine lv_dup2_11 hx hb dL_law_1373 rfl rfl ?_
                        refine xiald hx hb hE.1.1 (hP.arr 0 (by decide)) 0 rfl (k := 4) rfl (show _ < 7 by omega) (by decide) dL_law_1374 ?_
                        rw [show (up (up μ 6 i (nI (r + 102))) 7 i (nI K9)) 0 4 = μ 0 4 from by simp [up]]
                        refine W.eq (g2 := F0 m 1375 ls [.int (τ 12 0), .int 4, .ref (al 0)]) (congrArg (fun z => F0 m 1375 ls [.int z, .int 4, .ref (al 0)]) (lr_n4 hR)) ?_
                        refine lv_iconst (v := 1) hx hb dL_law_1375 (by decide) ?_
                        refine lv_iadd hx hb dL_law_1376 ?_
                        refine xiast hx hb hE.1.1 hS (hP.arr 0 (by decide)) (hP.oarr 0 (by decide)) 0 rfl (k := 4) rfl (show _ < 7 by omega) (by decide) dL_law_1377 (fun H1 locs1 he1 z1 oq1 hS => ?_)
                        have hP := hP.put 0 4 (by decide) he1 oq1
                        have hC := hC.offL (f := 0) (by decide) z1 oq1
                        refine lv_aload_n hx hb dL_law_1378 rfl (lv_at hl 13 rfl) ?_
                        refine lv_iconst (v := 4) hx hb dL_law_1379 (by decide) ?_
                        refine lv_iload hx hb dL_law_1380 (lv_at hl 5 rfl) ?_
                        refine lv_iload hx hb dL_law_1382 (lv_at hl 6 rfl) ?_
                        refine lv_iconst (v := 0) hx hb dL_law_1384 (by decide) ?_
                        have hcm : cm_enter τ nT nW (nI i) (nI r) 0 (up (up (up τ 10 i (100 + nI r)) 11 i (nI K9)) 12 0 (τ 12 0 + 1)) := by
                          unfold cm_enter
                          rw [ht0]
                          exact Or.inr (Or.inr (Or.inr ⟨i, r, hi, rfl, hr9, rfl, ⟨b2i_1.mp c_1220_8, for_ok2 ((e59 (so_0 hR hi c_1230_15)).trans c_1246_52), (pw_0 (lr_pl hR hi)).mp c_1254_59, c_1266_66⟩, fun z => Int32.not_le.mpr z.1 c_1294_74, rfl, by rw [← eK9]⟩))
                        refine hcallH (n := 5) C hE hN (hD_enter l G (AxL s.heap.size al) hl9 a0 τ (up (up (up τ 10 i (100 + nI r)) 11 i (nI K9)) 12 0 (τ 12 0 + 1)) 0 nT nW N (nI i) (nI r) hcm (by omega)) wML_L_127 wST_L_does wIN_L wCW_L_does (by decide) rfl ⟨Nat.le_of_ble_eq_true rfl, Nat.le_of_ble_eq_true rfl⟩ hS (fun q h => h.1) (fun q h => AxL.new hP hS.1 q h) hC rfl hl.1 (Nat.le_of_ble_eq_true rfl) dL_law_1385 ⟨by show cc9 + 0 + 0 + 6 ≤ 709356; omega, by show ss9 + 0 + 0 + 250 ≤ 6973399; omega⟩ (fun v H1 locs1 hv hk hS => ?_)
                        obtain ⟨rfl, nT', nW', hC⟩ := hv
                        have hP := hP.keptL hk (fun q hq h => h.2 hq)
                        refine W.eq (g2 := F0 m 1388 ls [.int (0)]) (congrArg (fun z => F0 m 1388 ls [.int z]) (dres0 (by simp [up]; exact h27))) ?_
                        refine lv_aload_n hx hb dL_law_1388 rfl (lv_at hl 14 rfl) ?_
                        refine lv_iconst (v := 0) hx hb dL_law_1389 (by decide) ?_
                        refine xiald hx hb hE.1.1 (hP.arr 0 (by decide)) 0 rfl (k := 0) rfl (show _ < 7 by omega) (by decide) dL_law_1390 ?_
                        rw [show (up (up (up μ 6 i (nI (r + 102))) 7 i (nI K9)) 0 4 ((τ 12 0) + 1)) 0 0 = μ 0 0 from by simp [up]]
                        refine W.eq (g2 := F0 m 1391 ls [.int (nI nT), .int 0]) (congrArg (fun z => F0 m 1391 ls [.int z, .int 0]) (lr_n0 hR)) ?_
                        refine lv_if_ne (tgt := 1399) hx hb dL_law_1391 (by decide) (fun c_1391_77 => ?_) (fun c_1391_77 => ?_)
                        · refine lv_iload hx hb dL_law_1399 (lv_at hl 1 rfl) ?_
                          refine lv_if_ne (tgt := 1409) hx hb dL_law_1401 (by decide) (fun c_1401_78 => ?_) (fun c_1401_78 => ?_)
                          · refine lv_iload hx hb dL_law_1409 (lv_at hl 0 rfl) ?_
                            refine lv_if_eq (tgt := 1418) hx hb dL_law_1411 (by decide) (fun c_1411_79 => ?_) (fun c_1411_79 => ?_)
                            · refine lv_iconst (v := 0) hx hb dL_law_1418 (by decide) ?_
                              refine lv_icmp_ne (tgt := 1426) hx hb dL_law_1419 (by decide) (fun c_1419_80 => ?_) (fun c_1419_80 => ?_)
                              · exact absurd c_1419_80 (by decide)
                              · refine lv_iconst (v := 1) hx hb dL_law_1422 (by decide) ?_
                                refine lv_goto (tgt := 1427) hx hb dL_law_1423 (by decide) ?_
                                refine lv_istore (lv' := [(16, .int 1), (27, .int 0), (26, .int 1), (18, .int z9), (19, .int kd), (20, .int (nI y)), (21, .int (nI i)), (22, .int (nI r)), (23, .int (nI h)), (24, .int (nI k)), (25, .int (nI u)), (17, .int tn), (0, .ref b), (1, .ref a0), (2, .ref (al 0)), (3, .ref (al 1)), (4, .ref (al 2)), (5, .ref (al 3)), (6, .ref (al 4)), (7, .ref (al 5)), (8, .ref (al 6)), (9, .ref (al 7)), (10, .ref (al 8)), (11, .ref (al 9)), (12, .ref (al 10)), (13, .ref (al 11)), (14, .ref (al 12)), (15, .ref (al 13))]) hx hb dL_law_1427 hl (by decide) rfl (fun ls hl => ?_)
                                refine lv_goto (tgt := 2555) hx hb dL_law_1429 (by decide) ?_
                                have hRf : LR (up (up (up μ 6 i (nI (r + 102))) 7 i (nI K9)) 0 4 ((τ 12 0) + 1)) (up (up (up τ 10 i (100 + nI r)) 11 i (nI K9)) 12 0 (τ 12 0 + 1)) nT nW := ((hR.w6 hi (Or.inr ⟨r, hr9, Or.inr ⟨rfl, rfl⟩⟩)).q7 (by omega)).n4
                                exact kk _ _ _ _ _ (show cc9 + 0 + 0 + 6 ≤ cc9 + 10 by omega) (show ss9 + 0 + 0 + 250 ≤ ss9 + 300 by omega) hS (LINV.of hC hP hRf) (lv_sub hl [0, 11, 5, 12, 13, 14, 15, 16, 17, 18, 19, 20, 21, 22, 23, 24, 25, 26, 27] rfl)
                            · exact absurd c_1411_79 (by decide)
                          · exact absurd c_1401_78 (by decide)
                        · exact absurd (nIe (b := 0) (by omega) (by decide) c_1391_77) hn0
                    · exact absurd c_1322_75 (by decide)
                  · refine lv_aload_n hx hb dL_law_1297 rfl (lv_at hl 13 rfl) ?_
                    refine lv_aload hx hb dL_law_1298 (lv_at hl 16 rfl) ?_
                    refine lv_aload hx hb dL_law_1300 (lv_at hl 19 rfl) ?_
                    refine lv_aload hx hb dL_law_1302 (lv_at hl 20 rfl) ?_
                    refine lv_iload hx hb dL_law_1304 (lv_at hl 5 rfl) ?_
                    refine lv_iconst (v := (-1)) hx hb dL_law_1306 (by decide) ?_
                    refine hcallS (n := 6) C hE (kL_queued l G (fun q => H1.size ≤ q) (fun q => s.heap.size ≤ q) al μ τ nT nW hR r hr9 (-1)) wML_L_10 wST_L_queued wIN_L wCO_L_queued (by decide) rfl ⟨Nat.le_of_ble_eq_true rfl, Nat.le_of_ble_eq_true rfl⟩ hS (fun q h => Nat.le_trans hS.1 h) (fun q h => h) hP rfl hl.1 (Nat.le_of_ble_eq_true rfl) dL_law_1307 ⟨by show cc9 + 0 + 0 + 0 ≤ 709356; omega, by show ss9 + 0 + 0 + 0 ≤ 6973399; omega⟩ (fun E ce q9 H1 locs1 hx9 _ _ _ _ _ => hx9.elim) (fun v H1 locs1 hv hk hS => ?_)
                    have hP := hP.old hk
                    have hC := hC.old hk
                    subst hv
                    refine W.eq (g2 := F0 m 1310 ls [.int (mQ τ nT r 0)]) (congrArg (fun z => F0 m 1310 ls [.int z]) (lQue_0 (lr_QB hR) (by omega))) ?_
                    refine lv_if_ge (tgt := 1317) hx hb dL_law_1310 (by decide) (fun c_1310_81 => ?_) (fun c_1310_81 => ?_)
                    · refine lv_iconst (v := 0) hx hb dL_law_1317 (by decide) ?_
                      refine lv_istore (lv' := [(27, .int 0), (26, .int 1), (18, .int z9), (19, .int kd), (20, .int (nI y)), (21, .int (nI i)), (22, .int (nI r)), (23, .int (nI h)), (24, .int (nI k)), (25, .int (nI u)), (16, .int 1), (17, .int tn), (0, .ref b), (1, .ref a0), (2, .ref (al 0)), (3, .ref (al 1)), (4, .ref (al 2)), (5, .ref (al 3)), (6, .ref (al 4)), (7, .ref (al 5)), (8, .ref (al 6)), (9, .ref (al 7)), (10, .ref (al 8)), (11, .ref (al 9)), (12, .ref (al 10)), (13, .ref (al 11)), (14, .ref (al 12)), (15, .ref (al 13))]) hx hb dL_law_1318 hl (by decide) rfl (fun ls hl => ?_)
                      refine lv_iload hx hb dL_law_1320 (lv_at hl 0 rfl) ?_
                      refine lv_if_eq (tgt := 1348) hx hb dL_law_1322 (by decide) (fun c_1322_82 => ?_) (fun c_1322_82 => ?_)
                      · refine lv_iload hx hb dL_law_1348 (lv_at hl 1 rfl) ?_
                        refine lv_if_eq (tgt := 1378) hx hb dL_law_1350 (by decide) (fun c_1350_83 => ?_) (fun c_1350_83 => ?_)
                        · exact absurd c_1350_83 (by decide)
                        · refine lv_aload hx hb dL_law_1353 (lv_at hl 20 rfl) ?_
                          refine lv_iload hx hb dL_law_1355 (lv_at hl 5 rfl) ?_
                          refine lv_iload hx hb dL_law_1357 (lv_at hl 6 rfl) ?_
                          refine lv_bipush (v := 102) hx hb dL_law_1359 (by decide) ?_
                          refine lv_iadd hx hb dL_law_1361 ?_
                          refine W.eq (g2 := F0 m 1362 ls [.int (nI (r + 102)), .int (nI i), .ref (al 6)]) (congrArg (fun z => F0 m 1362 ls [.int z, .int (nI i), .ref (al 6)]) (nI_addN r 102)) ?_
                          refine xiast hx hb hE.1.1 hS (hP.arr 6 (by decide)) (hP.oarr 6 (by decide)) 0 rfl (k := i) rfl (show _ < 60 by omega) (by decide) dL_law_1362 (fun H1 locs1 he1 z1 oq1 hS => ?_)
                          have hP := hP.put 6 i (by decide) he1 oq1
                          have hC := hC.offL (f := 6) (by decide) z1 oq1
                          refine lv_aload hx hb dL_law_1363 (lv_at hl 21 rfl) ?_
                          refine lv_iload hx hb dL_law_1365 (lv_at hl 5 rfl) ?_
                          refine lv_aload_n hx hb dL_law_1367 rfl (lv_at hl 14 rfl) ?_
                          refine lv_iconst (v := 4) hx hb dL_law_1368 (by decide) ?_
                          refine xiald hx hb hE.1.1 (hP.arr 0 (by decide)) 0 rfl (k := 4) rfl (show _ < 7 by omega) (by decide) dL_law_1369 ?_
                          rw [show (up μ 6 i (nI (r + 102))) 0 4 = μ 0 4 from by simp [up]]
                          refine W.eq (g2 := F0 m 1370 ls [.int (τ 12 0), .int (nI i), .ref (al 7)]) (congrArg (fun z => F0 m 1370 ls [.int z, .int (nI i), .ref (al 7)]) (lr_n4 hR)) ?_
                          refine W.eq (g2 := F0 m 1370 ls [.int (nI K9), .int (nI i), .ref (al 7)]) (congrArg (fun z => F0 m 1370 ls [.int z, .int (nI i), .ref (al 7)]) (eK9)) ?_
                          refine xiast hx hb hE.1.1 hS (hP.arr 7 (by decide)) (hP.oarr 7 (by decide)) 0 rfl (k := i) rfl (show _ < 60 by omega) (by decide) dL_law_1370 (fun H1 locs1 he1 z1 oq1 hS => ?_)
                          have hP := hP.put 7 i (by decide) he1 oq1
                          have hC := hC.offL (f := 7) (by decide) z1 oq1
                          refine lv_aload_n hx hb dL_law_1371 rfl (lv_at hl 14 rfl) ?_
                          refine lv_iconst (v := 4) hx hb dL_law_1372 (by decide) ?_
                          refine lv_dup2_11 hx hb dL_law_1373 rfl rfl ?_
                          refine xiald hx hb hE.1.1 (hP.arr 0 (by decide)) 0 rfl (k := 4) rfl (show _ < 7 by omega) (by decide) dL_law_1374 ?_
                          rw [show (up (up μ 6 i (nI (r + 102))) 7 i (nI K9)) 0 4 = μ 0 4 from by simp [up]]
                          refine W.eq (g2 := F0 m 1375 ls [.int (τ 12 0), .int 4, .ref (al 0)]) (congrArg (fun z => F0 m 1375 ls [.int z, .int 4, .ref (al 0)]) (lr_n4 hR)) ?_
                          refine lv_iconst (v := 1) hx hb dL_law_1375 (by decide) ?_
                          refine lv_iadd hx hb dL_law_1376 ?_
                          refine xiast hx hb hE.1.1 hS (hP.arr 0 (by decide)) (hP.oarr 0 (by decide)) 0 rfl (k := 4) rfl (show _ < 7 by omega) (by decide) dL_law_1377 (fun H1 locs1 he1 z1 oq1 hS => ?_)
                          have hP := hP.put 0 4 (by decide) he1 oq1
                          have hC := hC.offL (f := 0) (by decide) z1 oq1
                          refine lv_aload_n hx hb dL_law_1378 rfl (lv_at hl 13 rfl) ?_
                          refine lv_iconst (v := 4) hx hb dL_law_1379 (by decide) ?_
                          refine lv_iload hx hb dL_law_1380 (lv_at hl 5 rfl) ?_
                          refine lv_iload hx hb dL_law_1382 (lv_at hl 6 rfl) ?_
                          refine lv_iconst (v := 0) hx hb dL_law_1384 (by decide) ?_
                          have hcm : cm_enter τ nT nW (nI i) (nI r) 0 (up (up (up τ 10 i (100 + nI r)) 11 i (nI K9)) 12 0 (τ 12 0 + 1)) := by
                            unfold cm_enter
                            rw [ht0]
                            exact Or.inr (Or.inr (Or.inr ⟨i, r, hi, rfl, hr9, rfl, ⟨b2i_1.mp c_1220_8, for_ok2 ((e59 (so_0 hR hi c_1230_15)).trans c_1246_52), (pw_0 (lr_pl hR hi)).mp c_1254_59, c_1266_66⟩, fun z => mQ_gn c_1310_81 z.2, rfl, by rw [← eK9]⟩))
                          refine hcallH (n := 5) C hE hN (hD_enter l G (AxL s.heap.size al) hl9 a0 τ (up (up (up τ 10 i (100 + nI r)) 11 i (nI K9)) 12 0 (τ 12 0 + 1)) 0 nT nW N (nI i) (nI r) hcm (by omega)) wML_L_127 wST_L_does wIN_L wCW_L_does (by decide) rfl ⟨Nat.le_of_ble_eq_true rfl, Nat.le_of_ble_eq_true rfl⟩ hS (fun q h => h.1) (fun q h => AxL.new hP hS.1 q h) hC rfl hl.1 (Nat.le_of_ble_eq_true rfl) dL_law_1385 ⟨by show cc9 + 0 + 0 + 0 + 6 ≤ 709356; omega, by show ss9 + 0 + 0 + 0 + 250 ≤ 6973399; omega⟩ (fun v H1 locs1 hv hk hS => ?_)
                          obtain ⟨rfl, nT', nW', hC⟩ := hv
                          have hP := hP.keptL hk (fun q hq h => h.2 hq)
                          refine W.eq (g2 := F0 m 1388 ls [.int (0)]) (congrArg (fun z => F0 m 1388 ls [.int z]) (dres0 (by simp [up]; exact h27))) ?_
                          refine lv_aload_n hx hb dL_law_1388 rfl (lv_at hl 14 rfl) ?_
                          refine lv_iconst (v := 0) hx hb dL_law_1389 (by decide) ?_
                          refine xiald hx hb hE.1.1 (hP.arr 0 (by decide)) 0 rfl (k := 0) rfl (show _ < 7 by omega) (by decide) dL_law_1390 ?_
                          rw [show (up (up (up μ 6 i (nI (r + 102))) 7 i (nI K9)) 0 4 ((τ 12 0) + 1)) 0 0 = μ 0 0 from by simp [up]]
                          refine W.eq (g2 := F0 m 1391 ls [.int (nI nT), .int 0]) (congrArg (fun z => F0 m 1391 ls [.int z, .int 0]) (lr_n0 hR)) ?_
                          refine lv_if_ne (tgt := 1399) hx hb dL_law_1391 (by decide) (fun c_1391_84 => ?_) (fun c_1391_84 => ?_)
                          · refine lv_iload hx hb dL_law_1399 (lv_at hl 1 rfl) ?_
                            refine lv_if_ne (tgt := 1409) hx hb dL_law_1401 (by decide) (fun c_1401_85 => ?_) (fun c_1401_85 => ?_)
                            · refine lv_iload hx hb dL_law_1409 (lv_at hl 0 rfl) ?_
                              refine lv_if_eq (tgt := 1418) hx hb dL_law_1411 (by decide) (fun c_1411_86 => ?_) (fun c_1411_86 => ?_)
                              · refine lv_iconst (v := 0) hx hb dL_law_1418 (by decide) ?_
                                refine lv_icmp_ne (tgt := 1426) hx hb dL_law_1419 (by decide) (fun c_1419_87 => ?_) (fun c_1419_87 => ?_)
                                · exact absurd c_1419_87 (by decide)
                                · refine lv_iconst (v := 1) hx hb dL_law_1422 (by decide) ?_
                                  refine lv_goto (tgt := 1427) hx hb dL_law_1423 (by decide) ?_
                                  refine lv_istore (lv' := [(16, .int 1), (27, .int 0), (26, .int 1), (18, .int z9), (19, .int kd), (20, .int (nI y)), (21, .int (nI i)), (22, .int (nI r)), (23, .int (nI h)), (24, .int (nI k)), (25, .int (nI u)), (17, .int tn), (0, .ref b), (1, .ref a0), (2, .ref (al 0)), (3, .ref (al 1)), (4, .ref (al 2)), (5, .ref (al 3)), (6, .ref (al 4)), (7, .ref (al 5)), (8, .ref (al 6)), (9, .ref (al 7)), (10, .ref (al 8)), (11, .ref (al 9)), (12, .ref (al 10)), (13, .ref (al 11)), (14, .ref (al 12)), (15, .ref (al 13))]) hx hb dL_law_1427 hl (by decide) rfl (fun ls hl => ?_)
                                  refine lv_goto (tgt := 2555) hx hb dL_law_1429 (by decide) ?_
                                  have hRf : LR (up (up (up μ 6 i (nI (r + 102))) 7 i (nI K9)) 0 4 ((τ 12 0) + 1)) (up (up (up τ 10 i (100 + nI r)) 11 i (nI K9)) 12 0 (τ 12 0 + 1)) nT nW := ((hR.w6 hi (Or.inr ⟨r, hr9, Or.inr ⟨rfl, rfl⟩⟩)).q7 (by omega)).n4
                                  exact kk _ _ _ _ _ (show cc9 + 0 + 0 + 0 + 6 ≤ cc9 + 10 by omega) (show ss9 + 0 + 0 + 0 + 250 ≤ ss9 + 300 by omega) hS (LINV.of hC hP hRf) (lv_sub hl [0, 11, 5, 12, 13, 14, 15, 16, 17, 18, 19, 20, 21, 22, 23, 24, 25, 26, 27] rfl)
                              · exact absurd c_1411_86 (by decide)
                            · exact absurd c_1401_85 (by decide)
                          · exact absurd (nIe (b := 0) (by omega) (by decide) c_1391_84) hn0
                      · exact absurd c_1322_82 (by decide)
                    · refine lv_iconst (v := 1) hx hb dL_law_1313 (by decide) ?_
                      refine lv_goto (tgt := 1318) hx hb dL_law_1314 (by decide) ?_
                      refine lv_istore (lv' := [(27, .int 1), (26, .int 1), (18, .int z9), (19, .int kd), (20, .int (nI y)), (21, .int (nI i)), (22, .int (nI r)), (23, .int (nI h)), (24, .int (nI k)), (25, .int (nI u)), (16, .int 1), (17, .int tn), (0, .ref b), (1, .ref a0), (2, .ref (al 0)), (3, .ref (al 1)), (4, .ref (al 2)), (5, .ref (al 3)), (6, .ref (al 4)), (7, .ref (al 5)), (8, .ref (al 6)), (9, .ref (al 7)), (10, .ref (al 8)), (11, .ref (al 9)), (12, .ref (al 10)), (13, .ref (al 11)), (14, .ref (al 12)), (15, .ref (al 13))]) hx hb dL_law_1318 hl (by decide) rfl (fun ls hl => ?_)
                      refine lv_iload hx hb dL_law_1320 (lv_at hl 0 rfl) ?_
                      refine lv_if_eq (tgt := 1348) hx hb dL_law_1322 (by decide) (fun c_1322_88 => ?_) (fun c_1322_88 => ?_)
                      · exact absurd c_1322_88 (by decide)
                      · refine lv_aload_n hx hb dL_law_1325 rfl (lv_at hl 14 rfl) ?_
                        refine lv_aload hx hb dL_law_1326 (lv_at hl 19 rfl) ?_
                        refine lv_aload hx hb dL_law_1328 (lv_at hl 20 rfl) ?_
                        refine lv_aload hx hb dL_law_1330 (lv_at hl 23 rfl) ?_
                        refine lv_aload hx hb dL_law_1332 (lv_at hl 24 rfl) ?_
                        refine lv_aload hx hb dL_law_1334 (lv_at hl 26 rfl) ?_
                        refine lv_aload hx hb dL_law_1336 (lv_at hl 27 rfl) ?_
                        refine lv_iload hx hb dL_law_1338 (lv_at hl 5 rfl) ?_
                        refine lv_iload hx hb dL_law_1340 (lv_at hl 6 rfl) ?_
                        refine hcallS (n := 9) C hE (kL_sees l G (fun q => McL al q ∨ H1.size ≤ q) al μ τ nT nW hR i r hi hr9) wML_L_20 wST_L_sees wIN_L wCO_L_sees (by decide) rfl ⟨Nat.le_of_ble_eq_true rfl, Nat.le_of_ble_eq_true rfl⟩ hS (fun q h => h.elim (fun h => hMB q h) (fun h => Nat.le_trans hS.1 h)) (fun q h => Or.inr h) (hP.any (fun q h => Or.inl h)) rfl hl.1 (Nat.le_of_ble_eq_true rfl) dL_law_1342 ⟨by show cc9 + 0 + 0 + 0 + 0 ≤ 709356; omega, by show ss9 + 0 + 0 + 0 + 0 ≤ 6973399; omega⟩ (fun E ce q9 H1 locs1 hx9 _ _ _ _ _ => hx9.elim) (fun v H1 locs1 hv hk hS => ?_)
                        obtain ⟨rfl, μ_89, hR_90, hP⟩ := hv
                        have hP := hP.any (B := (fun q => s.heap.size ≤ q)) (fun q h => hMB q h)
                        have hC := hC.kept hk (fun q hq hlt h => h.elim hq.2 (fun h => absurd hlt (Nat.not_lt.mpr h)))
                        refine lv_goto (tgt := 1378) hx hb dL_law_1345 (by decide) ?_
                        refine lv_aload_n hx hb dL_law_1378 rfl (lv_at hl 13 rfl) ?_
                        refine lv_iconst (v := 4) hx hb dL_law_1379 (by decide) ?_
                        refine lv_iload hx hb dL_law_1380 (lv_at hl 5 rfl) ?_
                        refine lv_iload hx hb dL_law_1382 (lv_at hl 6 rfl) ?_
                        refine lv_iconst (v := 0) hx hb dL_law_1384 (by decide) ?_
                        have hcm : cm_enter τ nT nW (nI i) (nI r) 1 (mSee nW i r τ) := by
                          unfold cm_enter
                          rw [ht0]
                          exact Or.inr (Or.inr (Or.inl ⟨i, r, hi, rfl, hr9, rfl, ⟨b2i_1.mp c_1220_8, for_ok2 ((e59 (so_0 hR hi c_1230_15)).trans c_1246_52), (pw_0 (lr_pl hR hi)).mp c_1254_59, c_1266_66⟩, ⟨Int32.not_le.mp c_1294_74, mQ_ge (by omega) c_1310_81⟩, rfl, rfl⟩))
                        refine hcallH (n := 5) C hE hN (hD_enter l G (AxL s.heap.size al) hl9 a0 τ (mSee nW i r τ) 1 nT nW N (nI i) (nI r) hcm (by omega)) wML_L_127 wST_L_does wIN_L wCW_L_does (by decide) rfl ⟨Nat.le_of_ble_eq_true rfl, Nat.le_of_ble_eq_true rfl⟩ hS (fun q h => h.1) (fun q h => AxL.new hP hS.1 q h) hC rfl hl.1 (Nat.le_of_ble_eq_true rfl) dL_law_1385 ⟨by show cc9 + 0 + 0 + 0 + 0 + 6 ≤ 709356; omega, by show ss9 + 0 + 0 + 0 + 0 + 250 ≤ 6973399; omega⟩ (fun v H1 locs1 hv hk hS => ?_)
                        obtain ⟨rfl, nT', nW', hC⟩ := hv
                        have hP := hP.keptL hk (fun q hq h => h.2 hq)
                        refine W.eq (g2 := F0 m 1388 ls [.int (1)]) (congrArg (fun z => F0 m 1388 ls [.int z]) (dres0 ((mSee_ne (by decide)).trans h27))) ?_
                        refine lv_aload_n hx hb dL_law_1388 rfl (lv_at hl 14 rfl) ?_
                        refine lv_iconst (v := 0) hx hb dL_law_1389 (by decide) ?_
                        refine xiald hx hb hE.1.1 (hP.arr 0 (by decide)) 0 rfl (k := 0) rfl (show _ < 7 by omega) (by decide) dL_law_1390 ?_
                        refine W.eq (g2 := F0 m 1391 ls [.int (nI nT), .int 1]) (congrArg (fun z => F0 m 1391 ls [.int z, .int 1]) (lr_n0 hR_90)) ?_
                        refine lv_if_ne (tgt := 1399) hx hb dL_law_1391 (by decide) (fun c_1391_91 => ?_) (fun c_1391_91 => ?_)
                        · refine lv_iload hx hb dL_law_1399 (lv_at hl 1 rfl) ?_
                          refine lv_if_ne (tgt := 1409) hx hb dL_law_1401 (by decide) (fun c_1401_92 => ?_) (fun c_1401_92 => ?_)
                          · refine lv_iload hx hb dL_law_1409 (lv_at hl 0 rfl) ?_
                            refine lv_if_eq (tgt := 1418) hx hb dL_law_1411 (by decide) (fun c_1411_93 => ?_) (fun c_1411_93 => ?_)
                            · exact absurd c_1411_93 (by decide)
                            · refine lv_iconst (v := 1) hx hb dL_law_1414 (by decide) ?_
                              refine lv_goto (tgt := 1419) hx hb dL_law_1415 (by decide) ?_
                              refine lv_icmp_ne (tgt := 1426) hx hb dL_law_1419 (by decide) (fun c_1419_94 => ?_) (fun c_1419_94 => ?_)
                              · exact absurd c_1419_94 (by decide)
                              · refine lv_iconst (v := 1) hx hb dL_law_1422 (by decide) ?_
                                refine lv_goto (tgt := 1427) hx hb dL_law_1423 (by decide) ?_
                                refine lv_istore (lv' := [(16, .int 1), (27, .int 1), (26, .int 1), (18, .int z9), (19, .int kd), (20, .int (nI y)), (21, .int (nI i)), (22, .int (nI r)), (23, .int (nI h)), (24, .int (nI k)), (25, .int (nI u)), (17, .int tn), (0, .ref b), (1, .ref a0), (2, .ref (al 0)), (3, .ref (al 1)), (4, .ref (al 2)), (5, .ref (al 3)), (6, .ref (al 4)), (7, .ref (al 5)), (8, .ref (al 6)), (9, .ref (al 7)), (10, .ref (al 8)), (11, .ref (al 9)), (12, .ref (al 10)), (13, .ref (al 11)), (14, .ref (al 12)), (15, .ref (al 13))]) hx hb dL_law_1427 hl (by decide) rfl (fun ls hl => ?_)
                                refine lv_goto (tgt := 2555) hx hb dL_law_1429 (by decide) ?_
                                have hRf : LR μ_89 (mSee nW i r τ) nT nW := hR_90
                                exact kk _ _ _ _ _ (show cc9 + 0 + 0 + 0 + 0 + 6 ≤ cc9 + 10 by omega) (show ss9 + 0 + 0 + 0 + 0 + 250 ≤ ss9 + 300 by omega) hS (LINV.of hC hP hRf) (lv_sub hl [0, 11, 5, 12, 13, 14, 15, 16, 17, 18, 19, 20, 21, 22, 23, 24, 25, 26, 27] rfl)
                          · exact absurd c_1401_92 (by decide)
                        · exact absurd (nIe (b := 0) (by omega) (by decide) c_1391_91) hn0
