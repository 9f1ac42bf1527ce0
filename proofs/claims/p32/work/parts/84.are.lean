section ANS
variable {σ τ μ : SG} {qs : Nat → List Nat} {nT nW f D N i r : Nat} {v : Option Value}
theorem seen_ans (hR : RR0 σ qs nT nW f τ D N) (hi : i < nT) (hv : ∃ t, t < nT ∧ nI i = nI t ∧ v = some (.int (σ 15 t))) : v = some (.int (τ 13 i)) := by
  obtain ⟨t, ht, e, rfl⟩ := hv
  have h80 := hR.1.2.2.1
  have : i = t := nIe (by omega) (by omega) e
  rw [← this, (hR.2.2.2.1 i hi).2.2.2.2.2]
theorem where_ans (hR : RR0 σ qs nT nW f τ D N) (hi : i < nT) (hv : ∃ t, t < nT ∧ nI i = nI t ∧ v = some (.int (if σ 17 t = 0 then σ 16 t else 100 + σ 16 t))) : v = some (.int (τ 10 i)) := by
  obtain ⟨t, ht, e, rfl⟩ := hv
  have h80 := hR.1.2.2.1
  have : i = t := nIe (by omega) (by omega) e
  rw [← this]
  obtain ⟨hN, hP, hM, hT, hZ, hD, hW, hB, hA, hRR, hV, hO, -⟩ := hR
  rcases (hO i hi).1 with ⟨a1, a2, a3⟩ | ⟨r, hr, a1, ⟨a2, a3⟩ | ⟨a2, a3⟩⟩
  · rw [a1, a2, a3]; rfl
  · rw [a1, a2, a3]; rfl
  · rw [a1, a2, a3]; rfl
theorem inside_ans (hR : RR0 σ qs nT nW f τ D N) (hi : i < 12) (hv : ∃ r, r < 12 ∧ nI i = nI r ∧ v = some (.int (σ 7 r))) : v = some (.int (nI (cntF (mIn τ (nI i)) 0 nT))) := by
  obtain ⟨t, ht, e, rfl⟩ := hv
  have : i = t := nIe (by omega) (by omega) e
  rw [← this, hR.k.2.2.2.2.2.2.2.2.1 i hi]
theorem queue_ans (hR : RR0 σ qs nT nW f τ D N) (hi : i < 12) {k : Nat} (hk : k < 100) (hv : ∃ r, r < 12 ∧ nI i = nI r ∧ 0 ≤ nI k ∧ ((∃ j u, nI k = nI j ∧ (qs r)[j]? = some u ∧ v = some (.int (nI u))) ∨ (nI (qs r).length ≤ nI k ∧ v = some (.int (-1))))) : v = some (.int (mQ τ nT i (nI k))) := by
  obtain ⟨r, hr, e, -, hv⟩ := hv
  have h80 := hR.1.2.2.1
  have : i = r := nIe (by omega) (by omega) e
  subst this
  have hQ : RQ qs τ nT := hR.k.2.2.2.2.2.2.2.2.2.2.1
  have hl := q_len hQ hi
  rcases hv with ⟨j, u, e2, e3, rfl⟩ | ⟨e2, rfl⟩
  · rw [e2, mQ_at hQ h80 hi e3]
  · rw [mQ_no hQ h80 hi (fun j hj z => by
      have h1 := (nI_leI (by omega) (by omega)).mp e2
      have h2 := nIe (by omega) (by omega) z
      omega)]
theorem money_j (hi : i < 5) {x : Int32} {j : Nat} (hj : j < 5) (hx : (i = 4 ∧ x = -1) ∨ (i < 4 ∧ x = nI i)) (e : x + 1 = nI j) : (i = 4 ∧ j = 0) ∨ (i < 4 ∧ j = i + 1) := by
  rcases hx with ⟨h1, rfl⟩ | ⟨h1, rfl⟩
  · left
    refine ⟨h1, nIe (by omega) (by decide) (e.symm.trans (by decide))⟩
  · right
    rw [nI_1] at e
    exact ⟨h1, (nIe (by omega) (by omega) e).symm⟩
theorem money_ans (hR : RR0 σ qs nT nW f τ D N) (hi : i < 5) {x : Int32} (hx : (i = 4 ∧ x = -1) ∨ (i < 4 ∧ x = nI i)) (hv : ∃ j, j < 5 ∧ x + 1 = nI j ∧ v = some (.int (σ 1 j))) : v = some (.int (τ 24 i)) := by
  obtain ⟨j, hj, e, rfl⟩ := hv
  obtain ⟨hN, hP, hM, hT, hZ, hD, hW, hB, hA, -⟩ := hR
  rcases money_j hi hj hx e with ⟨h1, h2⟩ | ⟨h1, h2⟩
  · rw [h1, h2, hA.1]
  · rw [h2, hA.2 i h1]
theorem moneyS_ans (hR : RR0 σ qs nT nW f τ D N) (hi : i < 5) {x : Int32} (hx : (i = 4 ∧ x = -1) ∨ (i < 4 ∧ x = nI i)) (hv : ∃ j, j < 5 ∧ x + 1 = nI j ∧ v = some (.int (σ 2 j + σ 3 j + σ 4 j + fBrT σ x f + fBrM σ x f))) : v = some (.int (τ 24 i)) := by
  obtain ⟨j, hj, e, rfl⟩ := hv
  have e2 : x = nI j - 1 := by rw [← e]; exact (Int32.add_sub_cancel x 1).symm
  rw [e2, ← hR.2.2.2.2.2.2.2.2.2.2.2.2.2.2.2.2.2 j hj]
  exact money_ans hR hi hx ⟨j, hj, e, rfl⟩
theorem views_ans (hR : RR0 σ qs nT nW f τ D N) (hi : i < nW) (hv : ∃ t, t < nW ∧ nI i = nI t ∧ v = some (.int (σ 24 t))) : v = some (.int (τ 23 i)) := by
  obtain ⟨t, ht, e, rfl⟩ := hv
  have h12 := hR.1.2.2.2.2.2.1
  have : i = t := nIe (by omega) (by omega) e
  rw [← this, (wk7 hR hi).2.2.2.2.2.2]
theorem pw_m1 {x y : Int32} (h : pw x y) (h0 : ¬ x = 0) (h1 : x ≤ 100) : x - 1 = y := by
  rcases h with ⟨rfl, rfl⟩ | ⟨b, hb, ⟨rfl, rfl⟩ | ⟨rfl, rfl⟩⟩
  · exact absurd rfl h0
  · exact nI_m1
  · have := (nI_leI (a := b + 102) (b := 100) (by omega) (by decide)).mp h1
    omega
theorem pw_m2 {x y : Int32} (h : pw x y) (h0 : ¬ x = 0) (h1 : ¬ x ≤ 100) : x - 2 = y := by
  rcases h with ⟨rfl, rfl⟩ | ⟨b, hb, ⟨rfl, rfl⟩ | ⟨rfl, rfl⟩⟩
  · exact absurd rfl h0
  · exact absurd ((nI_leI (a := b + 1) (b := 100) (by omega) (by decide)).mpr (by omega)) h1
  · show nI (b + 102) - nI 2 = nI 100 + nI b
    rw [pk_sub (by omega), nI_addN]
    congr 1
    omega
theorem mQ_or {n : Nat} {pp : Int32} : mQ τ n r pp = -1 ∨ ∃ u, u < n ∧ mQ τ n r pp = nI u := by
  rcases Classical.em (mQ τ n r pp = -1) with h | h
  · exact Or.inl h
  · obtain ⟨u, h1, h2, -⟩ := mQ_some h
    exact Or.inr ⟨u, h1, h2⟩
theorem mHT_def {n : Nat} : itr (mHT1 τ) 0 (n - 0) 0 = mHT τ n := rfl
end ANS
set_option maxHeartbeats 4000000 in
set_option maxRecDepth 100000 in
theorem kL_are (l : Launch) (G : GE) (A1 A Al : Nat → Prop) (hl9 : l.stackTraces = false) (a0 : Nat) (al : Nat → Nat) (μ τ : SG) (nT nW N9 : Nat) (hR : LR μ τ nT nW) (xx : Int32) : KM l G A1 yL_areMuseums cL_areMuseums 17 (some .boolean) (rmL 9 1000 12000) [.ref a0, .ref (al 0), .ref (al 2), .ref (al 3), .ref (al 4), .ref (al 5), .ref (al 6), .ref (al 7), .ref (al 9), .ref (al 12), .ref (al 13), .int xx] (fun H => CST G A a0 τ nT nW N9 H ∧ PL G Al al μ 14 H) (fun v _ => v = some (.int 1)) (fun _ _ => False) := by
  refine KM.of (by decide) (Nat.le_of_ble_eq_true rfl) ?_
  intro p e s m args below meth c F hP ls hl
  have hx := F.1.1
  have hb := F.1.2.1
  have hown := F.1.2.2.2.1
  have hts := F.1.2.2.2.2
  have hr := F.2.1
  have hlocks := F.2.2.1
  have hE := F.2.2.2.2.2.1
  have hA := F.2.2.2.2.2.2
  have hS : va_S A1 s.heap s.heap [] := va_S.rf
  obtain ⟨⟨ad, σ, qs, f, D, rfl, hPX, hR0, hI0⟩, hP⟩ := hP
  have h80 : nT ≤ 80 ∧ nW ≤ 12 ∧ f ≤ nT := ⟨hR0.1.2.2.1, hR0.1.2.2.2.2.2.1, hR0.1.2.1⟩
  obtain ⟨h60, h10⟩ := lr_n60 hR
  have hl : lv_has ls 17 [(0, .ref (ad 0 0)), (1, .ref (al 0)), (2, .ref (al 2)), (3, .ref (al 3)), (4, .ref (al 4)), (5, .ref (al 5)), (6, .ref (al 6)), (7, .ref (al 7)), (8, .ref (al 9)), (9, .ref (al 12)), (10, .ref (al 13)), (11, .int xx)] := hl
  refine lv_aload_n hx hb dL_areMuseums_0 rfl (lv_at hl 0 rfl) ?_
  refine kcallV (n := 0) F (kP_day l G (fun q => s.heap.size ≤ q) A ad σ qs nT nW hl9) wML_L_81 wIM_X5_day wSE_X5_X5_day wIN_X5 wCO_X5_day (by decide) rfl ⟨by decide, by decide⟩ (frec F (hPX.main rfl) _ rfl) hS (fun q h => hA q (Nat.le_trans hS.1 h)) (fun q h => h) hPX rfl hl.1 (Nat.le_of_ble_eq_true rfl) dL_areMuseums_1 ⟨by show 0 + 0 ≤ 1000; omega, by show 0 + 0 ≤ 12000; omega⟩ (fun E ce q9 H1 locs1 hx9 _ _ _ _ _ => (hx9).elim) (fun v H1 locs1 hv hk hS => ?_)
  have hPX := hPX.old hk
  have hP := hP.old hk
  subst hv
  refine W.eq (g2 := F0 m 4 ls [.int (τ 26 0)]) (congrArg (fun z => F0 m 4 ls [.int z]) (hR0.1.2.2.2.2.2.2.1.trans hR0.1.2.2.2.2.2.2.2.1.symm)) ?_
  refine lv_aload_n hx hb dL_areMuseums_4 rfl (lv_at hl 1 rfl) ?_
  refine lv_iconst (v := 2) hx hb dL_areMuseums_5 (by decide) ?_
  refine xiald hx hb hE.1.1 (hP.arr 0 (by decide)) 0 rfl (k := 2) rfl (show _ < 7 by omega) (by decide) dL_areMuseums_6 ?_
  refine W.eq (g2 := F0 m 7 ls [.int (τ 26 0), .int (τ 26 0)]) (congrArg (fun z => F0 m 7 ls [.int z, .int (τ 26 0)]) (lr_n2 hR)) ?_
  refine lv_icmp_ne (tgt := 34) hx hb dL_areMuseums_7 (by decide) (fun c_7_1 => ?_) (fun c_7_1 => ?_)
  · exact absurd rfl c_7_1
  · refine lv_aload_n hx hb dL_areMuseums_10 rfl (lv_at hl 0 rfl) ?_
    refine kcallV (n := 0) F (kP_tickets l G (fun q => H1.size ≤ q) A ad σ qs nT nW hl9) wML_L_85 wIM_X5_tickets wSE_X5_X5_tickets wIN_X5 wCO_X5_tickets (by decide) rfl ⟨by decide, by decide⟩ (frec F (hPX.main rfl) _ rfl) hS (fun q h => hA q (Nat.le_trans hS.1 h)) (fun q h => h) hPX rfl hl.1 (Nat.le_of_ble_eq_true rfl) dL_areMuseums_11 ⟨by show 0 + 0 + 0 ≤ 1000; omega, by show 0 + 0 + 0 ≤ 12000; omega⟩ (fun E ce q9 H1 locs1 hx9 _ _ _ _ _ => (hx9).elim) (fun v H1 locs1 hv hk hS => ?_)
    have hPX := hPX.old hk
    have hP := hP.old hk
    subst hv
    refine lv_aload_n hx hb dL_areMuseums_14 rfl (lv_at hl 1 rfl) ?_
    refine lv_iconst (v := 0) hx hb dL_areMuseums_15 (by decide) ?_
    refine xiald hx hb hE.1.1 (hP.arr 0 (by decide)) 0 rfl (k := 0) rfl (show _ < 7 by omega) (by decide) dL_areMuseums_16 ?_
    refine W.eq (g2 := F0 m 17 ls [.int (nI nT), .int (nI nT)]) (congrArg (fun z => F0 m 17 ls [.int z, .int (nI nT)]) (lr_n0 hR)) ?_
    refine lv_icmp_ne (tgt := 34) hx hb dL_areMuseums_17 (by decide) (fun c_17_2 => ?_) (fun c_17_2 => ?_)
    · exact absurd rfl c_17_2
    · refine lv_aload_n hx hb dL_areMuseums_20 rfl (lv_at hl 0 rfl) ?_
      refine kcallV (n := 0) F (kP_takings l G (fun q => H1.size ≤ q) A ad σ qs nT nW hl9) wML_L_88 wIM_X5_takings wSE_X5_X5_takings wIN_X5 wCO_X5_takings (by decide) rfl ⟨by decide, by decide⟩ (frec F (hPX.main rfl) _ rfl) hS (fun q h => hA q (Nat.le_trans hS.1 h)) (fun q h => h) hPX rfl hl.1 (Nat.le_of_ble_eq_true rfl) dL_areMuseums_21 ⟨by show 0 + 0 + 0 + 0 ≤ 1000; omega, by show 0 + 0 + 0 + 0 ≤ 12000; omega⟩ (fun E ce q9 H1 locs1 hx9 _ _ _ _ _ => (hx9).elim) (fun v H1 locs1 hv hk hS => ?_)
      have hPX := hPX.old hk
      have hP := hP.old hk
      subst hv
      refine W.eq (g2 := F0 m 24 ls [.int (τ 25 0)]) (congrArg (fun z => F0 m 24 ls [.int z]) (hR0.1.2.2.2.2.2.2.2.2.2)) ?_
      refine lv_aload_n hx hb dL_areMuseums_24 rfl (lv_at hl 1 rfl) ?_
      refine lv_iconst (v := 5) hx hb dL_areMuseums_25 (by decide) ?_
      refine xiald hx hb hE.1.1 (hP.arr 0 (by decide)) 0 rfl (k := 5) rfl (show _ < 7 by omega) (by decide) dL_areMuseums_26 ?_
      refine W.eq (g2 := F0 m 27 ls [.int (τ 25 0), .int (τ 25 0)]) (congrArg (fun z => F0 m 27 ls [.int z, .int (τ 25 0)]) (lr_n5 hR)) ?_
      refine lv_icmp_ne (tgt := 34) hx hb dL_areMuseums_27 (by decide) (fun c_27_3 => ?_) (fun c_27_3 => ?_)
      · exact absurd rfl c_27_3
      · refine lv_iconst (v := 1) hx hb dL_areMuseums_30 (by decide) ?_
        refine lv_goto (tgt := 35) hx hb dL_areMuseums_31 (by decide) ?_
        refine lv_istore (lv' := [(12, .int 1), (0, .ref (ad 0 0)), (1, .ref (al 0)), (2, .ref (al 2)), (3, .ref (al 3)), (4, .ref (al 4)), (5, .ref (al 5)), (6, .ref (al 6)), (7, .ref (al 7)), (8, .ref (al 9)), (9, .ref (al 12)), (10, .ref (al 13)), (11, .int xx)]) hx hb dL_areMuseums_35 hl (by decide) rfl (fun ls hl => ?_)
        refine lv_iconst (v := 0) hx hb dL_areMuseums_37 (by decide) ?_
        refine lv_istore (lv' := [(13, .int 0), (12, .int 1), (0, .ref (ad 0 0)), (1, .ref (al 0)), (2, .ref (al 2)), (3, .ref (al 3)), (4, .ref (al 4)), (5, .ref (al 5)), (6, .ref (al 6)), (7, .ref (al 7)), (8, .ref (al 9)), (9, .ref (al 12)), (10, .ref (al 13)), (11, .int xx)]) hx hb dL_areMuseums_38 hl (by decide) rfl (fun ls hl => ?_)
        refine lv_iconst (v := 0) hx hb dL_areMuseums_40 (by decide) ?_
        refine lv_istore (lv' := [(14, .int 0), (13, .int 0), (12, .int 1), (0, .ref (ad 0 0)), (1, .ref (al 0)), (2, .ref (al 2)), (3, .ref (al 3)), (4, .ref (al 4)), (5, .ref (al 5)), (6, .ref (al 6)), (7, .ref (al 7)), (8, .ref (al 9)), (9, .ref (al 12)), (10, .ref (al 13)), (11, .int xx)]) hx hb dL_areMuseums_41 hl (by decide) rfl (fun ls hl => ?_)
        refine W.widen (k := 2 * 0) (n := 12 * 0) (by show 0 + 0 + 0 + 0 ≤ 2 * 0; omega) (by show 0 + 0 + 0 + 0 ≤ 12 * 0; omega) ?_
        have L43 : ∀ (n9 : Nat) (x1 : Int32) (i : Nat) (h1 : i ≤ nT) (h2 : nT < i + n9) (hT : itr (mHT1 τ) i (nT - i) x1 = mHT τ nT) (H : Heap) (locs : List Loc) (ls : Array Slot), va_S A1 s.heap H locs → PX G A ad σ qs nT nW H → PL G Al al μ 14 H → lv_has ls 17 [(14, .int (nI i)), (13, .int x1), (12, .int 1), (0, .ref (ad 0 0)), (1, .ref (al 0)), (2, .ref (al 2)), (3, .ref (al 3)), (4, .ref (al 4)), (5, .ref (al 5)), (6, .ref (al 6)), (7, .ref (al 7)), (8, .ref (al 9)), (9, .ref (al 12)), (10, .ref (al 13)), (11, .int xx)] → W p l e (rmL 9 1000 12000) s m args below meth c H locs (2 * i) (12 * i) (KE below A1 (fun v _ => v = some (.int 1)) (fun _ _ => False) args s (rmL 9 1000 12000)) (F0 m 43 ls []) := by
          intro n9
          induction n9 with
          | zero =>
            intro x1 i h1 h2 hT H locs ls hS hPX hP hl
            exact absurd True.intro (by omega)
          | succ n9 ih43 =>
            intro x1 i h1 h2 hT H locs ls hS hPX hP hl
            refine lv_iload hx hb dL_areMuseums_43 (lv_at hl 0 rfl) ?_
            refine lv_aload_n hx hb dL_areMuseums_45 rfl (lv_at hl 4 rfl) ?_
            refine lv_iconst (v := 0) hx hb dL_areMuseums_46 (by decide) ?_
            refine xiald hx hb hE.1.1 (hP.arr 0 (by decide)) 0 rfl (k := 0) rfl (show _ < 7 by omega) (by decide) dL_areMuseums_47 ?_
            refine W.eq (g2 := F0 m 48 ls [.int (nI nT), .int (nI i)]) (congrArg (fun z => F0 m 48 ls [.int z, .int (nI i)]) (lr_n0 hR)) ?_
            refine lv_icmp_ge (tgt := 157) hx hb dL_areMuseums_48 (by decide) (fun c_48_4 => ?_) (fun c_48_4 => ?_)
            · have ei := nI_eqle h1 (by omega) c_48_4
              rw [ei, itr_end] at hT
              subst hT
              refine lv_iconst (v := 0) hx hb dL_areMuseums_157 (by decide) ?_
              refine lv_istore (lv' := [(14, .int 0), (13, .int (mHT τ nT)), (12, .int 1), (0, .ref (ad 0 0)), (1, .ref (al 0)), (2, .ref (al 2)), (3, .ref (al 3)), (4, .ref (al 4)), (5, .ref (al 5)), (6, .ref (al 6)), (7, .ref (al 7)), (8, .ref (al 9)), (9, .ref (al 12)), (10, .ref (al 13)), (11, .int xx)]) hx hb dL_areMuseums_158 hl (by decide) rfl (fun ls hl => ?_)
              refine W.widen (k := 120) (n := 720) (by show 2 * i ≤ 120; omega) (by show 12 * i ≤ 720; omega) ?_
              have L160 : ∀ (n9 : Nat) (x1 : Int32) (i : Nat) (h1 : i ≤ 6) (h2 : 6 < i + n9) (hT : itr (mHM1 τ) i (6 - i) x1 = mHeld τ nT) (H : Heap) (locs : List Loc) (ls : Array Slot), va_S A1 s.heap H locs → PX G A ad σ qs nT nW H → PL G Al al μ 14 H → lv_has ls 17 [(14, .int (nI i)), (13, .int x1), (12, .int 1), (0, .ref (ad 0 0)), (1, .ref (al 0)), (2, .ref (al 2)), (3, .ref (al 3)), (4, .ref (al 4)), (5, .ref (al 5)), (6, .ref (al 6)), (7, .ref (al 7)), (8, .ref (al 9)), (9, .ref (al 12)), (10, .ref (al 13)), (11, .int xx)] → W p l e (rmL 9 1000 12000) s m args below meth c H locs 120 720 (KE below A1 (fun v _ => v = some (.int 1)) (fun _ _ => False) args s (rmL 9 1000 12000)) (F0 m 160 ls []) := by
                intro n9
                induction n9 with
                | zero =>
                  intro x1 i h1 h2 hT H locs ls hS hPX hP hl
                  exact absurd True.intro (by omega)
                | succ n9 ih160 =>
                  intro x1 i h1 h2 hT H locs ls hS hPX hP hl
                  refine lv_iload hx hb dL_areMuseums_160 (lv_at hl 0 rfl) ?_
                  refine lv_bipush (v := 6) hx hb dL_areMuseums_162 (by decide) ?_
                  refine lv_icmp_ge (tgt := 206) hx hb dL_areMuseums_164 (by decide) (fun c_164_5 => ?_) (fun c_164_5 => ?_)
                  · have ei := nI_eqle (n := 6) h1 (by omega) c_164_5
                    rw [ei, itr_end] at hT
                    subst hT
                    refine lv_iconst (v := 0) hx hb dL_areMuseums_206 (by decide) ?_
                    refine lv_istore (lv' := [(14, .int 0), (13, .int (mHeld τ nT)), (12, .int 1), (0, .ref (ad 0 0)), (1, .ref (al 0)), (2, .ref (al 2)), (3, .ref (al 3)), (4, .ref (al 4)), (5, .ref (al 5)), (6, .ref (al 6)), (7, .ref (al 7)), (8, .ref (al 9)), (9, .ref (al 12)), (10, .ref (al 13)), (11, .int xx)]) hx hb dL_areMuseums_207 hl (by decide) rfl (fun ls hl => ?_)
                    refine W.widen (k := 120 + 5 * 0) (n := 720 + 30 * 0) (by show 120 ≤ 120 + 5 * 0; omega) (by show 720 ≤ 720 + 30 * 0; omega) ?_
                    have L209 : ∀ (n9 : Nat) (i : Nat) (h1 : i ≤ 12) (h2 : 12 < i + n9) (H : Heap) (locs : List Loc) (ls : Array Slot), va_S A1 s.heap H locs → PX G A ad σ qs nT nW H → PL G Al al μ 14 H → lv_has ls 17 [(14, .int (nI i)), (13, .int (mHeld τ nT)), (12, .int 1), (0, .ref (ad 0 0)), (1, .ref (al 0)), (2, .ref (al 2)), (3, .ref (al 3)), (4, .ref (al 4)), (5, .ref (al 5)), (6, .ref (al 6)), (7, .ref (al 7)), (8, .ref (al 9)), (9, .ref (al 12)), (10, .ref (al 13)), (11, .int xx)] → W p l e (rmL 9 1000 12000) s m args below meth c H locs (120 + 5 * i) (720 + 30 * i) (KE below A1 (fun v _ => v = some (.int 1)) (fun _ _ => False) args s (rmL 9 1000 12000)) (F0 m 209 ls []) := by
                      intro n9
                      induction n9 with
                      | zero =>
                        intro i h1 h2 H locs ls hS hPX hP hl
                        exact absurd True.intro (by omega)
                      | succ n9 ih209 =>
                        intro i h1 h2 H locs ls hS hPX hP hl
                        refine lv_iload hx hb dL_areMuseums_209 (lv_at hl 0 rfl) ?_
                        refine lv_bipush (v := 12) hx hb dL_areMuseums_211 (by decide) ?_
                        refine lv_icmp_ge (tgt := 310) hx hb dL_areMuseums_213 (by decide) (fun c_213_6 => ?_) (fun c_213_6 => ?_)
                        · have ei := nI_eqle (n := 12) h1 (by omega) c_213_6
                          refine lv_iconst (v := 0) hx hb dL_areMuseums_310 (by decide) ?_
                          refine lv_istore (lv' := [(14, .int 0), (13, .int (mHeld τ nT)), (12, .int 1), (0, .ref (ad 0 0)), (1, .ref (al 0)), (2, .ref (al 2)), (3, .ref (al 3)), (4, .ref (al 4)), (5, .ref (al 5)), (6, .ref (al 6)), (7, .ref (al 7)), (8, .ref (al 9)), (9, .ref (al 12)), (10, .ref (al 13)), (11, .int xx)]) hx hb dL_areMuseums_311 hl (by decide) rfl (fun ls hl => ?_)
                          refine W.widen (k := 180 + 3 * 0) (n := 1080 + 18 * 0) (by show 120 + 5 * i ≤ 180 + 3 * 0; omega) (by show 720 + 30 * i ≤ 1080 + 18 * 0; omega) ?_
                          have L313 : ∀ (n9 : Nat) (i : Nat) (h1 : i ≤ 5) (h2 : 5 < i + n9) (H : Heap) (locs : List Loc) (ls : Array Slot), va_S A1 s.heap H locs → PX G A ad σ qs nT nW H → PL G Al al μ 14 H → lv_has ls 17 [(14, .int (nI i)), (13, .int (mHeld τ nT)), (12, .int 1), (0, .ref (ad 0 0)), (1, .ref (al 0)), (2, .ref (al 2)), (3, .ref (al 3)), (4, .ref (al 4)), (5, .ref (al 5)), (6, .ref (al 6)), (7, .ref (al 7)), (8, .ref (al 9)), (9, .ref (al 12)), (10, .ref (al 13)), (11, .int xx)] → W p l e (rmL 9 1000 12000) s m args below meth c H locs (180 + 3 * i) (1080 + 18 * i) (KE below A1 (fun v _ => v = some (.int 1)) (fun _ _ => False) args s (rmL 9 1000 12000)) (F0 m 313 ls []) := by
                            intro n9
                            induction n9 with
                            | zero =>
                              intro i h1 h2 H locs ls hS hPX hP hl
                              exact absurd True.intro (by omega)
                            | succ n9 ih313 =>
                              intro i h1 h2 H locs ls hS hPX hP hl
                              refine lv_iload hx hb dL_areMuseums_313 (lv_at hl 0 rfl) ?_
                              refine lv_iconst (v := 5) hx hb dL_areMuseums_315 (by decide) ?_
                              refine lv_icmp_ge (tgt := 379) hx hb dL_areMuseums_316 (by decide) (fun c_316_7 => ?_) (fun c_316_7 => ?_)
                              · have ei := nI_eqle (n := 5) h1 (by omega) c_316_7
                                refine lv_iconst (v := 0) hx hb dL_areMuseums_379 (by decide) ?_
                                refine lv_istore (lv' := [(14, .int 0), (13, .int (mHeld τ nT)), (12, .int 1), (0, .ref (ad 0 0)), (1, .ref (al 0)), (2, .ref (al 2)), (3, .ref (al 3)), (4, .ref (al 4)), (5, .ref (al 5)), (6, .ref (al 6)), (7, .ref (al 7)), (8, .ref (al 9)), (9, .ref (al 12)), (10, .ref (al 13)), (11, .int xx)]) hx hb dL_areMuseums_380 hl (by decide) rfl (fun ls hl => ?_)
                                refine W.widen (k := 195 + 61 * 0) (n := 1170 + 806 * 0) (by show 180 + 3 * i ≤ 195 + 61 * 0; omega) (by show 1080 + 18 * i ≤ 1170 + 806 * 0; omega) ?_
                                have L382 : ∀ (n9 : Nat) (i : Nat) (h1 : i ≤ nW) (h2 : nW < i + n9) (H : Heap) (locs : List Loc) (ls : Array Slot), va_S A1 s.heap H locs → PX G A ad σ qs nT nW H → PL G Al al μ 14 H → lv_has ls 17 [(14, .int (nI i)), (13, .int (mHeld τ nT)), (12, .int 1), (0, .ref (ad 0 0)), (1, .ref (al 0)), (2, .ref (al 2)), (3, .ref (al 3)), (4, .ref (al 4)), (5, .ref (al 5)), (6, .ref (al 6)), (7, .ref (al 7)), (8, .ref (al 9)), (9, .ref (al 12)), (10, .ref (al 13)), (11, .int xx)] → W p l e (rmL 9 1000 12000) s m args below meth c H locs (195 + 61 * i) (1170 + 806 * i) (KE below A1 (fun v _ => v = some (.int 1)) (fun _ _ => False) args s (rmL 9 1000 12000)) (F0 m 382 ls []) := by
                                  intro n9
                                  induction n9 with
                                  | zero =>
                                    intro i h1 h2 H locs ls hS hPX hP hl
                                    exact absurd True.intro (by omega)
                                  | succ n9 ih382 =>
                                    intro i h1 h2 H locs ls hS hPX hP hl
                                    refine lv_iload hx hb dL_areMuseums_382 (lv_at hl 0 rfl) ?_
                                    refine lv_aload_n hx hb dL_areMuseums_384 rfl (lv_at hl 4 rfl) ?_
                                    refine lv_iconst (v := 1) hx hb dL_areMuseums_385 (by decide) ?_
                                    refine xiald hx hb hE.1.1 (hP.arr 0 (by decide)) 0 rfl (k := 1) rfl (show _ < 7 by omega) (by decide) dL_areMuseums_386 ?_
                                    refine W.eq (g2 := F0 m 387 ls [.int (nI nW), .int (nI i)]) (congrArg (fun z => F0 m 387 ls [.int z, .int (nI i)]) (lr_n1 hR)) ?_
                                    refine lv_icmp_ge (tgt := 444) hx hb dL_areMuseums_387 (by decide) (fun c_387_8 => ?_) (fun c_387_8 => ?_)
                                    · have ei := nI_eqle h1 (by omega) c_387_8
                                      refine lv_iload hx hb dL_areMuseums_444 (lv_at hl 2 rfl) ?_
                                      refine lv_if_eq (tgt := 462) hx hb dL_areMuseums_446 (by decide) (fun c_446_9 => ?_) (fun c_446_9 => ?_)
                                      · exact absurd c_446_9 (by decide)
                                      · refine lv_aload_n hx hb dL_areMuseums_449 rfl (lv_at hl 3 rfl) ?_
                                        refine kcallV (n := 0) F (kP_held l G (fun q => H.size ≤ q) A ad σ qs nT nW hl9 f hR0.1.1 h80.2.2 h80.1) wML_L_117 wIM_X5_held wSE_X5_X5_held wIN_X5 wCO_X5_held (by decide) rfl ⟨by decide, by decide⟩ (frec F (hPX.main rfl) _ rfl) hS (fun q h => hA q (Nat.le_trans hS.1 h)) (fun q h => h) hPX rfl hl.1 (Nat.le_of_ble_eq_true rfl) dL_areMuseums_450 ⟨by show 195 + 61 * i + 0 ≤ 1000; omega, by show 1170 + 806 * i + 0 ≤ 12000; omega⟩ (fun E ce q9 H1 locs1 hx9 _ _ _ _ _ => (hx9).elim) (fun v H1 locs1 hv hk hS => ?_)
                                        have hPX := hPX.old hk
                                        have hP := hP.old hk
                                        subst hv
                                        refine W.eq (g2 := F0 m 453 ls [.int (mHeld τ nT)]) (congrArg (fun z => F0 m 453 ls [.int z]) (held_eq hR0)) ?_
                                        refine lv_iload hx hb dL_areMuseums_453 (lv_at hl 1 rfl) ?_
                                        refine lv_icmp_ne (tgt := 462) hx hb dL_areMuseums_455 (by decide) (fun c_455_10 => ?_) (fun c_455_10 => ?_)
                                        · exact absurd rfl c_455_10
                                        · refine lv_iconst (v := 1) hx hb dL_areMuseums_458 (by decide) ?_
                                          refine lv_goto (tgt := 463) hx hb dL_areMuseums_459 (by decide) ?_
                                          exact kzret hx hb hr hlocks hS (by show 195 + 61 * i + 0 ≤ 1000; omega) (by show 1170 + 806 * i + 0 ≤ 12000; omega) (Or.inr rfl) dL_areMuseums_463 rfl
                                    · have hi := nI_lt' h1 (by omega) c_387_8
                                      refine lv_iload hx hb dL_areMuseums_390 (lv_at hl 2 rfl) ?_
                                      refine lv_if_eq (tgt := 444) hx hb dL_areMuseums_392 (by decide) (fun c_392_11 => ?_) (fun c_392_11 => ?_)
                                      · exact absurd c_392_11 (by decide)
                                      · refine lv_aload_n hx hb dL_areMuseums_395 rfl (lv_at hl 3 rfl) ?_
                                        refine lv_iload hx hb dL_areMuseums_396 (lv_at hl 0 rfl) ?_
                                        refine kcallV (n := 1) F (kP_views l G (fun q => H.size ≤ q) A ad σ qs nT nW hl9 (nI i) h80.2.1) wML_L_110 wIM_X5_views wSE_X5_X5_views wIN_X5 wCO_X5_views (by decide) rfl ⟨by decide, by decide⟩ (frec F (hPX.main rfl) _ rfl) hS (fun q h => hA q (Nat.le_trans hS.1 h)) (fun q h => h) hPX rfl hl.1 (Nat.le_of_ble_eq_true rfl) dL_areMuseums_398 ⟨by show 195 + 61 * i + 1 ≤ 1000; omega, by show 1170 + 806 * i + 6 ≤ 12000; omega⟩ (fun E ce q9 H1 locs1 hx9 _ _ _ _ _ => (hx9.2 ⟨i, hi, rfl⟩).elim) (fun v H1 locs1 hv hk hS => ?_)
                                        have hPX := hPX.old hk
                                        have hP := hP.old hk
                                        have hv := views_ans hR0 hi hv
                                        subst hv
                                        refine lv_aload hx hb dL_areMuseums_401 (lv_at hl 12 rfl) ?_
                                        refine lv_iload hx hb dL_areMuseums_403 (lv_at hl 0 rfl) ?_
                                        refine xiald hx hb hE.1.1 (hP.arr 12 (by decide)) 0 rfl (k := i) rfl (show _ < 10 by omega) (by decide) dL_areMuseums_405 ?_
                                        refine W.eq (g2 := F0 m 406 ls [.int (τ 23 i), .int (τ 23 i)]) (congrArg (fun z => F0 m 406 ls [.int z, .int (τ 23 i)]) ((lr_b hR i).2.2)) ?_
                                        refine lv_icmp_ne (tgt := 435) hx hb dL_areMuseums_406 (by decide) (fun c_406_12 => ?_) (fun c_406_12 => ?_)
                                        · exact absurd rfl c_406_12
                                        · refine lv_iload hx hb dL_areMuseums_409 (lv_at hl 0 rfl) ?_
                                          refine lv_iconst (v := 3) hx hb dL_areMuseums_411 (by decide) ?_
                                          refine lv_irem hx hb dL_areMuseums_412 (by decide) ?_
                                          refine lv_iload hx hb dL_areMuseums_413 (lv_at hl 14 rfl) ?_
                                          refine lv_iconst (v := 3) hx hb dL_areMuseums_415 (by decide) ?_
                                          refine lv_irem hx hb dL_areMuseums_416 (by decide) ?_
                                          refine lv_icmp_ne (tgt := 431) hx hb dL_areMuseums_417 (by decide) (fun c_417_13 => ?_) (fun c_417_13 => ?_)
                                          · refine lv_iconst (v := 1) hx hb dL_areMuseums_431 (by decide) ?_
                                            refine lv_goto (tgt := 436) hx hb dL_areMuseums_432 (by decide) ?_
                                            refine lv_istore (lv' := [(12, .int 1), (14, .int (nI i)), (13, .int (mHeld τ nT)), (0, .ref (ad 0 0)), (1, .ref (al 0)), (2, .ref (al 2)), (3, .ref (al 3)), (4, .ref (al 4)), (5, .ref (al 5)), (6, .ref (al 6)), (7, .ref (al 7)), (8, .ref (al 9)), (9, .ref (al 12)), (10, .ref (al 13)), (11, .int xx)]) hx hb dL_areMuseums_436 hl (by decide) rfl (fun ls hl => ?_)
                                            refine lv_iinc (v := (nI (i + 1))) (lv' := [(14, .int (nI (i + 1))), (12, .int 1), (13, .int (mHeld τ nT)), (0, .ref (ad 0 0)), (1, .ref (al 0)), (2, .ref (al 2)), (3, .ref (al 3)), (4, .ref (al 4)), (5, .ref (al 5)), (6, .ref (al 6)), (7, .ref (al 7)), (8, .ref (al 9)), (9, .ref (al 12)), (10, .ref (al 13)), (11, .int xx)]) hx hb dL_areMuseums_438 hl (k := 1) rfl (nI_1 _) (by decide) rfl (fun ls hl => ?_)
                                            refine lv_goto (tgt := 382) hx hb dL_areMuseums_441 (by decide) ?_
                                            refine W.widen (k := 195 + 61 * (i + 1)) (n := 1170 + 806 * (i + 1)) (by show 195 + 61 * i + 1 ≤ 195 + 61 * (i + 1); omega) (by show 1170 + 806 * i + 6 ≤ 1170 + 806 * (i + 1); omega) ?_
                                            exact ih382 (i + 1) (by omega) (by omega) _ _ _ hS hPX hP (lv_sub hl [0, 2, 1, 3, 4, 5, 6, 7, 8, 9, 10, 11, 12, 13, 14] rfl)
                                          · refine lv_aload_n hx hb dL_areMuseums_420 rfl (lv_at hl 3 rfl) ?_
                                            refine lv_aload hx hb dL_areMuseums_421 (lv_at hl 11 rfl) ?_
                                            refine lv_iload hx hb dL_areMuseums_423 (lv_at hl 0 rfl) ?_
                                            refine kcallS (n := 3) F (kL_isTitle l G (fun q => H1.size ≤ q) A Al hl9 (ad 0 0) al μ τ nT nW N9 hR i hi) wML_L_113 wST_L_isTitle wIN_L wCO_L_isTitle (by decide) rfl ⟨by decide, by decide⟩ hS (fun q h => hA q (Nat.le_trans hS.1 h)) (fun q h => h) ⟨⟨ad, σ, qs, f, D, rfl, hPX, hR0, hI0⟩, hP⟩ rfl hl.1 (Nat.le_of_ble_eq_true rfl) dL_areMuseums_425 ⟨by show 195 + 61 * i + 1 + 60 ≤ 1000; omega, by show 1170 + 806 * i + 6 + 800 ≤ 12000; omega⟩ (fun E ce q9 H1 locs1 hx9 _ _ _ _ _ => hx9.elim) (fun v H1 locs1 hv hk hS => ?_)
                                            have hPX := hPX.old hk
                                            have hP := hP.old hk
                                            subst hv
                                            refine lv_if_eq (tgt := 435) hx hb dL_areMuseums_428 (by decide) (fun c_428_14 => ?_) (fun c_428_14 => ?_)
                                            · exact absurd c_428_14 (by decide)
                                            · refine lv_iconst (v := 1) hx hb dL_areMuseums_431 (by decide) ?_
                                              refine lv_goto (tgt := 436) hx hb dL_areMuseums_432 (by decide) ?_
                                              refine lv_istore (lv' := [(12, .int 1), (14, .int (nI i)), (13, .int (mHeld τ nT)), (0, .ref (ad 0 0)), (1, .ref (al 0)), (2, .ref (al 2)), (3, .ref (al 3)), (4, .ref (al 4)), (5, .ref (al 5)), (6, .ref (al 6)), (7, .ref (al 7)), (8, .ref (al 9)), (9, .ref (al 12)), (10, .ref (al 13)), (11, .int xx)]) hx hb dL_areMuseums_436 hl (by decide) rfl (fun ls hl => ?_)
                                              refine lv_iinc (v := (nI (i + 1))) (lv' := [(14, .int (nI (i + 1))), (12, .int 1), (13, .int (mHeld τ nT)), (0, .ref (ad 0 0)), (1, .ref (al 0)), (2, .ref (al 2)), (3, .ref (al 3)), (4, .ref (al 4)), (5, .ref (al 5)), (6, .ref (al 6)), (7, .ref (al 7)), (8, .ref (al 9)), (9, .ref (al 12)), (10, .ref (al 13)), (11, .int xx)]) hx hb dL_areMuseums_438 hl (k := 1) rfl (nI_1 _) (by decide) rfl (fun ls hl => ?_)
                                              refine lv_goto (tgt := 382) hx hb dL_areMuseums_441 (by decide) ?_
                                              refine W.widen (k := 195 + 61 * (i + 1)) (n := 1170 + 806 * (i + 1)) (by show 195 + 61 * i + 1 + 60 ≤ 195 + 61 * (i + 1); omega) (by show 1170 + 806 * i + 6 + 800 ≤ 1170 + 806 * (i + 1); omega) ?_
                                              exact ih382 (i + 1) (by omega) (by omega) _ _ _ hS hPX hP (lv_sub hl [0, 2, 1, 3, 4, 5, 6, 7, 8, 9, 10, 11, 12, 13, 14] rfl)
                                exact L382 (nW + 1) 0 (by omega) (by omega) _ _ _ hS hPX hP (lv_sub hl [0, 1, 2, 3, 4, 5, 6, 7, 8, 9, 10, 11, 12, 13, 14] rfl)
                              · have hi := nI_lt' (n := 5) h1 (by omega) c_316_7
                                refine lv_iload hx hb dL_areMuseums_319 (lv_at hl 2 rfl) ?_
                                refine lv_if_eq (tgt := 379) hx hb dL_areMuseums_321 (by decide) (fun c_321_15 => ?_) (fun c_321_15 => ?_)
                                · exact absurd c_321_15 (by decide)
                                · refine lv_iload hx hb dL_areMuseums_324 (lv_at hl 0 rfl) ?_
                                  refine lv_iconst (v := 4) hx hb dL_areMuseums_326 (by decide) ?_
                                  refine lv_icmp_ne (tgt := 334) hx hb dL_areMuseums_327 (by decide) (fun c_327_16 => ?_) (fun c_327_16 => ?_)
                                  · have hi4 : i < 4 := by have : i ≠ 4 := fun z => c_327_16 (by rw [z]; rfl); omega
                                    have hx7 : (i = 4 ∧ nI i = -1) ∨ (i < 4 ∧ nI i = nI i) := Or.inr ⟨by have : i ≠ 4 := fun z => c_327_16 (by rw [z]; rfl); omega, rfl⟩
                                    refine lv_iload hx hb dL_areMuseums_334 (lv_at hl 0 rfl) ?_
                                    refine lv_istore (lv' := [(15, .int (nI i)), (14, .int (nI i)), (13, .int (mHeld τ nT)), (12, .int 1), (0, .ref (ad 0 0)), (1, .ref (al 0)), (2, .ref (al 2)), (3, .ref (al 3)), (4, .ref (al 4)), (5, .ref (al 5)), (6, .ref (al 6)), (7, .ref (al 7)), (8, .ref (al 9)), (9, .ref (al 12)), (10, .ref (al 13)), (11, .int xx)]) hx hb dL_areMuseums_336 hl (by decide) rfl (fun ls hl => ?_)
                                    refine lv_aload_n hx hb dL_areMuseums_338 rfl (lv_at hl 4 rfl) ?_
                                    refine lv_iload hx hb dL_areMuseums_339 (lv_at hl 0 rfl) ?_
                                    have hi4 : i < 4 := by omega
                                    refine kcallV (n := 1) F (kP_money l G (fun q => H.size ≤ q) A ad σ qs nT nW hl9 (nI i)) wML_L_104 wIM_X5_money wSE_X5_X5_money wIN_X5 wCO_X5_money (by decide) rfl ⟨by decide, by decide⟩ (frec F (hPX.main rfl) _ rfl) hS (fun q h => hA q (Nat.le_trans hS.1 h)) (fun q h => h) hPX rfl hl.1 (Nat.le_of_ble_eq_true rfl) dL_areMuseums_341 ⟨by show 180 + 3 * i + 1 ≤ 1000; omega, by show 1080 + 18 * i + 6 ≤ 12000; omega⟩ (fun E ce q9 H1 locs1 hx9 _ _ _ _ _ => (hx9.2 ⟨i + 1, by omega, nI_1 i⟩).elim) (fun v H1 locs1 hv hk hS => ?_)
                                    have hPX := hPX.old hk
                                    have hP := hP.old hk
                                    have hv := money_ans hR0 hi hx7 hv
                                    subst hv
                                    refine lv_aload hx hb dL_areMuseums_344 (lv_at hl 14 rfl) ?_
                                    refine lv_iload hx hb dL_areMuseums_346 (lv_at hl 1 rfl) ?_
                                    refine xiald hx hb hE.1.1 (hP.arr 13 (by decide)) 0 rfl (k := i) rfl (show _ < 5 by omega) (by decide) dL_areMuseums_348 ?_
                                    refine W.eq (g2 := F0 m 349 ls [.int (τ 24 i), .int (τ 24 i)]) (congrArg (fun z => F0 m 349 ls [.int z, .int (τ 24 i)]) (lr_m hR hi)) ?_
                                    refine lv_icmp_ne (tgt := 370) hx hb dL_areMuseums_349 (by decide) (fun c_349_17 => ?_) (fun c_349_17 => ?_)
                                    · exact absurd rfl c_349_17
                                    · refine lv_aload_n hx hb dL_areMuseums_352 rfl (lv_at hl 4 rfl) ?_
                                      refine lv_iload hx hb dL_areMuseums_353 (lv_at hl 0 rfl) ?_
                                      refine kcallV (n := 1) F (kP_moneyBySeen l G (fun q => H1.size ≤ q) A ad σ qs nT nW hl9 (nI i) f hR0.1.1 h80.2.2 h80.1) wML_L_107 wIM_X5_moneyBySeen wSE_X5_X5_moneyBySeen wIN_X5 wCO_X5_moneyBySeen (by decide) rfl ⟨by decide, by decide⟩ (frec F (hPX.main rfl) _ rfl) hS (fun q h => hA q (Nat.le_trans hS.1 h)) (fun q h => h) hPX rfl hl.1 (Nat.le_of_ble_eq_true rfl) dL_areMuseums_355 ⟨by show 180 + 3 * i + 1 + 2 ≤ 1000; omega, by show 1080 + 18 * i + 6 + 12 ≤ 12000; omega⟩ (fun E ce q9 H1 locs1 hx9 _ _ _ _ _ => (hx9.2 ⟨i + 1, by omega, nI_1 i⟩).elim) (fun v H1 locs1 hv hk hS => ?_)
                                      have hPX := hPX.old hk
                                      have hP := hP.old hk
                                      have hv := moneyS_ans hR0 hi hx7 hv
                                      subst hv
                                      refine lv_aload hx hb dL_areMuseums_358 (lv_at hl 14 rfl) ?_
                                      refine lv_iload hx hb dL_areMuseums_360 (lv_at hl 1 rfl) ?_
                                      refine xiald hx hb hE.1.1 (hP.arr 13 (by decide)) 0 rfl (k := i) rfl (show _ < 5 by omega) (by decide) dL_areMuseums_362 ?_
                                      refine W.eq (g2 := F0 m 363 ls [.int (τ 24 i), .int (τ 24 i)]) (congrArg (fun z => F0 m 363 ls [.int z, .int (τ 24 i)]) (lr_m hR hi)) ?_
                                      refine lv_icmp_ne (tgt := 370) hx hb dL_areMuseums_363 (by decide) (fun c_363_18 => ?_) (fun c_363_18 => ?_)
                                      · exact absurd rfl c_363_18
                                      · refine lv_iconst (v := 1) hx hb dL_areMuseums_366 (by decide) ?_
                                        refine lv_goto (tgt := 371) hx hb dL_areMuseums_367 (by decide) ?_
                                        refine lv_istore (lv' := [(12, .int 1), (15, .int (nI i)), (14, .int (nI i)), (13, .int (mHeld τ nT)), (0, .ref (ad 0 0)), (1, .ref (al 0)), (2, .ref (al 2)), (3, .ref (al 3)), (4, .ref (al 4)), (5, .ref (al 5)), (6, .ref (al 6)), (7, .ref (al 7)), (8, .ref (al 9)), (9, .ref (al 12)), (10, .ref (al 13)), (11, .int xx)]) hx hb dL_areMuseums_371 hl (by decide) rfl (fun ls hl => ?_)
                                        refine lv_iinc (v := (nI (i + 1))) (lv' := [(14, .int (nI (i + 1))), (12, .int 1), (15, .int (nI i)), (13, .int (mHeld τ nT)), (0, .ref (ad 0 0)), (1, .ref (al 0)), (2, .ref (al 2)), (3, .ref (al 3)), (4, .ref (al 4)), (5, .ref (al 5)), (6, .ref (al 6)), (7, .ref (al 7)), (8, .ref (al 9)), (9, .ref (al 12)), (10, .ref (al 13)), (11, .int xx)]) hx hb dL_areMuseums_373 hl (k := 2) rfl (nI_1 _) (by decide) rfl (fun ls hl => ?_)
                                        refine lv_goto (tgt := 313) hx hb dL_areMuseums_376 (by decide) ?_
                                        refine W.widen (k := 180 + 3 * (i + 1)) (n := 1080 + 18 * (i + 1)) (by show 180 + 3 * i + 1 + 2 ≤ 180 + 3 * (i + 1); omega) (by show 1080 + 18 * i + 6 + 12 ≤ 1080 + 18 * (i + 1); omega) ?_
                                        exact ih313 (i + 1) (by omega) (by omega) _ _ _ hS hPX hP (lv_sub hl [0, 3, 1, 4, 5, 6, 7, 8, 9, 10, 11, 12, 13, 14, 15] rfl)
                                  · have hx7 : (i = 4 ∧ (-1 : Int32) = -1) ∨ (i < 4 ∧ (-1 : Int32) = nI i) := Or.inl ⟨nIe (b := 4) (by omega) (by decide) c_327_16, rfl⟩
                                    refine lv_iconst (v := (-1)) hx hb dL_areMuseums_330 (by decide) ?_
                                    refine lv_goto (tgt := 336) hx hb dL_areMuseums_331 (by decide) ?_
                                    refine lv_istore (lv' := [(15, .int (-1)), (14, .int (nI i)), (13, .int (mHeld τ nT)), (12, .int 1), (0, .ref (ad 0 0)), (1, .ref (al 0)), (2, .ref (al 2)), (3, .ref (al 3)), (4, .ref (al 4)), (5, .ref (al 5)), (6, .ref (al 6)), (7, .ref (al 7)), (8, .ref (al 9)), (9, .ref (al 12)), (10, .ref (al 13)), (11, .int xx)]) hx hb dL_areMuseums_336 hl (by decide) rfl (fun ls hl => ?_)
                                    refine lv_aload_n hx hb dL_areMuseums_338 rfl (lv_at hl 4 rfl) ?_
                                    refine lv_iload hx hb dL_areMuseums_339 (lv_at hl 0 rfl) ?_
                                    refine kcallV (n := 1) F (kP_money l G (fun q => H.size ≤ q) A ad σ qs nT nW hl9 (-1)) wML_L_104 wIM_X5_money wSE_X5_X5_money wIN_X5 wCO_X5_money (by decide) rfl ⟨by decide, by decide⟩ (frec F (hPX.main rfl) _ rfl) hS (fun q h => hA q (Nat.le_trans hS.1 h)) (fun q h => h) hPX rfl hl.1 (Nat.le_of_ble_eq_true rfl) dL_areMuseums_341 ⟨by show 180 + 3 * i + 1 ≤ 1000; omega, by show 1080 + 18 * i + 6 ≤ 12000; omega⟩ (fun E ce q9 H1 locs1 hx9 _ _ _ _ _ => (hx9.2 ⟨0, by decide, by decide⟩).elim) (fun v H1 locs1 hv hk hS => ?_)
                                    have hPX := hPX.old hk
                                    have hP := hP.old hk
                                    have hv := money_ans hR0 hi hx7 hv
                                    subst hv
                                    refine lv_aload hx hb dL_areMuseums_344 (lv_at hl 14 rfl) ?_
                                    refine lv_iload hx hb dL_areMuseums_346 (lv_at hl 1 rfl) ?_
                                    refine xiald hx hb hE.1.1 (hP.arr 13 (by decide)) 0 rfl (k := i) rfl (show _ < 5 by omega) (by decide) dL_areMuseums_348 ?_
                                    refine W.eq (g2 := F0 m 349 ls [.int (τ 24 i), .int (τ 24 i)]) (congrArg (fun z => F0 m 349 ls [.int z, .int (τ 24 i)]) (lr_m hR hi)) ?_
                                    refine lv_icmp_ne (tgt := 370) hx hb dL_areMuseums_349 (by decide) (fun c_349_19 => ?_) (fun c_349_19 => ?_)
                                    · exact absurd rfl c_349_19
                                    · refine lv_aload_n hx hb dL_areMuseums_352 rfl (lv_at hl 4 rfl) ?_
                                      refine lv_iload hx hb dL_areMuseums_353 (lv_at hl 0 rfl) ?_
                                      refine kcallV (n := 1) F (kP_moneyBySeen l G (fun q => H1.size ≤ q) A ad σ qs nT nW hl9 (-1) f hR0.1.1 h80.2.2 h80.1) wML_L_107 wIM_X5_moneyBySeen wSE_X5_X5_moneyBySeen wIN_X5 wCO_X5_moneyBySeen (by decide) rfl ⟨by decide, by decide⟩ (frec F (hPX.main rfl) _ rfl) hS (fun q h => hA q (Nat.le_trans hS.1 h)) (fun q h => h) hPX rfl hl.1 (Nat.le_of_ble_eq_true rfl) dL_areMuseums_355 ⟨by show 180 + 3 * i + 1 + 2 ≤ 1000; omega, by show 1080 + 18 * i + 6 + 12 ≤ 12000; omega⟩ (fun E ce q9 H1 locs1 hx9 _ _ _ _ _ => (hx9.2 ⟨0, by decide, by decide⟩).elim) (fun v H1 locs1 hv hk hS => ?_)
                                      have hPX := hPX.old hk
                                      have hP := hP.old hk
                                      have hv := moneyS_ans hR0 hi hx7 hv
                                      subst hv
                                      refine lv_aload hx hb dL_areMuseums_358 (lv_at hl 14 rfl) ?_
                                      refine lv_iload hx hb dL_areMuseums_360 (lv_at hl 1 rfl) ?_
                                      refine xiald hx hb hE.1.1 (hP.arr 13 (by decide)) 0 rfl (k := i) rfl (show _ < 5 by omega) (by decide) dL_areMuseums_362 ?_
                                      refine W.eq (g2 := F0 m 363 ls [.int (τ 24 i), .int (τ 24 i)]) (congrArg (fun z => F0 m 363 ls [.int z, .int (τ 24 i)]) (lr_m hR hi)) ?_
                                      refine lv_icmp_ne (tgt := 370) hx hb dL_areMuseums_363 (by decide) (fun c_363_20 => ?_) (fun c_363_20 => ?_)
                                      · exact absurd rfl c_363_20
                                      · refine lv_iconst (v := 1) hx hb dL_areMuseums_366 (by decide) ?_
                                        refine lv_goto (tgt := 371) hx hb dL_areMuseums_367 (by decide) ?_
                                        refine lv_istore (lv' := [(12, .int 1), (15, .int (-1)), (14, .int (nI i)), (13, .int (mHeld τ nT)), (0, .ref (ad 0 0)), (1, .ref (al 0)), (2, .ref (al 2)), (3, .ref (al 3)), (4, .ref (al 4)), (5, .ref (al 5)), (6, .ref (al 6)), (7, .ref (al 7)), (8, .ref (al 9)), (9, .ref (al 12)), (10, .ref (al 13)), (11, .int xx)]) hx hb dL_areMuseums_371 hl (by decide) rfl (fun ls hl => ?_)
                                        refine lv_iinc (v := (nI (i + 1))) (lv' := [(14, .int (nI (i + 1))), (12, .int 1), (15, .int (-1)), (13, .int (mHeld τ nT)), (0, .ref (ad 0 0)), (1, .ref (al 0)), (2, .ref (al 2)), (3, .ref (al 3)), (4, .ref (al 4)), (5, .ref (al 5)), (6, .ref (al 6)), (7, .ref (al 7)), (8, .ref (al 9)), (9, .ref (al 12)), (10, .ref (al 13)), (11, .int xx)]) hx hb dL_areMuseums_373 hl (k := 2) rfl (nI_1 _) (by decide) rfl (fun ls hl => ?_)
                                        refine lv_goto (tgt := 313) hx hb dL_areMuseums_376 (by decide) ?_
                                        refine W.widen (k := 180 + 3 * (i + 1)) (n := 1080 + 18 * (i + 1)) (by show 180 + 3 * i + 1 + 2 ≤ 180 + 3 * (i + 1); omega) (by show 1080 + 18 * i + 6 + 12 ≤ 1080 + 18 * (i + 1); omega) ?_
                                        exact ih313 (i + 1) (by omega) (by omega) _ _ _ hS hPX hP (lv_sub hl [0, 3, 1, 4, 5, 6, 7, 8, 9, 10, 11, 12, 13, 14, 15] rfl)
                          exact L313 6 0 (by omega) (by omega) _ _ _ hS hPX hP (lv_sub hl [0, 1, 2, 3, 4, 5, 6, 7, 8, 9, 10, 11, 12, 13, 14] rfl)
                        · have hi := nI_lt' (n := 12) h1 (by omega) c_213_6
                          refine lv_iload hx hb dL_areMuseums_216 (lv_at hl 2 rfl) ?_
                          refine lv_if_eq (tgt := 310) hx hb dL_areMuseums_218 (by decide) (fun c_218_21 => ?_) (fun c_218_21 => ?_)
                          · exact absurd c_218_21 (by decide)
                          · refine lv_aload_n hx hb dL_areMuseums_221 rfl (lv_at hl 4 rfl) ?_
                            refine lv_aload_n hx hb dL_areMuseums_222 rfl (lv_at hl 6 rfl) ?_
                            refine lv_aload hx hb dL_areMuseums_223 (lv_at hl 9 rfl) ?_
                            refine lv_aload hx hb dL_areMuseums_225 (lv_at hl 10 rfl) ?_
                            refine lv_iload hx hb dL_areMuseums_227 (lv_at hl 0 rfl) ?_
                            refine lv_iconst (v := (-1)) hx hb dL_areMuseums_229 (by decide) ?_
                            refine kcallS (n := 6) F (kL_queued l G (fun q => H.size ≤ q) Al al μ τ nT nW hR i hi (-1)) wML_L_10 wST_L_queued wIN_L wCO_L_queued (by decide) rfl ⟨by decide, by decide⟩ hS (fun q h => hA q (Nat.le_trans hS.1 h)) (fun q h => h) hP rfl hl.1 (Nat.le_of_ble_eq_true rfl) dL_areMuseums_230 ⟨by show 120 + 5 * i + 0 ≤ 1000; omega, by show 720 + 30 * i + 0 ≤ 12000; omega⟩ (fun E ce q9 H1 locs1 hx9 _ _ _ _ _ => hx9.elim) (fun v H1 locs1 hv hk hS => ?_)
                            have hPX := hPX.old hk
                            have hP := hP.old hk
                            subst hv
                            refine W.eq (g2 := F0 m 233 ls [.int (mQ τ nT i 0)]) (congrArg (fun z => F0 m 233 ls [.int z]) (lQue_0 (lr_QB hR) (by omega))) ?_
                            refine lv_istore (lv' := [(15, .int (mQ τ nT i 0)), (14, .int (nI i)), (13, .int (mHeld τ nT)), (12, .int 1), (0, .ref (ad 0 0)), (1, .ref (al 0)), (2, .ref (al 2)), (3, .ref (al 3)), (4, .ref (al 4)), (5, .ref (al 5)), (6, .ref (al 6)), (7, .ref (al 7)), (8, .ref (al 9)), (9, .ref (al 12)), (10, .ref (al 13)), (11, .int xx)]) hx hb dL_areMuseums_233 hl (by decide) rfl (fun ls hl => ?_)
                            refine lv_aload_n hx hb dL_areMuseums_235 rfl (lv_at hl 5 rfl) ?_
                            refine lv_aload_n hx hb dL_areMuseums_236 rfl (lv_at hl 7 rfl) ?_
                            refine lv_aload hx hb dL_areMuseums_237 (lv_at hl 10 rfl) ?_
                            refine lv_aload hx hb dL_areMuseums_239 (lv_at hl 11 rfl) ?_
                            refine lv_iload hx hb dL_areMuseums_241 (lv_at hl 1 rfl) ?_
                            refine lv_aload_n hx hb dL_areMuseums_243 rfl (lv_at hl 7 rfl) ?_
                            refine lv_aload hx hb dL_areMuseums_244 (lv_at hl 11 rfl) ?_
                            refine lv_iload hx hb dL_areMuseums_246 (lv_at hl 0 rfl) ?_
                            refine kcallS (n := 3) F (kL_rank l G (fun q => H1.size ≤ q) Al al μ τ nT nW hR (mQ τ nT i 0) mQ_or) wML_L_97 wST_L_rank wIN_L wCO_L_rank (by decide) rfl ⟨by decide, by decide⟩ hS (fun q h => hA q (Nat.le_trans hS.1 h)) (fun q h => h) hP rfl hl.1 (Nat.le_of_ble_eq_true rfl) dL_areMuseums_248 ⟨by show 120 + 5 * i + 0 + 0 ≤ 1000; omega, by show 720 + 30 * i + 0 + 0 ≤ 12000; omega⟩ (fun E ce q9 H1 locs1 hx9 _ _ _ _ _ => hx9.elim) (fun v H1 locs1 hv hk hS => ?_)
                            have hPX := hPX.old hk
                            have hP := hP.old hk
                            subst hv
                            refine kcallS (n := 6) F (kL_queued l G (fun q => H1.size ≤ q) Al al μ τ nT nW hR i hi (lRk τ (mQ τ nT i 0))) wML_L_10 wST_L_queued wIN_L wCO_L_queued (by decide) rfl ⟨by decide, by decide⟩ hS (fun q h => hA q (Nat.le_trans hS.1 h)) (fun q h => h) hP rfl hl.1 (Nat.le_of_ble_eq_true rfl) dL_areMuseums_251 ⟨by show 120 + 5 * i + 0 + 0 + 0 ≤ 1000; omega, by show 720 + 30 * i + 0 + 0 + 0 ≤ 12000; omega⟩ (fun E ce q9 H1 locs1 hx9 _ _ _ _ _ => hx9.elim) (fun v H1 locs1 hv hk hS => ?_)
                            have hPX := hPX.old hk
                            have hP := hP.old hk
                            subst hv
                            refine W.eq (g2 := F0 m 254 ls [.int (mQ τ nT i 1)]) (congrArg (fun z => F0 m 254 ls [.int z]) (lQue_1 (lr_QB hR) hR0.k.2.2.2.2.2.2.2.2.2.2.1 (by omega) hi)) ?_
                            refine lv_istore (lv' := [(16, .int (mQ τ nT i 1)), (15, .int (mQ τ nT i 0)), (14, .int (nI i)), (13, .int (mHeld τ nT)), (12, .int 1), (0, .ref (ad 0 0)), (1, .ref (al 0)), (2, .ref (al 2)), (3, .ref (al 3)), (4, .ref (al 4)), (5, .ref (al 5)), (6, .ref (al 6)), (7, .ref (al 7)), (8, .ref (al 9)), (9, .ref (al 12)), (10, .ref (al 13)), (11, .int xx)]) hx hb dL_areMuseums_254 hl (by decide) rfl (fun ls hl => ?_)
                            refine lv_aload_n hx hb dL_areMuseums_256 rfl (lv_at hl 5 rfl) ?_
                            refine lv_iload hx hb dL_areMuseums_257 (lv_at hl 2 rfl) ?_
                            refine kcallV (n := 1) F (kP_inside l G (fun q => H1.size ≤ q) A ad σ qs nT nW hl9 (nI i)) wML_L_100 wIM_X5_inside wSE_X5_X5_inside wIN_X5 wCO_X5_inside (by decide) rfl ⟨by decide, by decide⟩ (frec F (hPX.main rfl) _ rfl) hS (fun q h => hA q (Nat.le_trans hS.1 h)) (fun q h => h) hPX rfl hl.1 (Nat.le_of_ble_eq_true rfl) dL_areMuseums_259 ⟨by show 120 + 5 * i + 0 + 0 + 0 + 1 ≤ 1000; omega, by show 720 + 30 * i + 0 + 0 + 0 + 6 ≤ 12000; omega⟩ (fun E ce q9 H1 locs1 hx9 _ _ _ _ _ => (hx9.2 ⟨i, hi, rfl⟩).elim) (fun v H1 locs1 hv hk hS => ?_)
                            have hPX := hPX.old hk
                            have hP := hP.old hk
                            have hv := inside_ans hR0 hi hv
                            subst hv
                            refine lv_aload_n hx hb dL_areMuseums_262 rfl (lv_at hl 6 rfl) ?_
                            refine lv_aload hx hb dL_areMuseums_263 (lv_at hl 11 rfl) ?_
                            refine lv_iload hx hb dL_areMuseums_265 (lv_at hl 2 rfl) ?_
                            refine kcallS (n := 3) F (kL_inside l G (fun q => H1.size ≤ q) Al al μ τ nT nW hR i hi) wML_L_16 wST_L_inside wIN_L wCO_L_inside (by decide) rfl ⟨by decide, by decide⟩ hS (fun q h => hA q (Nat.le_trans hS.1 h)) (fun q h => h) hP rfl hl.1 (Nat.le_of_ble_eq_true rfl) dL_areMuseums_267 ⟨by show 120 + 5 * i + 0 + 0 + 0 + 1 + 0 ≤ 1000; omega, by show 720 + 30 * i + 0 + 0 + 0 + 6 + 0 ≤ 12000; omega⟩ (fun E ce q9 H1 locs1 hx9 _ _ _ _ _ => hx9.elim) (fun v H1 locs1 hv hk hS => ?_)
                            have hPX := hPX.old hk
                            have hP := hP.old hk
                            subst hv
                            refine lv_icmp_ne (tgt := 301) hx hb dL_areMuseums_270 (by decide) (fun c_270_22 => ?_) (fun c_270_22 => ?_)
                            · exact absurd rfl c_270_22
                            · refine lv_aload_n hx hb dL_areMuseums_273 rfl (lv_at hl 5 rfl) ?_
                              refine lv_iload hx hb dL_areMuseums_274 (lv_at hl 2 rfl) ?_
                              refine lv_iconst (v := 0) hx hb dL_areMuseums_276 (by decide) ?_
                              refine kcallV (n := 2) F (kP_queued l G (fun q => H1.size ≤ q) A ad σ qs nT nW hl9 (nI i) 0 (L_len hR0 (by decide))) wML_L_102 wIM_X5_queued wSE_X5_X5_queued wIN_X5 wCO_X5_queued (by decide) rfl ⟨by decide, by decide⟩ (frec F (hPX.main rfl) _ rfl) hS (fun q h => hA q (Nat.le_trans hS.1 h)) (fun q h => h) hPX rfl hl.1 (Nat.le_of_ble_eq_true rfl) dL_areMuseums_277 ⟨by show 120 + 5 * i + 0 + 0 + 0 + 1 + 0 + 2 ≤ 1000; omega, by show 720 + 30 * i + 0 + 0 + 0 + 6 + 0 + 12 ≤ 12000; omega⟩ (fun E ce q9 H1 locs1 hx9 _ _ _ _ _ => (hx9.elim (fun z => z.2 ⟨i, hi, rfl⟩) (fun z => z.2 (by decide))).elim) (fun v H1 locs1 hv hk hS => ?_)
                              have hPX := hPX.old hk
                              have hP := hP.old hk
                              have hv := queue_ans hR0 hi (k := 0) (by decide) hv
                              subst hv
                              refine lv_iload hx hb dL_areMuseums_280 (lv_at hl 1 rfl) ?_
                              refine lv_icmp_ne (tgt := 301) hx hb dL_areMuseums_282 (by decide) (fun c_282_23 => ?_) (fun c_282_23 => ?_)
                              · exact absurd rfl c_282_23
                              · refine lv_aload_n hx hb dL_areMuseums_285 rfl (lv_at hl 5 rfl) ?_
                                refine lv_iload hx hb dL_areMuseums_286 (lv_at hl 2 rfl) ?_
                                refine lv_iconst (v := 1) hx hb dL_areMuseums_288 (by decide) ?_
                                refine kcallV (n := 2) F (kP_queued l G (fun q => H1.size ≤ q) A ad σ qs nT nW hl9 (nI i) 1 (L_len hR0 (by decide))) wML_L_102 wIM_X5_queued wSE_X5_X5_queued wIN_X5 wCO_X5_queued (by decide) rfl ⟨by decide, by decide⟩ (frec F (hPX.main rfl) _ rfl) hS (fun q h => hA q (Nat.le_trans hS.1 h)) (fun q h => h) hPX rfl hl.1 (Nat.le_of_ble_eq_true rfl) dL_areMuseums_289 ⟨by show 120 + 5 * i + 0 + 0 + 0 + 1 + 0 + 2 + 2 ≤ 1000; omega, by show 720 + 30 * i + 0 + 0 + 0 + 6 + 0 + 12 + 12 ≤ 12000; omega⟩ (fun E ce q9 H1 locs1 hx9 _ _ _ _ _ => (hx9.elim (fun z => z.2 ⟨i, hi, rfl⟩) (fun z => z.2 (by decide))).elim) (fun v H1 locs1 hv hk hS => ?_)
                                have hPX := hPX.old hk
                                have hP := hP.old hk
                                have hv := queue_ans hR0 hi (k := 1) (by decide) hv
                                subst hv
                                refine lv_iload hx hb dL_areMuseums_292 (lv_at hl 0 rfl) ?_
                                refine lv_icmp_ne (tgt := 301) hx hb dL_areMuseums_294 (by decide) (fun c_294_24 => ?_) (fun c_294_24 => ?_)
                                · exact absurd rfl c_294_24
                                · refine lv_iconst (v := 1) hx hb dL_areMuseums_297 (by decide) ?_
                                  refine lv_goto (tgt := 302) hx hb dL_areMuseums_298 (by decide) ?_
                                  refine lv_istore (lv' := [(12, .int 1), (16, .int (mQ τ nT i 1)), (15, .int (mQ τ nT i 0)), (14, .int (nI i)), (13, .int (mHeld τ nT)), (0, .ref (ad 0 0)), (1, .ref (al 0)), (2, .ref (al 2)), (3, .ref (al 3)), (4, .ref (al 4)), (5, .ref (al 5)), (6, .ref (al 6)), (7, .ref (al 7)), (8, .ref (al 9)), (9, .ref (al 12)), (10, .ref (al 13)), (11, .int xx)]) hx hb dL_areMuseums_302 hl (by decide) rfl (fun ls hl => ?_)
                                  refine lv_iinc (v := (nI (i + 1))) (lv' := [(14, .int (nI (i + 1))), (12, .int 1), (16, .int (mQ τ nT i 1)), (15, .int (mQ τ nT i 0)), (13, .int (mHeld τ nT)), (0, .ref (ad 0 0)), (1, .ref (al 0)), (2, .ref (al 2)), (3, .ref (al 3)), (4, .ref (al 4)), (5, .ref (al 5)), (6, .ref (al 6)), (7, .ref (al 7)), (8, .ref (al 9)), (9, .ref (al 12)), (10, .ref (al 13)), (11, .int xx)]) hx hb dL_areMuseums_304 hl (k := 3) rfl (nI_1 _) (by decide) rfl (fun ls hl => ?_)
                                  refine lv_goto (tgt := 209) hx hb dL_areMuseums_307 (by decide) ?_
                                  refine W.widen (k := 120 + 5 * (i + 1)) (n := 720 + 30 * (i + 1)) (by show 120 + 5 * i + 0 + 0 + 0 + 1 + 0 + 2 + 2 ≤ 120 + 5 * (i + 1); omega) (by show 720 + 30 * i + 0 + 0 + 0 + 6 + 0 + 12 + 12 ≤ 720 + 30 * (i + 1); omega) ?_
                                  exact ih209 (i + 1) (by omega) (by omega) _ _ _ hS hPX hP (lv_sub hl [0, 4, 1, 5, 6, 7, 8, 9, 10, 11, 12, 13, 14, 15, 16] rfl)
                    exact L209 13 0 (by omega) (by omega) _ _ _ hS hPX hP (lv_sub hl [0, 1, 2, 3, 4, 5, 6, 7, 8, 9, 10, 11, 12, 13, 14] rfl)
                  · have hi := nI_lt' (n := 6) h1 (by omega) c_164_5
                    refine lv_iload hx hb dL_areMuseums_167 (lv_at hl 1 rfl) ?_
                    refine lv_aload_n hx hb dL_areMuseums_169 rfl (lv_at hl 5 rfl) ?_
                    refine lv_iload hx hb dL_areMuseums_170 (lv_at hl 0 rfl) ?_
                    refine xiald hx hb hE.1.1 (hP.arr 2 (by decide)) 0 rfl (k := i) rfl (show _ < 6 by omega) (by decide) dL_areMuseums_172 ?_
                    refine W.eq (g2 := F0 m 173 ls [.int (τ 2 i), .int x1]) (congrArg (fun z => F0 m 173 ls [.int z, .int x1]) (lr_l hR hi)) ?_
                    refine lv_aload_n hx hb dL_areMuseums_173 rfl (lv_at hl 4 rfl) ?_
                    refine lv_iconst (v := 2) hx hb dL_areMuseums_174 (by decide) ?_
                    refine xiald hx hb hE.1.1 (hP.arr 0 (by decide)) 0 rfl (k := 2) rfl (show _ < 7 by omega) (by decide) dL_areMuseums_175 ?_
                    refine W.eq (g2 := F0 m 176 ls [.int (τ 26 0), .int (τ 2 i), .int x1]) (congrArg (fun z => F0 m 176 ls [.int z, .int (τ 2 i), .int x1]) (lr_n2 hR)) ?_
                    refine lv_icmp_lt (tgt := 196) hx hb dL_areMuseums_176 (by decide) (fun c_176_25 => ?_) (fun c_176_25 => ?_)
                    · refine lv_iconst (v := 0) hx hb dL_areMuseums_196 (by decide) ?_
                      refine lv_iadd hx hb dL_areMuseums_197 ?_
                      refine lv_istore (lv' := [(13, .int (x1 + 0)), (14, .int (nI i)), (12, .int 1), (0, .ref (ad 0 0)), (1, .ref (al 0)), (2, .ref (al 2)), (3, .ref (al 3)), (4, .ref (al 4)), (5, .ref (al 5)), (6, .ref (al 6)), (7, .ref (al 7)), (8, .ref (al 9)), (9, .ref (al 12)), (10, .ref (al 13)), (11, .int xx)]) hx hb dL_areMuseums_198 hl (by decide) rfl (fun ls hl => ?_)
                      refine lv_iinc (v := (nI (i + 1))) (lv' := [(14, .int (nI (i + 1))), (13, .int (x1 + 0)), (12, .int 1), (0, .ref (ad 0 0)), (1, .ref (al 0)), (2, .ref (al 2)), (3, .ref (al 3)), (4, .ref (al 4)), (5, .ref (al 5)), (6, .ref (al 6)), (7, .ref (al 7)), (8, .ref (al 9)), (9, .ref (al 12)), (10, .ref (al 13)), (11, .int xx)]) hx hb dL_areMuseums_200 hl (k := 1) rfl (nI_1 _) (by decide) rfl (fun ls hl => ?_)
                      refine lv_goto (tgt := 160) hx hb dL_areMuseums_203 (by decide) ?_
                      refine W.widen (k := 120) (n := 720) (by show 120 ≤ 120; omega) (by show 720 ≤ 720; omega) ?_
                      exact ih160 (x1 + 0) (i + 1) (by omega) (by omega) (by rw [itr_step hi, show mHM1 τ i x1 = x1 + 0 from if_neg (by rw [fBel_lt.mpr c_176_25]; decide)] at hT; exact hT) _ _ _ hS hPX hP (lv_sub hl [0, 1, 2, 3, 4, 5, 6, 7, 8, 9, 10, 11, 12, 13, 14] rfl)
                    · refine lv_sipush (v := 200) hx hb dL_areMuseums_179 (by decide) ?_
                      refine lv_aload_n hx hb dL_areMuseums_182 rfl (lv_at hl 5 rfl) ?_
                      refine lv_iload hx hb dL_areMuseums_183 (lv_at hl 0 rfl) ?_
                      refine xiald hx hb hE.1.1 (hP.arr 2 (by decide)) 0 rfl (k := i) rfl (show _ < 6 by omega) (by decide) dL_areMuseums_185 ?_
                      refine W.eq (g2 := F0 m 186 ls [.int (τ 2 i), .int 200, .int x1]) (congrArg (fun z => F0 m 186 ls [.int z, .int 200, .int x1]) (lr_l hR hi)) ?_
                      refine lv_aload_n hx hb dL_areMuseums_186 rfl (lv_at hl 4 rfl) ?_
                      refine lv_iconst (v := 2) hx hb dL_areMuseums_187 (by decide) ?_
                      refine xiald hx hb hE.1.1 (hP.arr 0 (by decide)) 0 rfl (k := 2) rfl (show _ < 7 by omega) (by decide) dL_areMuseums_188 ?_
                      refine W.eq (g2 := F0 m 189 ls [.int (τ 26 0), .int (τ 2 i), .int 200, .int x1]) (congrArg (fun z => F0 m 189 ls [.int z, .int (τ 2 i), .int 200, .int x1]) (lr_n2 hR)) ?_
                      refine lv_isub hx hb dL_areMuseums_189 ?_
                      refine lv_iconst (v := 1) hx hb dL_areMuseums_190 (by decide) ?_
                      refine lv_iadd hx hb dL_areMuseums_191 ?_
                      refine lv_imul hx hb dL_areMuseums_192 ?_
                      refine lv_goto (tgt := 197) hx hb dL_areMuseums_193 (by decide) ?_
                      refine lv_iadd hx hb dL_areMuseums_197 ?_
                      refine lv_istore (lv' := [(13, .int (x1 + (200 * (((τ 2 i) - (τ 26 0)) + 1)))), (14, .int (nI i)), (12, .int 1), (0, .ref (ad 0 0)), (1, .ref (al 0)), (2, .ref (al 2)), (3, .ref (al 3)), (4, .ref (al 4)), (5, .ref (al 5)), (6, .ref (al 6)), (7, .ref (al 7)), (8, .ref (al 9)), (9, .ref (al 12)), (10, .ref (al 13)), (11, .int xx)]) hx hb dL_areMuseums_198 hl (by decide) rfl (fun ls hl => ?_)
                      refine lv_iinc (v := (nI (i + 1))) (lv' := [(14, .int (nI (i + 1))), (13, .int (x1 + (200 * (((τ 2 i) - (τ 26 0)) + 1)))), (12, .int 1), (0, .ref (ad 0 0)), (1, .ref (al 0)), (2, .ref (al 2)), (3, .ref (al 3)), (4, .ref (al 4)), (5, .ref (al 5)), (6, .ref (al 6)), (7, .ref (al 7)), (8, .ref (al 9)), (9, .ref (al 12)), (10, .ref (al 13)), (11, .int xx)]) hx hb dL_areMuseums_200 hl (k := 1) rfl (nI_1 _) (by decide) rfl (fun ls hl => ?_)
                      refine lv_goto (tgt := 160) hx hb dL_areMuseums_203 (by decide) ?_
                      refine W.widen (k := 120) (n := 720) (by show 120 ≤ 120; omega) (by show 720 ≤ 720; omega) ?_
                      exact ih160 (x1 + (200 * (((τ 2 i) - (τ 26 0)) + 1))) (i + 1) (by omega) (by omega) (by rw [itr_step hi, show mHM1 τ i x1 = x1 + (200 * (((τ 2 i) - (τ 26 0)) + 1)) from if_pos (fBel_ge.mpr c_176_25)] at hT; exact hT) _ _ _ hS hPX hP (lv_sub hl [0, 1, 2, 3, 4, 5, 6, 7, 8, 9, 10, 11, 12, 13, 14] rfl)
              exact L160 7 (mHT τ nT) 0 (by omega) (by omega) mHeld_def _ _ _ hS hPX hP (lv_sub hl [0, 1, 2, 3, 4, 5, 6, 7, 8, 9, 10, 11, 12, 13, 14] rfl)
            · have hi := nI_lt' h1 (by omega) c_48_4
              refine lv_iload hx hb dL_areMuseums_51 (lv_at hl 2 rfl) ?_
              refine lv_if_eq (tgt := 157) hx hb dL_areMuseums_53 (by decide) (fun c_53_26 => ?_) (fun c_53_26 => ?_)
              · exact absurd c_53_26 (by decide)
              · refine lv_iload hx hb dL_areMuseums_56 (lv_at hl 1 rfl) ?_
                refine lv_aload_n hx hb dL_areMuseums_58 rfl (lv_at hl 4 rfl) ?_
                refine lv_aload_n hx hb dL_areMuseums_59 rfl (lv_at hl 6 rfl) ?_
                refine lv_aload hx hb dL_areMuseums_60 (lv_at hl 7 rfl) ?_
                refine lv_iload hx hb dL_areMuseums_62 (lv_at hl 0 rfl) ?_
                refine kcallS (n := 4) F (kL_isNow l G (fun q => H.size ≤ q) Al al μ τ nT nW hR i hi) wML_L_28 wST_L_isNow wIN_L wCO_L_isNow (by decide) rfl ⟨by decide, by decide⟩ hS (fun q h => hA q (Nat.le_trans hS.1 h)) (fun q h => h) hP rfl hl.1 (Nat.le_of_ble_eq_true rfl) dL_areMuseums_64 ⟨by show 2 * i + 0 ≤ 1000; omega, by show 12 * i + 0 ≤ 12000; omega⟩ (fun E ce q9 H1 locs1 hx9 _ _ _ _ _ => hx9.elim) (fun v H1 locs1 hv hk hS => ?_)
                have hPX := hPX.old hk
                have hP := hP.old hk
                subst hv
                refine lv_if_eq (tgt := 78) hx hb dL_areMuseums_67 (by decide) (fun c_67_27 => ?_) (fun c_67_27 => ?_)
                · refine lv_iconst (v := 0) hx hb dL_areMuseums_78 (by decide) ?_
                  refine lv_iadd hx hb dL_areMuseums_79 ?_
                  refine lv_istore (lv' := [(13, .int (x1 + 0)), (14, .int (nI i)), (12, .int 1), (0, .ref (ad 0 0)), (1, .ref (al 0)), (2, .ref (al 2)), (3, .ref (al 3)), (4, .ref (al 4)), (5, .ref (al 5)), (6, .ref (al 6)), (7, .ref (al 7)), (8, .ref (al 9)), (9, .ref (al 12)), (10, .ref (al 13)), (11, .int xx)]) hx hb dL_areMuseums_80 hl (by decide) rfl (fun ls hl => ?_)
                  refine lv_aload_n hx hb dL_areMuseums_82 rfl (lv_at hl 3 rfl) ?_
                  refine lv_iload hx hb dL_areMuseums_83 (lv_at hl 1 rfl) ?_
                  refine kcallV (n := 1) F (kP_seen l G (fun q => H1.size ≤ q) A ad σ qs nT nW hl9 (nI i) h80.1) wML_L_91 wIM_X5_seen wSE_X5_X5_seen wIN_X5 wCO_X5_seen (by decide) rfl ⟨by decide, by decide⟩ (frec F (hPX.main rfl) _ rfl) hS (fun q h => hA q (Nat.le_trans hS.1 h)) (fun q h => h) hPX rfl hl.1 (Nat.le_of_ble_eq_true rfl) dL_areMuseums_85 ⟨by show 2 * i + 0 + 1 ≤ 1000; omega, by show 12 * i + 0 + 6 ≤ 12000; omega⟩ (fun E ce q9 H1 locs1 hx9 _ _ _ _ _ => (hx9.2 ⟨i, hi, rfl⟩).elim) (fun v H1 locs1 hv hk hS => ?_)
                  have hPX := hPX.old hk
                  have hP := hP.old hk
                  have hv := seen_ans hR0 hi hv
                  subst hv
                  refine lv_aload hx hb dL_areMuseums_88 (lv_at hl 8 rfl) ?_
                  refine lv_iload hx hb dL_areMuseums_90 (lv_at hl 1 rfl) ?_
                  refine xiald hx hb hE.1.1 (hP.arr 5 (by decide)) 0 rfl (k := i) rfl (show _ < 60 by omega) (by decide) dL_areMuseums_92 ?_
                  refine W.eq (g2 := F0 m 93 ls [.int (τ 13 i), .int (τ 13 i)]) (congrArg (fun z => F0 m 93 ls [.int z, .int (τ 13 i)]) (lr_s hR i)) ?_
                  refine lv_icmp_ne (tgt := 148) hx hb dL_areMuseums_93 (by decide) (fun c_93_28 => ?_) (fun c_93_28 => ?_)
                  · exact absurd rfl c_93_28
                  · refine lv_aload_n hx hb dL_areMuseums_96 rfl (lv_at hl 3 rfl) ?_
                    refine lv_iload hx hb dL_areMuseums_97 (lv_at hl 1 rfl) ?_
                    refine kcallV (n := 1) F (kP_whereIs l G (fun q => H1.size ≤ q) A ad σ qs nT nW hl9 (nI i) h80.1) wML_L_94 wIM_X5_whereIs wSE_X5_X5_whereIs wIN_X5 wCO_X5_whereIs (by decide) rfl ⟨by decide, by decide⟩ (frec F (hPX.main rfl) _ rfl) hS (fun q h => hA q (Nat.le_trans hS.1 h)) (fun q h => h) hPX rfl hl.1 (Nat.le_of_ble_eq_true rfl) dL_areMuseums_99 ⟨by show 2 * i + 0 + 1 + 1 ≤ 1000; omega, by show 12 * i + 0 + 6 + 6 ≤ 12000; omega⟩ (fun E ce q9 H1 locs1 hx9 _ _ _ _ _ => (hx9.2 ⟨i, hi, rfl⟩).elim) (fun v H1 locs1 hv hk hS => ?_)
                    have hPX := hPX.old hk
                    have hP := hP.old hk
                    have hv := where_ans hR0 hi hv
                    subst hv
                    refine lv_aload hx hb dL_areMuseums_102 (lv_at hl 9 rfl) ?_
                    refine lv_iload hx hb dL_areMuseums_104 (lv_at hl 1 rfl) ?_
                    refine xiald hx hb hE.1.1 (hP.arr 6 (by decide)) 0 rfl (k := i) rfl (show _ < 60 by omega) (by decide) dL_areMuseums_106 ?_
                    refine lv_if_ne (tgt := 114) hx hb dL_areMuseums_107 (by decide) (fun c_107_29 => ?_) (fun c_107_29 => ?_)
                    · refine lv_aload hx hb dL_areMuseums_114 (lv_at hl 9 rfl) ?_
                      refine lv_iload hx hb dL_areMuseums_116 (lv_at hl 1 rfl) ?_
                      refine xiald hx hb hE.1.1 (hP.arr 6 (by decide)) 0 rfl (k := i) rfl (show _ < 60 by omega) (by decide) dL_areMuseums_118 ?_
                      refine lv_bipush (v := 100) hx hb dL_areMuseums_119 (by decide) ?_
                      refine lv_icmp_le (tgt := 134) hx hb dL_areMuseums_121 (by decide) (fun c_121_30 => ?_) (fun c_121_30 => ?_)
                      · refine lv_aload hx hb dL_areMuseums_134 (lv_at hl 9 rfl) ?_
                        refine lv_iload hx hb dL_areMuseums_136 (lv_at hl 1 rfl) ?_
                        refine xiald hx hb hE.1.1 (hP.arr 6 (by decide)) 0 rfl (k := i) rfl (show _ < 60 by omega) (by decide) dL_areMuseums_138 ?_
                        refine lv_iconst (v := 1) hx hb dL_areMuseums_139 (by decide) ?_
                        refine lv_isub hx hb dL_areMuseums_140 ?_
                        refine W.eq (g2 := F0 m 141 ls [.int (τ 10 i), .int (τ 10 i)]) (congrArg (fun z => F0 m 141 ls [.int z, .int (τ 10 i)]) (pw_m1 (lr_pl hR hi) c_107_29 c_121_30)) ?_
                        refine lv_icmp_ne (tgt := 148) hx hb dL_areMuseums_141 (by decide) (fun c_141_31 => ?_) (fun c_141_31 => ?_)
                        · exact absurd rfl c_141_31
                        · refine lv_iconst (v := 1) hx hb dL_areMuseums_144 (by decide) ?_
                          refine lv_goto (tgt := 149) hx hb dL_areMuseums_145 (by decide) ?_
                          refine lv_istore (lv' := [(12, .int 1), (13, .int (x1 + 0)), (14, .int (nI i)), (0, .ref (ad 0 0)), (1, .ref (al 0)), (2, .ref (al 2)), (3, .ref (al 3)), (4, .ref (al 4)), (5, .ref (al 5)), (6, .ref (al 6)), (7, .ref (al 7)), (8, .ref (al 9)), (9, .ref (al 12)), (10, .ref (al 13)), (11, .int xx)]) hx hb dL_areMuseums_149 hl (by decide) rfl (fun ls hl => ?_)
                          refine lv_iinc (v := (nI (i + 1))) (lv' := [(14, .int (nI (i + 1))), (12, .int 1), (13, .int (x1 + 0)), (0, .ref (ad 0 0)), (1, .ref (al 0)), (2, .ref (al 2)), (3, .ref (al 3)), (4, .ref (al 4)), (5, .ref (al 5)), (6, .ref (al 6)), (7, .ref (al 7)), (8, .ref (al 9)), (9, .ref (al 12)), (10, .ref (al 13)), (11, .int xx)]) hx hb dL_areMuseums_151 hl (k := 2) rfl (nI_1 _) (by decide) rfl (fun ls hl => ?_)
                          refine lv_goto (tgt := 43) hx hb dL_areMuseums_154 (by decide) ?_
                          refine W.widen (k := 2 * (i + 1)) (n := 12 * (i + 1)) (by show 2 * i + 0 + 1 + 1 ≤ 2 * (i + 1); omega) (by show 12 * i + 0 + 6 + 6 ≤ 12 * (i + 1); omega) ?_
                          exact ih43 (x1 + 0) (i + 1) (by omega) (by omega) (by rw [itr_step hi, show mHT1 τ i x1 = x1 + 0 from if_neg (by rw [b2i_0.mp c_67_27]; decide)] at hT; exact hT) _ _ _ hS hPX hP (lv_sub hl [0, 2, 1, 3, 4, 5, 6, 7, 8, 9, 10, 11, 12, 13, 14] rfl)
                      · refine lv_aload hx hb dL_areMuseums_124 (lv_at hl 9 rfl) ?_
                        refine lv_iload hx hb dL_areMuseums_126 (lv_at hl 1 rfl) ?_
                        refine xiald hx hb hE.1.1 (hP.arr 6 (by decide)) 0 rfl (k := i) rfl (show _ < 60 by omega) (by decide) dL_areMuseums_128 ?_
                        refine lv_iconst (v := 2) hx hb dL_areMuseums_129 (by decide) ?_
                        refine lv_isub hx hb dL_areMuseums_130 ?_
                        refine lv_goto (tgt := 141) hx hb dL_areMuseums_131 (by decide) ?_
                        refine W.eq (g2 := F0 m 141 ls [.int (τ 10 i), .int (τ 10 i)]) (congrArg (fun z => F0 m 141 ls [.int z, .int (τ 10 i)]) (pw_m2 (lr_pl hR hi) c_107_29 c_121_30)) ?_
                        refine lv_icmp_ne (tgt := 148) hx hb dL_areMuseums_141 (by decide) (fun c_141_32 => ?_) (fun c_141_32 => ?_)
                        · exact absurd rfl c_141_32
                        · refine lv_iconst (v := 1) hx hb dL_areMuseums_144 (by decide) ?_
                          refine lv_goto (tgt := 149) hx hb dL_areMuseums_145 (by decide) ?_
                          refine lv_istore (lv' := [(12, .int 1), (13, .int (x1 + 0)), (14, .int (nI i)), (0, .ref (ad 0 0)), (1, .ref (al 0)), (2, .ref (al 2)), (3, .ref (al 3)), (4, .ref (al 4)), (5, .ref (al 5)), (6, .ref (al 6)), (7, .ref (al 7)), (8, .ref (al 9)), (9, .ref (al 12)), (10, .ref (al 13)), (11, .int xx)]) hx hb dL_areMuseums_149 hl (by decide) rfl (fun ls hl => ?_)
                          refine lv_iinc (v := (nI (i + 1))) (lv' := [(14, .int (nI (i + 1))), (12, .int 1), (13, .int (x1 + 0)), (0, .ref (ad 0 0)), (1, .ref (al 0)), (2, .ref (al 2)), (3, .ref (al 3)), (4, .ref (al 4)), (5, .ref (al 5)), (6, .ref (al 6)), (7, .ref (al 7)), (8, .ref (al 9)), (9, .ref (al 12)), (10, .ref (al 13)), (11, .int xx)]) hx hb dL_areMuseums_151 hl (k := 2) rfl (nI_1 _) (by decide) rfl (fun ls hl => ?_)
                          refine lv_goto (tgt := 43) hx hb dL_areMuseums_154 (by decide) ?_
                          refine W.widen (k := 2 * (i + 1)) (n := 12 * (i + 1)) (by show 2 * i + 0 + 1 + 1 ≤ 2 * (i + 1); omega) (by show 12 * i + 0 + 6 + 6 ≤ 12 * (i + 1); omega) ?_
                          exact ih43 (x1 + 0) (i + 1) (by omega) (by omega) (by rw [itr_step hi, show mHT1 τ i x1 = x1 + 0 from if_neg (by rw [b2i_0.mp c_67_27]; decide)] at hT; exact hT) _ _ _ hS hPX hP (lv_sub hl [0, 2, 1, 3, 4, 5, 6, 7, 8, 9, 10, 11, 12, 13, 14] rfl)
                    · refine lv_iconst (v := (-1)) hx hb dL_areMuseums_110 (by decide) ?_
                      refine lv_goto (tgt := 141) hx hb dL_areMuseums_111 (by decide) ?_
                      refine W.eq (g2 := F0 m 141 ls [.int (τ 10 i), .int (τ 10 i)]) (congrArg (fun z => F0 m 141 ls [.int z, .int (τ 10 i)]) (((pw_0 (lr_pl hR hi)).mp c_107_29).symm)) ?_
                      refine lv_icmp_ne (tgt := 148) hx hb dL_areMuseums_141 (by decide) (fun c_141_33 => ?_) (fun c_141_33 => ?_)
                      · exact absurd rfl c_141_33
                      · refine lv_iconst (v := 1) hx hb dL_areMuseums_144 (by decide) ?_
                        refine lv_goto (tgt := 149) hx hb dL_areMuseums_145 (by decide) ?_
                        refine lv_istore (lv' := [(12, .int 1), (13, .int (x1 + 0)), (14, .int (nI i)), (0, .ref (ad 0 0)), (1, .ref (al 0)), (2, .ref (al 2)), (3, .ref (al 3)), (4, .ref (al 4)), (5, .ref (al 5)), (6, .ref (al 6)), (7, .ref (al 7)), (8, .ref (al 9)), (9, .ref (al 12)), (10, .ref (al 13)), (11, .int xx)]) hx hb dL_areMuseums_149 hl (by decide) rfl (fun ls hl => ?_)
                        refine lv_iinc (v := (nI (i + 1))) (lv' := [(14, .int (nI (i + 1))), (12, .int 1), (13, .int (x1 + 0)), (0, .ref (ad 0 0)), (1, .ref (al 0)), (2, .ref (al 2)), (3, .ref (al 3)), (4, .ref (al 4)), (5, .ref (al 5)), (6, .ref (al 6)), (7, .ref (al 7)), (8, .ref (al 9)), (9, .ref (al 12)), (10, .ref (al 13)), (11, .int xx)]) hx hb dL_areMuseums_151 hl (k := 2) rfl (nI_1 _) (by decide) rfl (fun ls hl => ?_)
                        refine lv_goto (tgt := 43) hx hb dL_areMuseums_154 (by decide) ?_
                        refine W.widen (k := 2 * (i + 1)) (n := 12 * (i + 1)) (by show 2 * i + 0 + 1 + 1 ≤ 2 * (i + 1); omega) (by show 12 * i + 0 + 6 + 6 ≤ 12 * (i + 1); omega) ?_
                        exact ih43 (x1 + 0) (i + 1) (by omega) (by omega) (by rw [itr_step hi, show mHT1 τ i x1 = x1 + 0 from if_neg (by rw [b2i_0.mp c_67_27]; decide)] at hT; exact hT) _ _ _ hS hPX hP (lv_sub hl [0, 2, 1, 3, 4, 5, 6, 7, 8, 9, 10, 11, 12, 13, 14] rfl)
                · refine lv_aload hx hb dL_areMuseums_70 (lv_at hl 7 rfl) ?_
                  refine lv_iload hx hb dL_areMuseums_72 (lv_at hl 0 rfl) ?_
                  refine xiald hx hb hE.1.1 (hP.arr 4 (by decide)) 0 rfl (k := i) rfl (show _ < 60 by omega) (by decide) dL_areMuseums_74 ?_
                  refine W.eq (g2 := F0 m 75 ls [.int (τ 8 i), .int x1]) (congrArg (fun z => F0 m 75 ls [.int z, .int x1]) (lr_c hR hi (b2i_1.mp c_67_27))) ?_
                  refine lv_goto (tgt := 79) hx hb dL_areMuseums_75 (by decide) ?_
                  refine lv_iadd hx hb dL_areMuseums_79 ?_
                  refine lv_istore (lv' := [(13, .int (x1 + (τ 8 i))), (14, .int (nI i)), (12, .int 1), (0, .ref (ad 0 0)), (1, .ref (al 0)), (2, .ref (al 2)), (3, .ref (al 3)), (4, .ref (al 4)), (5, .ref (al 5)), (6, .ref (al 6)), (7, .ref (al 7)), (8, .ref (al 9)), (9, .ref (al 12)), (10, .ref (al 13)), (11, .int xx)]) hx hb dL_areMuseums_80 hl (by decide) rfl (fun ls hl => ?_)
                  refine lv_aload_n hx hb dL_areMuseums_82 rfl (lv_at hl 3 rfl) ?_
                  refine lv_iload hx hb dL_areMuseums_83 (lv_at hl 1 rfl) ?_
                  refine kcallV (n := 1) F (kP_seen l G (fun q => H1.size ≤ q) A ad σ qs nT nW hl9 (nI i) h80.1) wML_L_91 wIM_X5_seen wSE_X5_X5_seen wIN_X5 wCO_X5_seen (by decide) rfl ⟨by decide, by decide⟩ (frec F (hPX.main rfl) _ rfl) hS (fun q h => hA q (Nat.le_trans hS.1 h)) (fun q h => h) hPX rfl hl.1 (Nat.le_of_ble_eq_true rfl) dL_areMuseums_85 ⟨by show 2 * i + 0 + 1 ≤ 1000; omega, by show 12 * i + 0 + 6 ≤ 12000; omega⟩ (fun E ce q9 H1 locs1 hx9 _ _ _ _ _ => (hx9.2 ⟨i, hi, rfl⟩).elim) (fun v H1 locs1 hv hk hS => ?_)
                  have hPX := hPX.old hk
                  have hP := hP.old hk
                  have hv := seen_ans hR0 hi hv
                  subst hv
                  refine lv_aload hx hb dL_areMuseums_88 (lv_at hl 8 rfl) ?_
                  refine lv_iload hx hb dL_areMuseums_90 (lv_at hl 1 rfl) ?_
                  refine xiald hx hb hE.1.1 (hP.arr 5 (by decide)) 0 rfl (k := i) rfl (show _ < 60 by omega) (by decide) dL_areMuseums_92 ?_
                  refine W.eq (g2 := F0 m 93 ls [.int (τ 13 i), .int (τ 13 i)]) (congrArg (fun z => F0 m 93 ls [.int z, .int (τ 13 i)]) (lr_s hR i)) ?_
                  refine lv_icmp_ne (tgt := 148) hx hb dL_areMuseums_93 (by decide) (fun c_93_34 => ?_) (fun c_93_34 => ?_)
                  · exact absurd rfl c_93_34
                  · refine lv_aload_n hx hb dL_areMuseums_96 rfl (lv_at hl 3 rfl) ?_
                    refine lv_iload hx hb dL_areMuseums_97 (lv_at hl 1 rfl) ?_
                    refine kcallV (n := 1) F (kP_whereIs l G (fun q => H1.size ≤ q) A ad σ qs nT nW hl9 (nI i) h80.1) wML_L_94 wIM_X5_whereIs wSE_X5_X5_whereIs wIN_X5 wCO_X5_whereIs (by decide) rfl ⟨by decide, by decide⟩ (frec F (hPX.main rfl) _ rfl) hS (fun q h => hA q (Nat.le_trans hS.1 h)) (fun q h => h) hPX rfl hl.1 (Nat.le_of_ble_eq_true rfl) dL_areMuseums_99 ⟨by show 2 * i + 0 + 1 + 1 ≤ 1000; omega, by show 12 * i + 0 + 6 + 6 ≤ 12000; omega⟩ (fun E ce q9 H1 locs1 hx9 _ _ _ _ _ => (hx9.2 ⟨i, hi, rfl⟩).elim) (fun v H1 locs1 hv hk hS => ?_)
                    have hPX := hPX.old hk
                    have hP := hP.old hk
                    have hv := where_ans hR0 hi hv
                    subst hv
                    refine lv_aload hx hb dL_areMuseums_102 (lv_at hl 9 rfl) ?_
                    refine lv_iload hx hb dL_areMuseums_104 (lv_at hl 1 rfl) ?_
                    refine xiald hx hb hE.1.1 (hP.arr 6 (by decide)) 0 rfl (k := i) rfl (show _ < 60 by omega) (by decide) dL_areMuseums_106 ?_
                    refine lv_if_ne (tgt := 114) hx hb dL_areMuseums_107 (by decide) (fun c_107_35 => ?_) (fun c_107_35 => ?_)
                    · refine lv_aload hx hb dL_areMuseums_114 (lv_at hl 9 rfl) ?_
                      refine lv_iload hx hb dL_areMuseums_116 (lv_at hl 1 rfl) ?_
                      refine xiald hx hb hE.1.1 (hP.arr 6 (by decide)) 0 rfl (k := i) rfl (show _ < 60 by omega) (by decide) dL_areMuseums_118 ?_
                      refine lv_bipush (v := 100) hx hb dL_areMuseums_119 (by decide) ?_
                      refine lv_icmp_le (tgt := 134) hx hb dL_areMuseums_121 (by decide) (fun c_121_36 => ?_) (fun c_121_36 => ?_)
                      · refine lv_aload hx hb dL_areMuseums_134 (lv_at hl 9 rfl) ?_
                        refine lv_iload hx hb dL_areMuseums_136 (lv_at hl 1 rfl) ?_
                        refine xiald hx hb hE.1.1 (hP.arr 6 (by decide)) 0 rfl (k := i) rfl (show _ < 60 by omega) (by decide) dL_areMuseums_138 ?_
                        refine lv_iconst (v := 1) hx hb dL_areMuseums_139 (by decide) ?_
                        refine lv_isub hx hb dL_areMuseums_140 ?_
                        refine W.eq (g2 := F0 m 141 ls [.int (τ 10 i), .int (τ 10 i)]) (congrArg (fun z => F0 m 141 ls [.int z, .int (τ 10 i)]) (pw_m1 (lr_pl hR hi) c_107_35 c_121_36)) ?_
                        refine lv_icmp_ne (tgt := 148) hx hb dL_areMuseums_141 (by decide) (fun c_141_37 => ?_) (fun c_141_37 => ?_)
                        · exact absurd rfl c_141_37
                        · refine lv_iconst (v := 1) hx hb dL_areMuseums_144 (by decide) ?_
                          refine lv_goto (tgt := 149) hx hb dL_areMuseums_145 (by decide) ?_
                          refine lv_istore (lv' := [(12, .int 1), (13, .int (x1 + (τ 8 i))), (14, .int (nI i)), (0, .ref (ad 0 0)), (1, .ref (al 0)), (2, .ref (al 2)), (3, .ref (al 3)), (4, .ref (al 4)), (5, .ref (al 5)), (6, .ref (al 6)), (7, .ref (al 7)), (8, .ref (al 9)), (9, .ref (al 12)), (10, .ref (al 13)), (11, .int xx)]) hx hb dL_areMuseums_149 hl (by decide) rfl (fun ls hl => ?_)
                          refine lv_iinc (v := (nI (i + 1))) (lv' := [(14, .int (nI (i + 1))), (12, .int 1), (13, .int (x1 + (τ 8 i))), (0, .ref (ad 0 0)), (1, .ref (al 0)), (2, .ref (al 2)), (3, .ref (al 3)), (4, .ref (al 4)), (5, .ref (al 5)), (6, .ref (al 6)), (7, .ref (al 7)), (8, .ref (al 9)), (9, .ref (al 12)), (10, .ref (al 13)), (11, .int xx)]) hx hb dL_areMuseums_151 hl (k := 2) rfl (nI_1 _) (by decide) rfl (fun ls hl => ?_)
                          refine lv_goto (tgt := 43) hx hb dL_areMuseums_154 (by decide) ?_
                          refine W.widen (k := 2 * (i + 1)) (n := 12 * (i + 1)) (by show 2 * i + 0 + 1 + 1 ≤ 2 * (i + 1); omega) (by show 12 * i + 0 + 6 + 6 ≤ 12 * (i + 1); omega) ?_
                          exact ih43 (x1 + (τ 8 i)) (i + 1) (by omega) (by omega) (by rw [itr_step hi, show mHT1 τ i x1 = x1 + (τ 8 i) from if_pos (b2i_1.mp c_67_27)] at hT; exact hT) _ _ _ hS hPX hP (lv_sub hl [0, 2, 1, 3, 4, 5, 6, 7, 8, 9, 10, 11, 12, 13, 14] rfl)
                      · refine lv_aload hx hb dL_areMuseums_124 (lv_at hl 9 rfl) ?_
                        refine lv_iload hx hb dL_areMuseums_126 (lv_at hl 1 rfl) ?_
                        refine xiald hx hb hE.1.1 (hP.arr 6 (by decide)) 0 rfl (k := i) rfl (show _ < 60 by omega) (by decide) dL_areMuseums_128 ?_
                        refine lv_iconst (v := 2) hx hb dL_areMuseums_129 (by decide) ?_
                        refine lv_isub hx hb dL_areMuseums_130 ?_
                        refine lv_goto (tgt := 141) hx hb dL_areMuseums_131 (by decide) ?_
                        refine W.eq (g2 := F0 m 141 ls [.int (τ 10 i), .int (τ 10 i)]) (congrArg (fun z => F0 m 141 ls [.int z, .int (τ 10 i)]) (pw_m2 (lr_pl hR hi) c_107_35 c_121_36)) ?_
                        refine lv_icmp_ne (tgt := 148) hx hb dL_areMuseums_141 (by decide) (fun c_141_38 => ?_) (fun c_141_38 => ?_)
                        · exact absurd rfl c_141_38
                        · refine lv_iconst (v := 1) hx hb dL_areMuseums_144 (by decide) ?_
                          refine lv_goto (tgt := 149) hx hb dL_areMuseums_145 (by decide) ?_
                          refine lv_istore (lv' := [(12, .int 1), (13, .int (x1 + (τ 8 i))), (14, .int (nI i)), (0, .ref (ad 0 0)), (1, .ref (al 0)), (2, .ref (al 2)), (3, .ref (al 3)), (4, .ref (al 4)), (5, .ref (al 5)), (6, .ref (al 6)), (7, .ref (al 7)), (8, .ref (al 9)), (9, .ref (al 12)), (10, .ref (al 13)), (11, .int xx)]) hx hb dL_areMuseums_149 hl (by decide) rfl (fun ls hl => ?_)
                          refine lv_iinc (v := (nI (i + 1))) (lv' := [(14, .int (nI (i + 1))), (12, .int 1), (13, .int (x1 + (τ 8 i))), (0, .ref (ad 0 0)), (1, .ref (al 0)), (2, .ref (al 2)), (3, .ref (al 3)), (4, .ref (al 4)), (5, .ref (al 5)), (6, .ref (al 6)), (7, .ref (al 7)), (8, .ref (al 9)), (9, .ref (al 12)), (10, .ref (al 13)), (11, .int xx)]) hx hb dL_areMuseums_151 hl (k := 2) rfl (nI_1 _) (by decide) rfl (fun ls hl => ?_)
                          refine lv_goto (tgt := 43) hx hb dL_areMuseums_154 (by decide) ?_
                          refine W.widen (k := 2 * (i + 1)) (n := 12 * (i + 1)) (by show 2 * i + 0 + 1 + 1 ≤ 2 * (i + 1); omega) (by show 12 * i + 0 + 6 + 6 ≤ 12 * (i + 1); omega) ?_
                          exact ih43 (x1 + (τ 8 i)) (i + 1) (by omega) (by omega) (by rw [itr_step hi, show mHT1 τ i x1 = x1 + (τ 8 i) from if_pos (b2i_1.mp c_67_27)] at hT; exact hT) _ _ _ hS hPX hP (lv_sub hl [0, 2, 1, 3, 4, 5, 6, 7, 8, 9, 10, 11, 12, 13, 14] rfl)
                    · refine lv_iconst (v := (-1)) hx hb dL_areMuseums_110 (by decide) ?_
                      refine lv_goto (tgt := 141) hx hb dL_areMuseums_111 (by decide) ?_
                      refine W.eq (g2 := F0 m 141 ls [.int (τ 10 i), .int (τ 10 i)]) (congrArg (fun z => F0 m 141 ls [.int z, .int (τ 10 i)]) (((pw_0 (lr_pl hR hi)).mp c_107_35).symm)) ?_
                      refine lv_icmp_ne (tgt := 148) hx hb dL_areMuseums_141 (by decide) (fun c_141_39 => ?_) (fun c_141_39 => ?_)
                      · exact absurd rfl c_141_39
                      · refine lv_iconst (v := 1) hx hb dL_areMuseums_144 (by decide) ?_
                        refine lv_goto (tgt := 149) hx hb dL_areMuseums_145 (by decide) ?_
                        refine lv_istore (lv' := [(12, .int 1), (13, .int (x1 + (τ 8 i))), (14, .int (nI i)), (0, .ref (ad 0 0)), (1, .ref (al 0)), (2, .ref (al 2)), (3, .ref (al 3)), (4, .ref (al 4)), (5, .ref (al 5)), (6, .ref (al 6)), (7, .ref (al 7)), (8, .ref (al 9)), (9, .ref (al 12)), (10, .ref (al 13)), (11, .int xx)]) hx hb dL_areMuseums_149 hl (by decide) rfl (fun ls hl => ?_)
                        refine lv_iinc (v := (nI (i + 1))) (lv' := [(14, .int (nI (i + 1))), (12, .int 1), (13, .int (x1 + (τ 8 i))), (0, .ref (ad 0 0)), (1, .ref (al 0)), (2, .ref (al 2)), (3, .ref (al 3)), (4, .ref (al 4)), (5, .ref (al 5)), (6, .ref (al 6)), (7, .ref (al 7)), (8, .ref (al 9)), (9, .ref (al 12)), (10, .ref (al 13)), (11, .int xx)]) hx hb dL_areMuseums_151 hl (k := 2) rfl (nI_1 _) (by decide) rfl (fun ls hl => ?_)
                        refine lv_goto (tgt := 43) hx hb dL_areMuseums_154 (by decide) ?_
                        refine W.widen (k := 2 * (i + 1)) (n := 12 * (i + 1)) (by show 2 * i + 0 + 1 + 1 ≤ 2 * (i + 1); omega) (by show 12 * i + 0 + 6 + 6 ≤ 12 * (i + 1); omega) ?_
                        exact ih43 (x1 + (τ 8 i)) (i + 1) (by omega) (by omega) (by rw [itr_step hi, show mHT1 τ i x1 = x1 + (τ 8 i) from if_pos (b2i_1.mp c_67_27)] at hT; exact hT) _ _ _ hS hPX hP (lv_sub hl [0, 2, 1, 3, 4, 5, 6, 7, 8, 9, 10, 11, 12, 13, 14] rfl)
        exact L43 (nT + 1) 0 0 (by omega) (by omega) mHT_def _ _ _ hS hPX hP (lv_sub hl [0, 1, 2, 3, 4, 5, 6, 7, 8, 9, 10, 11, 12, 13, 14] rfl)

