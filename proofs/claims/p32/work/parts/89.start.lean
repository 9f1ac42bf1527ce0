/-! WHAT HOLDS AT THE LAW'S START -/
theorem eq_ev {args : Array Value} {s : State} {t : Term} {z : Int32} (h : (Cond.eq t (.int z)).before args s = true) : t.eval args s none [] s = some (.int z) := by
  cases hv : t.eval args s none [] s with
  | none => simp [Cond.before, Cond.holds, Cond.value, hv] at h
  | some w =>
    have hz : (Term.int z).eval args s none [] s = some (.int z) := rfl
    simp only [Cond.before, Cond.holds, Cond.value, hv, hz] at h
    cases w <;> simp_all
theorem arr_I {args : Array Value} {s : State} (h : (Cond.arrayClass .int).before args s = true) : ∃ cA : ClassId, ArrOfT s cA .int ∧ va_RA s cA .int := by
  obtain ⟨cA, kA, comp, h1, h2, h3⟩ := Cond.arrayClass_spec h
  exact ⟨cA, fun n z => ⟨(fun k h => by cases h), kA, h2, comp, h3⟩, h1⟩
theorem arr_Z {args : Array Value} {s : State} (h : (Cond.arrayClass .boolean).before args s = true) : ∃ cA : ClassId, ArrOfT s cA .boolean ∧ va_RA s cA .boolean := by
  obtain ⟨cA, kA, comp, h1, h2, h3⟩ := Cond.arrayClass_spec h
  exact ⟨cA, fun n z => ⟨(fun k h => by cases h), kA, h2, comp, h3⟩, h1⟩
theorem arr_J {args : Array Value} {s : State} (h : (Cond.arrayClass .long).before args s = true) : ∃ cA : ClassId, ArrOfT s cA .long ∧ va_RA s cA .long := by
  obtain ⟨cA, kA, comp, h1, h2, h3⟩ := Cond.arrayClass_spec h
  exact ⟨cA, fun n z => ⟨(fun k h => by cases h), kA, h2, comp, h3⟩, h1⟩
theorem arr_B {args : Array Value} {s : State} (h : (Cond.arrayClass .byte).before args s = true) : ∃ cA : ClassId, ArrOfT s cA .byte ∧ va_RA s cA .byte := by
  obtain ⟨cA, kA, comp, h1, h2, h3⟩ := Cond.arrayClass_spec h
  exact ⟨cA, fun n z => ⟨(fun k h => by cases h), kA, h2, comp, h3⟩, h1⟩
theorem arr_O {s : State} {C : String} (h : va_AO C s) : ∃ cA : ClassId, ArrOfT s cA (.object C) ∧ va_RA s cA (.object C) := by
  obtain ⟨comp, cA, kA, f1, f2, f3, f4, f5⟩ := Cond.arrayOver_spec h
  exact ⟨cA, fun n z => ⟨(fun k h => by cases h), kA, f3, comp, f4⟩, kA, comp, f3, f4, f1, f5⟩
theorem st_tab {args : Array Value} {s : State} {C n d : String} {ty : FieldType} {N : Nat} {f : Nat → Value} {A : Nat → Prop} (hl : (Cond.laysStatic C n d).before args s = true) (hini : (Cond.initialized C).before args s = true) (hN : N < 2 ^ 31) (harr : (Cond.arrayOf (.static C n d) ty).before args s = true) (hlen : (Cond.eq (.length (.static C n d)) (.int (Int32.ofNat N))).before args s = true) (hel : ∀ j : Nat, j < N → (Term.elem (.static C n d) (.int (Int32.ofNat j))).eval args s none [] s = some (f j)) (hA : ∀ a : Nat, a < s.heap.size → ¬ A a) : ∃ t : Nat, va_Z C n d (.ref t) A s s.heap ∧ va_T ty t N f A s s.heap := by
  obtain ⟨t, h1, h2⟩ := va_Tof (f := f) hN harr (eq_ev hlen) hel hA
  exact ⟨t, va_Zref hl hini h1 hA, h2⟩
abbrev lw_pre : Cond := Jvm.Cond.and given_1 narrow_1
theorem dg_w1 : ∀ j, j < 100 → (flatC lw_pre)[18 + j]? = some (Cond.eq (.elem (.static "java/lang/Integer" "DigitOnes" "[B") (.int (Int32.ofNat j))) (.int (nI (48 + j % 10)))) := by decide +kernel
theorem dg_w2 : ∀ j, j < 100 → (flatC lw_pre)[121 + j]? = some (Cond.eq (.elem (.static "java/lang/Integer" "DigitTens" "[B") (.int (Int32.ofNat j))) (.int (nI (48 + j / 10)))) := by decide +kernel
theorem tx_w : ∀ q ∈ xTx, Cond.stringRef q.1 q.2.1 q.2.2 ∈ lw_tbl ∧ Cond.exactly (.string q.1 q.2.1) "java/lang/String" ∈ flatC lw_pre := by
  intro q hq
  simp only [xTx, List.mem_cons, List.not_mem_nil, or_false] at hq
  rcases hq with rfl | rfl | rfl | rfl | rfl | rfl | rfl | rfl | rfl | rfl | rfl | rfl | rfl | rfl | rfl | rfl | rfl | rfl | rfl | rfl | rfl
  · exact ⟨List.mem_of_getElem? (i := 242) (by decide +kernel), List.mem_of_getElem? (i := 291) (by decide +kernel)⟩
  · exact ⟨List.mem_of_getElem? (i := 281) (by decide +kernel), List.mem_of_getElem? (i := 308) (by decide +kernel)⟩
  · exact ⟨List.mem_of_getElem? (i := 493) (by decide +kernel), List.mem_of_getElem? (i := 412) (by decide +kernel)⟩
  · exact ⟨List.mem_of_getElem? (i := 393) (by decide +kernel), List.mem_of_getElem? (i := 362) (by decide +kernel)⟩
  · exact ⟨List.mem_of_getElem? (i := 601) (by decide +kernel), List.mem_of_getElem? (i := 437) (by decide +kernel)⟩
  · exact ⟨List.mem_of_getElem? (i := 606) (by decide +kernel), List.mem_of_getElem? (i := 461) (by decide +kernel)⟩
  · exact ⟨List.mem_of_getElem? (i := 607) (by decide +kernel), List.mem_of_getElem? (i := 506) (by decide +kernel)⟩
  · exact ⟨List.mem_of_getElem? (i := 616) (by decide +kernel), List.mem_of_getElem? (i := 539) (by decide +kernel)⟩
  · exact ⟨List.mem_of_getElem? (i := 621) (by decide +kernel), List.mem_of_getElem? (i := 567) (by decide +kernel)⟩
  · exact ⟨List.mem_of_getElem? (i := 630) (by decide +kernel), List.mem_of_getElem? (i := 603) (by decide +kernel)⟩
  · exact ⟨List.mem_of_getElem? (i := 635) (by decide +kernel), List.mem_of_getElem? (i := 639) (by decide +kernel)⟩
  · exact ⟨List.mem_of_getElem? (i := 296) (by decide +kernel), List.mem_of_getElem? (i := 325) (by decide +kernel)⟩
  · exact ⟨List.mem_of_getElem? (i := 640) (by decide +kernel), List.mem_of_getElem? (i := 682) (by decide +kernel)⟩
  · exact ⟨List.mem_of_getElem? (i := 902) (by decide +kernel), List.mem_of_getElem? (i := 791) (by decide +kernel)⟩
  · exact ⟨List.mem_of_getElem? (i := 927) (by decide +kernel), List.mem_of_getElem? (i := 976) (by decide +kernel)⟩
  · exact ⟨List.mem_of_getElem? (i := 372) (by decide +kernel), List.mem_of_getElem? (i := 343) (by decide +kernel)⟩
  · exact ⟨List.mem_of_getElem? (i := 912) (by decide +kernel), List.mem_of_getElem? (i := 839) (by decide +kernel)⟩
  · exact ⟨List.mem_of_getElem? (i := 917) (by decide +kernel), List.mem_of_getElem? (i := 875) (by decide +kernel)⟩
  · exact ⟨List.mem_of_getElem? (i := 922) (by decide +kernel), List.mem_of_getElem? (i := 921) (by decide +kernel)⟩
  · exact ⟨List.mem_of_getElem? (i := 415) (by decide +kernel), List.mem_of_getElem? (i := 384) (by decide +kernel)⟩
  · exact ⟨List.mem_of_getElem? (i := 1000) (by decide +kernel), List.mem_of_getElem? (i := 1015) (by decide +kernel)⟩
theorem nw_w1 : ∀ q ∈ nwCast, Cond.castable q.1 q.2 ∈ lw_tbl := by decide +kernel
theorem nw_w2 : ∀ x ∈ nwDecl, Cond.declares x ∈ lw_tbl := by decide +kernel
theorem nw_w3 : ∀ C ∈ nwArr, Cond.arrayOver (.object C) ∈ lw_tbl := by decide +kernel
theorem nw_w4 : ∀ q ∈ nwNot, Cond.not (.castable q.1 q.2) ∈ flatC lw_pre := by decide +kernel
theorem start_K {s : State} {args : Array Value} (hts : ∀ w ∈ lw_tbl, w.before args s = true) : ∃ (D : va_G) (cy : Nat → ClassId), va_K D mcl (kTy cy) s := by
  have hg : ∀ w ∈ gTb, w.before args s = true := fun w hw => hts w (List.mem_filter.mp hw).1
  have h : ∀ k : Nat, ∃ (c : ClassId) (i : Nat → Nat), ∀ q : vw_C, mcl[k]? = some q → u_Kn s q.1 q.2.1 q.2.2 c i := by
    intro k
    match k with
    | 0 =>
      obtain ⟨c, i, h⟩ := u_known (C := RJ4) (T := TJ4) (N := 4) (n := 4) hg inG_J4 (hg _ wIS_J4)
      exact ⟨c, i, fun q hq => by cases hq; exact h⟩
    | 1 =>
      obtain ⟨c, i, h⟩ := u_known (C := RJx4a65c) (T := TJx4a65c) (N := 3) (n := 3) hg inG_Jx4a65c (hg _ wIS_Jx4a65c)
      exact ⟨c, i, fun q hq => by cases hq; exact h⟩
    | 2 =>
      obtain ⟨c, i, h⟩ := u_known (C := RX0) (T := TX0) (N := 2) (n := 2) hg inG_X0 (hg _ wIS_X0)
      exact ⟨c, i, fun q hq => by cases hq; exact h⟩
    | 3 =>
      obtain ⟨c, i, h⟩ := u_known (C := RX1) (T := TX1) (N := 6) (n := 6) hg inG_X1 (hg _ wIS_X1)
      exact ⟨c, i, fun q hq => by cases hq; exact h⟩
    | 4 =>
      obtain ⟨c, i, h⟩ := u_known (C := RX2) (T := TX2) (N := 9) (n := 9) hg inG_X2 (hg _ wIS_X2)
      exact ⟨c, i, fun q hq => by cases hq; exact h⟩
    | 5 =>
      obtain ⟨c, i, h⟩ := u_known (C := RX3) (T := TX3) (N := 5) (n := 5) hg inG_X3 (hg _ wIS_X3)
      exact ⟨c, i, fun q hq => by cases hq; exact h⟩
    | 6 =>
      obtain ⟨c, i, h⟩ := u_known (C := RX4) (T := TX4) (N := 8) (n := 8) hg inG_X4 (hg _ wIS_X4)
      exact ⟨c, i, fun q hq => by cases hq; exact h⟩
    | 7 =>
      obtain ⟨c, i, h⟩ := u_known (C := RX5) (T := TX5) (N := 8) (n := 8) hg inG_X5 (hg _ wIS_X5)
      exact ⟨c, i, fun q hq => by cases hq; exact h⟩
    | k + 8 => exact ⟨(0 : Nat), fun _ => 0, fun q hq => by simp at hq⟩
  obtain ⟨c0, a0, b0⟩ := arr_I (hg _ wAC_int)
  obtain ⟨c2, a2, b2⟩ := arr_O (va_AO.of (hts _ (nw_w3 RX0 (by decide))))
  obtain ⟨c3, a3, b3⟩ := arr_O (va_AO.of (hts _ (nw_w3 RX1 (by decide))))
  obtain ⟨c4, a4, b4⟩ := arr_O (va_AO.of (hts _ (nw_w3 RX3 (by decide))))
  obtain ⟨c5, a5, b5⟩ := arr_O (va_AO.of (hts _ (nw_w3 "java/lang/Object" (by decide))))
  obtain ⟨c7, a7, b7⟩ := arr_B (hg _ wAC_byte)
  refine ⟨(fun k => Classical.choose (h k), fun k => Classical.choose (Classical.choose_spec (h k))), fun k => match k with | 0 => c0 | 2 => c2 | 3 => c3 | 4 => c4 | 5 => c5 | _ => c7, fun k q hq => Classical.choose_spec (Classical.choose_spec (h k)) q hq, fun k q hk => ?_⟩
  match k, hk with
  | 0, hk => cases hk; exact ⟨a0, b0⟩
  | 1, hk => cases hk; exact ⟨a0, b0⟩
  | 2, hk => cases hk; exact ⟨a2, b2⟩
  | 3, hk => cases hk; exact ⟨a3, b3⟩
  | 4, hk => cases hk; exact ⟨a4, b4⟩
  | 5, hk => cases hk; exact ⟨a5, b5⟩
  | 6, hk => cases hk; exact ⟨a0, b0⟩
  | 7, hk => cases hk; exact ⟨a7, b7⟩
  | k + 8, hk => simp at hk
theorem start_S {s : State} {args : Array Value} (hts : ∀ w ∈ lw_tbl, w.before args s = true) (hgv : lw_pre.before args s = true) : ∃ t0 t1 t2 : Nat, (vx_Zq Bundle.tN "UNASSIGNED_STACK" Bundle.steD (fun q => s.heap.size ≤ q) s s.heap ∧ vx_Zq Bundle.tN "SUPPRESSED_SENTINEL" Bundle.listD (fun q => s.heap.size ≤ q) s s.heap) ∧
  (va_Z "java/util/ArrayList" "DEFAULTCAPACITY_EMPTY_ELEMENTDATA" "[Ljava/lang/Object;" (.ref t0) (fun q => s.heap.size ≤ q) s s.heap ∧ va_T (.object "java/lang/Object") t0 0 (fun _ => .null) (fun q => s.heap.size ≤ q) s s.heap) ∧
  (va_Z "java/lang/String" "COMPACT_STRINGS" "Z" (.int 1) (fun q => s.heap.size ≤ q) s s.heap ∧ va_Zq "jdk/internal/util/Preconditions" "SIOOBE_FORMATTER" "Ljava/util/function/BiFunction;" (fun q => s.heap.size ≤ q) s s.heap) ∧
  (va_Z "java/lang/Integer" "DigitOnes" "[B" (.ref t1) (fun q => s.heap.size ≤ q) s s.heap ∧ va_T .byte t1 100 dgO (fun q => s.heap.size ≤ q) s s.heap) ∧
  (va_Z "java/lang/Integer" "DigitTens" "[B" (.ref t2) (fun q => s.heap.size ≤ q) s s.heap ∧ va_T .byte t2 100 dgT (fun q => s.heap.size ≤ q) s s.heap) := by
  have hs := flat_of_before _ hgv
  have hA : ∀ a : Nat, a < s.heap.size → ¬ (fun q : Nat => s.heap.size ≤ q) a := fun a h => Nat.not_le.mpr h
  obtain ⟨t0, z0, y0⟩ := st_tab (C := "java/util/ArrayList") (n := "DEFAULTCAPACITY_EMPTY_ELEMENTDATA") (d := "[Ljava/lang/Object;") (ty := .object "java/lang/Object") (N := 0) (f := fun _ => .null) (hts _ (List.mem_of_getElem? (i := 83) (by decide +kernel))) (hts _ (List.mem_of_getElem? (i := 31) (by decide +kernel))) (by decide) (hs _ (List.mem_of_getElem? (i := 5) (by decide +kernel))) (hs _ (List.mem_of_getElem? (i := 7) (by decide +kernel))) (fun j hj => absurd hj (Nat.not_lt_zero j)) hA
  obtain ⟨t1, z1, y1⟩ := st_tab (C := "java/lang/Integer") (n := "DigitOnes") (d := "[B") (ty := .byte) (N := 100) (f := dgO) (hts _ (List.mem_of_getElem? (i := 816) (by decide +kernel))) (hts _ (List.mem_of_getElem? (i := 42) (by decide +kernel))) (by decide) (hs _ (List.mem_of_getElem? (i := 16) (by decide +kernel))) (hs _ (List.mem_of_getElem? (i := 17) (by decide +kernel))) (fun j hj => eq_ev (hs _ (List.mem_of_getElem? (dg_w1 j hj)))) hA
  obtain ⟨t2, z2, y2⟩ := st_tab (C := "java/lang/Integer") (n := "DigitTens") (d := "[B") (ty := .byte) (N := 100) (f := dgT) (hts _ (List.mem_of_getElem? (i := 818) (by decide +kernel))) (hts _ (List.mem_of_getElem? (i := 42) (by decide +kernel))) (by decide) (hs _ (List.mem_of_getElem? (i := 119) (by decide +kernel))) (hs _ (List.mem_of_getElem? (i := 120) (by decide +kernel))) (fun j hj => eq_ev (hs _ (List.mem_of_getElem? (dg_w2 j hj)))) hA
  exact ⟨t0, t1, t2, ⟨vx_Zqof (hts _ (List.mem_of_getElem? (i := 228) (by decide +kernel))) (hts _ (List.mem_of_getElem? (i := 35) (by decide +kernel))) (hs _ (List.mem_of_getElem? (i := 8) (by decide +kernel))) hA, vx_Zqof (hts _ (List.mem_of_getElem? (i := 230) (by decide +kernel))) (hts _ (List.mem_of_getElem? (i := 35) (by decide +kernel))) (hs _ (List.mem_of_getElem? (i := 9) (by decide +kernel))) hA⟩, ⟨z0, y0⟩, ⟨va_Zof (hts _ (List.mem_of_getElem? (i := 675) (by decide +kernel))) (hts _ (List.mem_of_getElem? (i := 45) (by decide +kernel))) (eq_ev (hs _ (List.mem_of_getElem? (i := 10) (by decide +kernel)))) hA, va_Zqof (hts _ (List.mem_of_getElem? (i := 746) (by decide +kernel))) (hts _ (List.mem_of_getElem? (i := 40) (by decide +kernel))) (hs _ (List.mem_of_getElem? (i := 11) (by decide +kernel))) hA⟩, ⟨z1, y1⟩, z2, y2⟩
theorem start_E {s : State} {args : Array Value} (hts : ∀ w ∈ lw_tbl, w.before args s = true) (hgv : lw_pre.before args s = true) : ∃ G : GE, EN (fun q => s.heap.size ≤ q) G s s.heap ∧ NCX s := by
  have hs := flat_of_before _ hgv
  have hg : ∀ w ∈ gTb, w.before args s = true := fun w hw => hts w (List.mem_filter.mp hw).1
  obtain ⟨D, cy, hK⟩ := start_K hts
  obtain ⟨t0, t1, t2, hZ⟩ := start_S hts hgv
  obtain ⟨mi, hMi⟩ := va_Mi.of (C := "[Ljava/lang/Object;") (hs _ (List.mem_of_getElem? (i := 290) (by decide +kernel)))
  refine ⟨(D, cy, t0, t1, t2, mi), ⟨⟨hK, ?_⟩, hZ⟩, fun q hq => va_Nc.of (hs _ (nw_w4 q hq))⟩
  refine ⟨fun q hq => va_Nw.of rfl (hts _ (nw_w1 q hq)), fun x hx => va_Nw.of rfl (hts _ (nw_w2 x hx)), fun C hC => va_AO.of (hts _ (nw_w3 C hC)), ⟨va_Nw.of rfl (hts _ (List.mem_of_getElem? (i := 155) (by decide +kernel))), ?_⟩, fun q hq => ?_, hMi⟩
  · refine va_tabs (A := args) (by first | rfl | simp [Cond.onTables]) rfl (kselP (x := yJ5_isLatin1_aae02) (by decide) (by decide) rfl (hg _ wSE_J4_J5_isLatin1_aae02) (hg _ wIM_J5_isLatin1_aae02) (hts _ (List.mem_of_getElem? (i := 709) (by decide +kernel))) (hg _ wIM_J5_ensureCapacityInternal_d00df))
  · obtain ⟨w1, w2⟩ := tx_w q hq
    obtain ⟨a, c9, cell, k9, ha, -⟩ := Cond.exactly_spec (hs _ w2)
    exact ⟨a, vk_R.of (hts _ w1) ha⟩
