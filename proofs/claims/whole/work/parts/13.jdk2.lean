theorem nl_eq {n : Nat} (hn : n ≤ 1000) : nI n + (if nI 1 < nI n >>> ((1 : Int32) &&& 31) then nI n >>> ((1 : Int32) &&& 31) else nI 1) = nI (n + (if 1 < n / 2 then n / 2 else 1)) := by
  have e : nI n >>> ((1 : Int32) &&& 31) = nI (n / 2) := by
    have k := pk_shrN (n := n) (by omega) ((1 : Int32) &&& 31) 1 (by decide)
    rw [Nat.pow_one] at k
    exact k
  rw [e]
  by_cases c : 1 < n / 2
  · rw [if_pos (nI_lt c (by omega)), if_pos c]
    exact nI_add n (n / 2)
  · rw [if_neg (nI_nlt (by omega) (by decide)), if_neg c]
    exact nI_add n 1
def gcap (n : Nat) : Nat := n + (if 1 < n / 2 then n / 2 else 1)
theorem gcap_gt (n : Nat) : n < gcap n := by unfold gcap; split <;> omega
theorem gcap_le (n : Nat) : gcap n ≤ n + n / 2 + 1 := by unfold gcap; split <;> omega
set_option maxHeartbeats 4000000 in
set_option maxRecDepth 100000 in
theorem cJ_newLength (l : Launch) (G : GE) (A1 : Nat → Prop) (n : Nat) (hn : n ≤ 1000) : KM l G A1 yJ8_newLength_cabcc cJ8_newLength_cabcc 4 (some .int) (rmL 2 0 0) [.int (nI n), .int (nI 1), .int (nI n >>> ((1 : Int32) &&& 31))] (fun _ => True) (fun v _ => v = some (.int (nI (gcap n)))) (fun _ _ => False) := by
  refine KM.of (by decide) (Nat.le_of_ble_eq_true rfl) ?_
  intro p e s m args below meth c F hP ls hl
  have hx := F.1.1
  have hb := F.1.2.1
  have hown := F.1.2.2.2.1
  have hts := F.1.2.2.2.2
  have hr := F.2.1
  have hlocks := F.2.2.1
  have hE := F.2.2.2.2.2.1
  have hA := F.2.2.2.2.2.2
  have hS : va_S A1 s.heap s.heap [] := va_S.rf
  have hl : lv_has ls 4 [(0, .int (nI n)), (1, .int (nI 1)), (2, .int (nI n >>> ((1 : Int32) &&& 31)))] := hl
  have hb2 : 0 < gcap n := Nat.lt_of_le_of_lt (Nat.zero_le _) (gcap_gt n)
  have hb3 := gcap_le n
  refine lv_iload_n hx hb dJ8_newLength_cabcc_0 rfl (lv_at hl 0 rfl) ?_
  refine lv_iload_n hx hb dJ8_newLength_cabcc_1 rfl (lv_at hl 1 rfl) ?_
  refine lv_iload_n hx hb dJ8_newLength_cabcc_2 rfl (lv_at hl 2 rfl) ?_
  refine va_mmax hx hb (F.1.2.2.1.trans hl.1.symm) hown (hts _ wMM_J8_194) (hts _ wST_Math_max) (hts _ wINs_J9) (hts _ wCO_Math_max) (by decide) (Nat.le_of_ble_eq_true rfl) (by decide) (by decide) dJ8_newLength_cabcc_3 ?_
  refine lv_iadd hx hb dJ8_newLength_cabcc_6 ?_
  refine W.eq (g2 := F0 m 7 ls [.int (nI (gcap n))]) (congrArg (fun z => F0 m 7 ls [.int z]) (nl_eq hn)) ?_
  refine lv_istore_n (lv' := [(3, .int (nI (gcap n))), (0, .int (nI n)), (1, .int (nI 1)), (2, .int (nI n >>> ((1 : Int32) &&& 31)))]) hx hb dJ8_newLength_cabcc_7 rfl hl (by decide) rfl (fun ls hl => ?_)
  refine lv_iconst (v := 0) hx hb dJ8_newLength_cabcc_8 (by decide) ?_
  refine lv_iload_n hx hb dJ8_newLength_cabcc_9 rfl (lv_at hl 0 rfl) ?_
  refine lv_icmp_ge (tgt := 21) hx hb dJ8_newLength_cabcc_10 (by decide) (fun c_10_1 => ?_) (fun c_10_1 => ?_)
  · exact absurd c_10_1 (nI_ge (a := 0) (b := gcap n) hb2 (by omega))
  · refine lv_iload_n hx hb dJ8_newLength_cabcc_13 rfl (lv_at hl 0 rfl) ?_
    refine lv_ldc (v := 2147483639) hx hb hown (hts _ wCN_J8_200) dJ8_newLength_cabcc_14 ?_
    refine lv_icmp_gt (tgt := 21) hx hb dJ8_newLength_cabcc_16 (by decide) (fun c_16_2 => ?_) (fun c_16_2 => ?_)
    · exact absurd c_16_2 (nI_nlt (b := gcap n) (a := 2147483639) (by omega) (by decide))
    · refine lv_iload_n hx hb dJ8_newLength_cabcc_19 rfl (lv_at hl 0 rfl) ?_
      exact kiret hx hb hr hlocks hS (by decide) (by decide) dJ8_newLength_cabcc_20 (rfl)

set_option maxHeartbeats 4000000 in
set_option maxRecDepth 100000 in
theorem cJ_copyOf3 (l : Launch) (G : GE) (A1 : Nat → Prop) (aA n n' sz : Nat) (f : Nat → Option Nat) (hnn : n ≤ n') (hn2 : n' ≤ 200) (hAA : A1 aA) : KM l G A1 yJ7_copyOf_6403c cJ7_copyOf_6403c 4 (some (.array (.object "java/lang/Object"))) (rmL 2 1 200) [.ref aA, .int (nI n'), .ref G.2.2.2.2.2] (fun H => H.size = sz ∧ va_at G.1 mcl (aA, rArr (G.2.1 5) n f) H ∧ ∀ i y, i < n → f i = some y → EL G A1 y H) (fun v H => ∃ q, v = some (.ref q) ∧ sz ≤ q ∧ va_at G.1 mcl (q, rArr (G.2.1 5) n' (va_cpy f (fun _ => none) 0 0 n)) H) (fun _ _ => False) := by
  refine KM.of (by decide) (Nat.le_of_ble_eq_true rfl) ?_
  intro p e s m args below meth c F hP ls hl
  have hx := F.1.1
  have hb := F.1.2.1
  have hown := F.1.2.2.2.1
  have hts := F.1.2.2.2.2
  have hr := F.2.1
  have hlocks := F.2.2.1
  have hE := F.2.2.2.2.2.1
  have hA := F.2.2.2.2.2.2
  have hS : va_S A1 s.heap s.heap [] := va_S.rf
  have hl : lv_has ls 4 [(0, .ref aA), (1, .int (nI n')), (2, .ref G.2.2.2.2.2)] := hl
  obtain ⟨hsz, hV, hel⟩ := hP
  have hlt := hV.lt
  refine lv_aload_n hx hb dJ7_copyOf_6403c_0 rfl (lv_at hl 2 rfl) ?_
  refine va_ldcM hx hb hown (hts _ wCL_J7_110) hE.1.2.2.2.2.2.2 dJ7_copyOf_6403c_1 ?_
  refine lv_acmp_ne (rx := some G.2.2.2.2.2) (ry := some G.2.2.2.2.2) (tgt := 13) hx hb dJ7_copyOf_6403c_3 (by decide) (fun c_3_1 => ?_) (fun c_3_1 => ?_)
  · exact absurd rfl c_3_1
  · refine lv_iload_n hx hb dJ7_copyOf_6403c_6 rfl (lv_at hl 1 rfl) ?_
    refine xanew hx hb hown (hts _ wCL_J7_2) (hE.1.2.2.2.1 "java/lang/Object" (by simp [nwArr])) hE.1.1 5 rfl hS (n := nI n') (N := n') rfl (by omega) (by decide) (by show 0 + _ ≤ 200; omega) dJ7_copyOf_6403c_7 (fun H1 hN z1 o1 hS => ?_)
    have hV := hV.kept (o1 _ hV.lt)
    refine W.widen (k := 1) (n := 200) (by decide) (by show 0 + n' ≤ 200; omega) ?_
    have hq : aA ≠ s.heap.size := Nat.ne_of_lt hlt
    refine lv_goto (tgt := 24) hx hb dJ7_copyOf_6403c_10 (by decide) ?_
    refine lv_astore_n (lv' := [(3, .ref s.heap.size), (0, .ref aA), (1, .int (nI n')), (2, .ref G.2.2.2.2.2)]) hx hb dJ7_copyOf_6403c_24 rfl hl (by decide) rfl (fun ls hl => ?_)
    refine lv_aload_n hx hb dJ7_copyOf_6403c_25 rfl (lv_at hl 1 rfl) ?_
    refine lv_iconst (v := 0) hx hb dJ7_copyOf_6403c_26 (by decide) ?_
    refine lv_aload_n hx hb dJ7_copyOf_6403c_27 rfl (lv_at hl 0 rfl) ?_
    refine lv_iconst (v := 0) hx hb dJ7_copyOf_6403c_28 (by decide) ?_
    refine lv_aload_n hx hb dJ7_copyOf_6403c_29 rfl (lv_at hl 1 rfl) ?_
    refine xalen hx hb hE.1.1 hV 5 rfl dJ7_copyOf_6403c_30 ?_
    refine lv_iload_n hx hb dJ7_copyOf_6403c_31 rfl (lv_at hl 2 rfl) ?_
    refine va_mmin hx hb (F.1.2.2.1.trans hl.1.symm) hown (hts _ wMM_J7_304) (hts _ wST_Math_min) (hts _ wINs_J9) (hts _ wCO_Math_min) (by decide) (Nat.le_of_ble_eq_true rfl) (by decide) (by decide) dJ7_copyOf_6403c_32 ?_
    refine W.eq (g2 := F0 m 35 ls [.int (nI n), .int 0, .ref s.heap.size, .int 0, .ref aA]) (congrArg (fun z => F0 m 35 ls [.int z, .int 0, .ref s.heap.size, .int 0, .ref aA]) (if_neg (nI_nlt hnn (by omega)))) ?_
    refine va_copyM (E0 := "java/lang/Object") (E1 := "java/lang/Object") (ws := [(aA, rArr (G.2.1 5) n f), (s.heap.size, rArr (G.2.1 5) n' (fun _ => none))]) (c0 := G.2.1 5) (c1 := G.2.1 5) (n0 := n) (n1 := n') (f := f) (g := fun _ => none) hx hb (F.1.2.2.1.trans hl.1.symm) hown (hts _ wMA_J7_150) (hts _ wNA_arraycopy) (hts _ wST_arraycopy) (hts _ wINs_J10) hE.1.1 (vat2 hV hN) (vD2 hq hAA (hA _ (Nat.le_refl _))) hS 0 1 5 5 rfl rfl rfl rfl (by decide) (by decide) (nI_pos (by omega)) (by rw [nI_clamp (by omega)]; show 0 + n ≤ n; omega) (by rw [nI_clamp (by omega)]; show 0 + n ≤ n'; omega) (fun i hi y hy => (EL.now (hel i y (by rw [nI_clamp (by omega)] at hi; omega) (by rw [← hy]; congr 1; show i = 0 + i; omega)) hS).any hE) (by decide) (Nat.le_of_ble_eq_true rfl) dJ7_copyOf_6403c_35 (fun H2 locs1 hP2 hD2 hS => ?_)
    obtain ⟨hV, hN⟩ := P2 hP2
    rw [nI_clamp (by omega), show (0 : Int32).toNatClampNeg = 0 from rfl] at hN
    refine lv_aload_n hx hb dJ7_copyOf_6403c_38 rfl (lv_at hl 0 rfl) ?_
    exact karetA hx hb hr hlocks hS (by decide) (by decide) dJ7_copyOf_6403c_39 (⟨s.heap.size, rfl, by omega, hN⟩)

set_option maxHeartbeats 4000000 in
set_option maxRecDepth 100000 in
theorem cJ_copyOf2 (l : Launch) (G : GE) (A1 : Nat → Prop) (aA n n' sz : Nat) (f : Nat → Option Nat) (hnn : n ≤ n') (hn2 : n' ≤ 200) (hAA : A1 aA) : KM l G A1 yJ7_copyOf_1904c cJ7_copyOf_1904c 2 (some (.array (.object "java/lang/Object"))) (rmL 3 1 200) [.ref aA, .int (nI n')] (fun H => H.size = sz ∧ va_at G.1 mcl (aA, rArr (G.2.1 5) n f) H ∧ ∀ i y, i < n → f i = some y → EL G A1 y H) (fun v H => ∃ q, v = some (.ref q) ∧ sz ≤ q ∧ va_at G.1 mcl (q, rArr (G.2.1 5) n' (va_cpy f (fun _ => none) 0 0 n)) H) (fun _ _ => False) := by
  refine KM.of (by decide) (Nat.le_of_ble_eq_true rfl) ?_
  intro p e s m args below meth c F hP ls hl
  have hx := F.1.1
  have hb := F.1.2.1
  have hown := F.1.2.2.2.1
  have hts := F.1.2.2.2.2
  have hr := F.2.1
  have hlocks := F.2.2.1
  have hE := F.2.2.2.2.2.1
  have hA := F.2.2.2.2.2.2
  have hS : va_S A1 s.heap s.heap [] := va_S.rf
  have hl : lv_has ls 2 [(0, .ref aA), (1, .int (nI n'))] := hl
  obtain ⟨hsz, hV, hel⟩ := hP
  refine lv_aload_n hx hb dJ7_copyOf_1904c_0 rfl (lv_at hl 0 rfl) ?_
  refine lv_iload_n hx hb dJ7_copyOf_1904c_1 rfl (lv_at hl 1 rfl) ?_
  refine lv_aload_n hx hb dJ7_copyOf_1904c_2 rfl (lv_at hl 0 rfl) ?_
  refine va_getC (C := "[Ljava/lang/Object;") hx hb (F.1.2.2.1.trans hl.1.symm) hown (hts _ wML_J7_86) (va_Nw.use rfl (hE.1.2.2.1 _ (by simp [nwDecl]))) (hts _ w_selects_1462) (hts _ w_instanceMethod_459) (hts _ wNA_474) hE.1.2.2.2.2.2.2 (arec hE hV) (by decide) (Nat.le_of_ble_eq_true rfl) dJ7_copyOf_1904c_3 ?_
  refine kcallS (n := 3) F (cJ_copyOf3 l G A1 aA n n' sz f hnn hn2 hAA) wML_J7_300 wST_J7_copyOf_6403c wIN_J7 wCO_J7_copyOf_6403c (by decide) rfl ⟨by decide, by decide⟩ hS (fun _ h => h) (fun q h => hA q (Nat.le_trans hS.1 h)) ⟨hsz, hV, hel⟩ rfl hl.1 (Nat.le_of_ble_eq_true rfl) dJ7_copyOf_1904c_6 ⟨by decide, by decide⟩ (fun E ce q9 H1 locs1 hx9 _ _ _ _ _ => hx9.elim) (fun v H1 locs1 hv hk hS => ?_)
  obtain ⟨q, rfl, hq, hN⟩ := hv
  exact karetA hx hb hr hlocks hS (by decide) (by decide) dJ7_copyOf_1904c_9 (⟨q, rfl, hq, hN⟩)

