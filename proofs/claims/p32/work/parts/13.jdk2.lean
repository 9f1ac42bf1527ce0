theorem nl_eq {n : Nat} (hn : n ≤ 1000) : nI n + (if nI 1 < nI n >>> ((1 : Int32) &&& 31) then nI n >>> ((1 : Int32) &&& 31) else nI 1) = nI (n + (if 1 < n / 2 then n / 2 else 1)) := by
  have e : nI n >>> ((1 : Int32) &&& 31) = nI (n / 2) := by
    have k := pk_shrN (n := n) (by omega) ((1 : Int32) &&& 31) 1 (by decide)
    rw [Nat.pow_one] at k
    exact k
  rw [e]
  by_cases c : 1 < n / 2
  · rw [if_pos (nI_lt c (by omega)), if_pos c]
    exact nI_add n (n / 2)
  · rw [if_neg (nI_nlt (by omega) (by decide)), if_neg c]
    exact nI_add n 1
def gcap (n : Nat) : Nat := n + (if 1 < n / 2 then n / 2 else 1)
theorem gcap_gt (n : Nat) : n < gcap n := by unfold gcap; split <;> omega
theorem gcap_le (n : Nat) : gcap n ≤ n + n / 2 + 1 := by unfold gcap; split <;> omega
set_option maxHeartbeats 4000000 in
set_option maxRecDepth 100000 in
theorem cJ_newLength (l : Launch) (G : GE) (A1 : Nat → Prop) (n : Nat) (hn : n ≤ 1000) : KM l G A1 yJ8_newLength_cabcc cJ8_newLength_cabcc 4 (some .int) (rmL 2 0 0) [.int (nI n), .int (nI 1), .int (nI n >>> ((1 : Int32) &&& 31))] (fun _ => True) (fun v _ => v = some (.int (nI (gcap n)))) (fun _ _ => False) := by
  refine KM.of (by decide) (Nat.le_of_ble_eq_true rfl) ?_
  intro p e s m args below meth c F hP ls hl
  have hx := F.1.1
  have hb := F.1.2.1
  have hown := F.1.2.2.2.1
  have hts := F.1.2.2.2.2
  have hr := F.2.1
  have hlocks := F.2.2.1
  have hE := F.2.2.2.2.2.1
  have hA := F.2.2.2.2.2.2
  have hS : va_S A1 s.heap s.heap [] := va_S.rf
  have hl : lv_has ls 4 [(0, .int (nI n)), (1, .int (nI 1)), (2, .int (nI n >>> ((1 : Int32) &&& 31)))] := hl
  have hb2 : 0 < gcap n := Nat.lt_of_le_of_lt (Nat.zero_le _) (gcap_gt n)
  have hb3 := gcap_le n
  refine lv_iload_n hx hb dJ8_newLength_cabcc_0 rfl (lv_at hl 0 rfl) ?_
  refine lv_iload_n hx hb dJ8_newLength_cabcc_1 rfl (lv_at hl 1 rfl) ?_
  refine lv_iload_n hx hb dJ8_newLength_cabcc_2 rfl (lv_at hl 2 rfl) ?_
  refine va_mmax hx hb (F.1.2.2.1.trans hl.1.symm) hown (hts _ wMM_J8_194) (hts _ wST_Math_max) (hts _ wINs_J9) (hts _ wCO_Math_max) (by decide) (Nat.le_of_ble_eq_true rfl) (by decide) (by decide) dJ8_newLength_cabcc_3 ?_
  refine lv_iadd hx hb dJ8_newLength_cabcc_6 ?_
  refine W.eq (g2 := F0 m 7 ls [.int (nI (gcap n))]) (congrArg (fun z => F0 m 7 ls [.int z]) (nl_eq hn)) ?_
  refine lv_istore_n (lv' := [(3, .int (nI (gcap n))), (0, .int (nI n)), (1, .int (nI 1)), (2, .int (nI n >>> ((1 : Int32) &&& 31)))]) hx hb dJ8_newLength_cabcc_7 rfl hl (by decide) rfl (fun ls hl => ?_)
  refine lv_iconst (v := 0) hx hb dJ8_newLength_cabcc_8 (by decide) ?_
  refine lv_iload_n hx hb dJ8_newLength_cabcc_9 rfl (lv_at hl 0 rfl) ?_
  refine lv_icmp_ge (tgt := 21) hx hb dJ8_newLength_cabcc_10 (by decide) (fun c_10_1 => ?_) (fun c_10_1 => ?_)
  · exact absurd c_10_1 (nI_ge (a := 0) (b := gcap n) hb2 (by omega))
  · refine lv_iload_n hx hb dJ8_newLength_cabcc_13 rfl (lv_at hl 0 rfl) ?_
    refine lv_ldc (v := 2147483639) hx hb hown (hts _ wCN_J8_200) dJ8_newLength_cabcc_14 ?_
    refine lv_icmp_gt (tgt := 21) hx hb dJ8_newLength_cabcc_16 (by decide) (fun c_16_2 => ?_) (fun c_16_2 => ?_)
    · exact absurd c_16_2 (nI_nlt (b := gcap n) (a := 2147483639) (by omega) (by decide))
    · refine lv_iload_n hx hb dJ8_newLength_cabcc_19 rfl (lv_at hl 0 rfl) ?_
      exact kiret hx hb hr hlocks hS (by decide) (by decide) dJ8_newLength_cabcc_20 (rfl)

set_option maxHeartbeats 4000000 in
set_option maxRecDepth 100000 in
theorem cJ_copyOf3 (l : Launch) (G : GE) (A1 : Nat → Prop) (aA n n' sz : Nat) (f : Nat → Option Nat) (hnn : n ≤ n') (hn2 : n' ≤ 200) (hAA : A1 aA) : KM l G A1 yJ7_copyOf_6403c cJ7_copyOf_6403c 4 (some (.array (.object "java/lang/Object"))) (rmL 2 1 200) [.ref aA, .int (nI n'), .ref G.2.2.2.2.2] (fun H => H.size = sz ∧ va_at G.1 mcl (aA, rArr (G.2.1 5) n f) H ∧ ∀ i y, i < n → f i = some y → EL G A1 y H) (fun v H => ∃ q, v = some (.ref q) ∧ sz ≤ q ∧ va_at G.1 mcl (q, rArr (G.2.1 5) n' (va_cpy f (fun _ => none) 0 0 n)) H) (fun _ _ => False) := by
  refine KM.of (by decide) (Nat.le_of_ble_eq_true rfl) ?_
  intro p e s m args below meth c F hP ls hl
  have hx := F.1.1
  have hb := F.1.2.1
  have hown := F.1.2.2.2.1
  have hts := F.1.2.2.2.2
  have hr := F.2.1
  have hlocks := F.2.2.1
  have hE := F.2.2.2.2.2.1
  have hA := F.2.2.2.2.2.2
  have hS : va_S A1 s.heap s.heap [] := va_S.rf
  have hl : lv_has ls 4 [(0, .ref aA), (1, .int (nI n')), (2, .ref G.2.2.2.2.2)] := hl
  obtain ⟨hsz, hV, hel⟩ := hP
  have hlt := hV.lt
  refine lv_aload_n hx hb dJ7_copyOf_6403c_0 rfl (lv_at hl 2 rfl) ?_
  refine va_ldcM hx hb hown (hts _ wCL_J7_110) hE.1.2.2.2.2.2.2 dJ7_copyOf_6403c_1 ?_
  refine lv_acmp_ne (rx := some G.2.2.2.2.2) (ry := some G.2.2.2.2.2) (tgt := 13) hx hb dJ7_copyOf_6403c_3 (by decide) (fun c_3_1 => ?_) (fun c_3_1 => ?_)
  · exact absurd rfl c_3_1
  · refine lv_iload_n hx hb dJ7_copyOf_6403c_6 rfl (lv_at hl 1 rfl) ?_
    refine xanew hx hb hown (hts _ wCL_J7_2) (hE.1.2.2.2.1 "java/lang/Object" (by simp [nwArr])) hE.1.1 5 rfl hS (n := nI n') (N := n') rfl (by omega) (by decide) (by show 0 + _ ≤ 200; omega) dJ7_copyOf_6403c_7 (fun H1 hN z1 o1 hS => ?_)
    have hV := hV.kept (o1 _ hV.lt)
    refine W.widen (k := 1) (n := 200) (by decide) (by show 0 + n' ≤ 200; omega) ?_
    have hq : aA ≠ s.heap.size := Nat.ne_of_lt hlt
    refine lv_goto (tgt := 24) hx hb dJ7_copyOf_6403c_10 (by decide) ?_
    refine lv_astore_n (lv' := [(3, .ref s.heap.size), (0, .ref aA), (1, .int (nI n')), (2, .ref G.2.2.2.2.2)]) hx hb dJ7_copyOf_6403c_24 rfl hl (by decide) rfl (fun ls hl => ?_)
    refine lv_aload_n hx hb dJ7_copyOf_6403c_25 rfl (lv_at hl 1 rfl) ?_
    refine lv_iconst (v := 0) hx hb dJ7_copyOf_6403c_26 (by decide) ?_
    refine lv_aload_n hx hb dJ7_copyOf_6403c_27 rfl (lv_at hl 0 rfl) ?_
    refine lv_iconst (v := 0) hx hb dJ7_copyOf_6403c_28 (by decide) ?_
    refine lv_aload_n hx hb dJ7_copyOf_6403c_29 rfl (lv_at hl 1 rfl) ?_
    refine xalen hx hb hE.1.1 hV 5 rfl dJ7_copyOf_6403c_30 ?_
    refine lv_iload_n hx hb dJ7_copyOf_6403c_31 rfl (lv_at hl 2 rfl) ?_
    refine va_mmin hx hb (F.1.2.2.1.trans hl.1.symm) hown (hts _ wMM_J7_304) (hts _ wST_Math_min) (hts _ wINs_J9) (hts _ wCO_Math_min) (by decide) (Nat.le_of_ble_eq_true rfl) (by decide) (by decide) dJ7_copyOf_6403c_32 ?_
    refine W.eq (g2 := F0 m 35 ls [.int (nI n), .int 0, .ref s.heap.size, .int 0, .ref aA]) (congrArg (fun z => F0 m 35 ls [.int z, .int 0, .ref s.heap.size, .int 0, .ref aA]) (if_neg (nI_nlt hnn (by omega)))) ?_
    refine va_copyM (E0 := "java/lang/Object") (E1 := "java/lang/Object") (ws := [(aA, rArr (G.2.1 5) n f), (s.heap.size, rArr (G.2.1 5) n' (fun _ => none))]) (c0 := G.2.1 5) (c1 := G.2.1 5) (n0 := n) (n1 := n') (f := f) (g := fun _ => none) hx hb (F.1.2.2.1.trans hl.1.symm) hown (hts _ wMA_J7_150) (hts _ wNA_arraycopy) (hts _ wST_arraycopy) (hts _ wINs_J10) hE.1.1 (vat2 hV hN) (vD2 hq hAA (hA _ (Nat.le_refl _))) hS 0 1 5 5 rfl rfl rfl rfl (by decide) (by decide) (nI_pos (by omega)) (by rw [nI_clamp (by omega)]; show 0 + n ≤ n; omega) (by rw [nI_clamp (by omega)]; show 0 + n ≤ n'; omega) (fun i hi y hy => (EL.now (hel i y (by rw [nI_clamp (by omega)] at hi; omega) (by rw [← hy]; congr 1; show i = 0 + i; omega)) hS).any hE) (by decide) (Nat.le_of_ble_eq_true rfl) dJ7_copyOf_6403c_35 (fun H2 locs1 hP2 hD2 hS => ?_)
    obtain ⟨hV, hN⟩ := P2 hP2
    rw [nI_clamp (by omega), show (0 : Int32).toNatClampNeg = 0 from rfl] at hN
    refine lv_aload_n hx hb dJ7_copyOf_6403c_38 rfl (lv_at hl 0 rfl) ?_
    exact karetA hx hb hr hlocks hS (by decide) (by decide) dJ7_copyOf_6403c_39 (⟨s.heap.size, rfl, by omega, hN⟩)

set_option maxHeartbeats 4000000 in
set_option maxRecDepth 100000 in
theorem cJ_copyOf2 (l : Launch) (G : GE) (A1 : Nat → Prop) (aA n n' sz : Nat) (f : Nat → Option Nat) (hnn : n ≤ n') (hn2 : n' ≤ 200) (hAA : A1 aA) : KM l G A1 yJ7_copyOf_1904c cJ7_copyOf_1904c 2 (some (.array (.object "java/lang/Object"))) (rmL 3 1 200) [.ref aA, .int (nI n')] (fun H => H.size = sz ∧ va_at G.1 mcl (aA, rArr (G.2.1 5) n f) H ∧ ∀ i y, i < n → f i = some y → EL G A1 y H) (fun v H => ∃ q, v = some (.ref q) ∧ sz ≤ q ∧ va_at G.1 mcl (q, rArr (G.2.1 5) n' (va_cpy f (fun _ => none) 0 0 n)) H) (fun _ _ => False) := by
  refine KM.of (by decide) (Nat.le_of_ble_eq_true rfl) ?_
  intro p e s m args below meth c F hP ls hl
  have hx := F.1.1
  have hb := F.1.2.1
  have hown := F.1.2.2.2.1
  have hts := F.1.2.2.2.2
  have hr := F.2.1
  have hlocks := F.2.2.1
  have hE := F.2.2.2.2.2.1
  have hA := F.2.2.2.2.2.2
  have hS : va_S A1 s.heap s.heap [] := va_S.rf
  have hl : lv_has ls 2 [(0, .ref aA), (1, .int (nI n'))] := hl
  obtain ⟨hsz, hV, hel⟩ := hP
  refine lv_aload_n hx hb dJ7_copyOf_1904c_0 rfl (lv_at hl 0 rfl) ?_
  refine lv_iload_n hx hb dJ7_copyOf_1904c_1 rfl (lv_at hl 1 rfl) ?_
  refine lv_aload_n hx hb dJ7_copyOf_1904c_2 rfl (lv_at hl 0 rfl) ?_
  refine va_getC (C := "[Ljava/lang/Object;") hx hb (F.1.2.2.1.trans hl.1.symm) hown (hts _ wML_J7_86) (va_Nw.use rfl (hE.1.2.2.1 _ (by simp [nwDecl]))) (hts _ w_selects_1105) (hts _ w_instanceMethod_570) (hts _ wNA_584) hE.1.2.2.2.2.2.2 (arec hE hV) (by decide) (Nat.le_of_ble_eq_true rfl) dJ7_copyOf_1904c_3 ?_
  refine kcallS (n := 3) F (cJ_copyOf3 l G A1 aA n n' sz f hnn hn2 hAA) wML_J7_300 wST_J7_copyOf_6403c wIN_J7 wCO_J7_copyOf_6403c (by decide) rfl ⟨by decide, by decide⟩ hS (fun _ h => h) (fun q h => hA q (Nat.le_trans hS.1 h)) ⟨hsz, hV, hel⟩ rfl hl.1 (Nat.le_of_ble_eq_true rfl) dJ7_copyOf_1904c_6 ⟨by decide, by decide⟩ (fun E ce q9 H1 locs1 hx9 _ _ _ _ _ => hx9.elim) (fun v H1 locs1 hv hk hS => ?_)
  obtain ⟨q, rfl, hq, hN⟩ := hv
  exact karetA hx hb hr hlocks hS (by decide) (by decide) dJ7_copyOf_1904c_9 (⟨q, rfl, hq, hN⟩)

theorem lf_cpy (t : List Nat) : va_cpy (fun j => t[j]?) (fun _ => none) 0 0 t.length = fun j => t[j]? := by
  funext j
  simp only [va_cpy]
  by_cases h : j < t.length
  · rw [if_pos ⟨Nat.zero_le _, by omega⟩]
    congr 1
    omega
  · rw [if_neg (by omega), List.getElem?_eq_none (by omega)]
theorem lf_push (t : List Nat) (y : Nat) : va_up (fun j => t[j]?) t.length (some y) = fun j => (t ++ [y])[j]? := by
  funext j
  simp only [va_up]
  by_cases h : j = t.length
  · subst h
    simp
  · rw [if_neg h]
    by_cases h2 : j < t.length
    · rw [List.getElem?_append_left h2]
    · rw [List.getElem?_eq_none (by omega), List.getElem?_eq_none (by rw [List.length_append, List.length_singleton]; omega)]
theorem EL.swap {A B : Nat → Prop} {G : GE} {y : Nat} {H : Heap} (h : EL G A y H) (hB : ∀ q, B q → q < H.size → A q) : EL G B y H := by
  obtain ⟨⟨ci, fs, hc, he⟩, h2⟩ := h
  exact ⟨⟨ci, fs, hc, he⟩, fun k => h2 (hB _ k he.lt)⟩
section LLR
variable {p : Program} {l : Launch} {e : Env} {R : Room} {s : State} {m : MethodId} {args : Array Value} {below : List Frame} {meth : Method} {c : Code} {H : Heap} {locs : List Loc} {cells slots : Nat} {Q : State → Prop}
variable {cc : ByteArray} {pc nL : Nat} {ls : Array Slot} {rest : List Value} {A : Nat → Prop} {G : GE} {ret : Option FieldType} {y : MethodName}
theorem xlenLL (F : FX l p m meth c cc nL ret s args y A G) (hS : va_S A s.heap H locs) {aL aA n : Nat} {mc : Int32} {t : List Nat} (h : LL G aL aA n mc t H) (hdg : decode cc pc = .ok (.arraylength, 1))
    (kk : W p l e R s m args below meth c H locs cells slots Q (F0 m (pc + 1) ls (.int (nI n) :: rest))) : W p l e R s m args below meth c H locs cells slots Q (F0 m pc ls (.ref aA :: rest)) := by
  obtain ⟨hO, h1, h2, ⟨rfl, rfl⟩ | ⟨h3, h4, hV⟩⟩ := h
  · exact xalenT F.1.1 F.1.2.1 ((F.2.2.2.2.2.1.at hS).2.2.1.2) hdg kk
  · exact xalen F.1.1 F.1.2.1 F.2.2.2.2.2.1.1.1 hV 5 rfl hdg kk
end LLR
set_option maxHeartbeats 4000000 in
set_option maxRecDepth 100000 in
theorem cL_grow0 (l : Launch) (G : GE) (A1 : Nat → Prop) (aL aA sz : Nat) (mc : Int32) (t : List Nat) (ht : t.length ≤ 100) (hAL : A1 aL) (hAA : t.length ≠ 0 → A1 aA) (h0 : t.length = 0) : KM l G A1 yJx4a65c_grow_92f84 cJx4a65c_grow_92f84 4 (some (.array (.object "java/lang/Object"))) (rmL 4 1 200) [.ref aL, .int (nI (t.length + 1))] (fun H => H.size = sz ∧ LL G aL aA t.length mc t H ∧ ∀ y ∈ t, EL G A1 y H) (fun v H => ∃ q n', v = some (.ref q) ∧ sz ≤ q ∧ t.length < n' ∧ n' ≤ 200 ∧ va_at G.1 mcl (aL, .inr (1, [.int mc, .ref q, .int (nI t.length)])) H ∧ va_at G.1 mcl (q, rArr (G.2.1 5) n' (fun j => t[j]?)) H) (fun _ _ => False) := by
  refine KM.of (by decide) (Nat.le_of_ble_eq_true rfl) ?_
  intro p e s m args below meth c F hP ls hl
  have hx := F.1.1
  have hb := F.1.2.1
  have hown := F.1.2.2.2.1
  have hts := F.1.2.2.2.2
  have hr := F.2.1
  have hlocks := F.2.2.1
  have hE := F.2.2.2.2.2.1
  have hA := F.2.2.2.2.2.2
  have hS : va_S A1 s.heap s.heap [] := va_S.rf
  have hl : lv_has ls 4 [(0, .ref aL), (1, .int (nI (t.length + 1)))] := hl
  obtain ⟨hsz, hLL, hel⟩ := hP
  have hO := hLL.1
  obtain rfl : aA = G.2.2.1 := by
    rcases hLL.2.2.2 with h | h
    · exact h.2
    · exact absurd h0 h.1
  refine lv_aload_n hx hb dJx4a65c_grow_92f84_0 rfl (lv_at hl 0 rfl) ?_
  refine gJx4a65c F hO 1 (by decide) wFL_Jx4a65c_9 (fun _ h9 => h9) (v := .ref G.2.2.1) rfl dJx4a65c_grow_92f84_1 ?_
  refine xlenLL F hS hLL dJx4a65c_grow_92f84_4 ?_
  refine lv_istore_n (lv' := [(2, .int (nI t.length)), (0, .ref aL), (1, .int (nI (t.length + 1)))]) hx hb dJx4a65c_grow_92f84_5 rfl hl (by decide) rfl (fun ls hl => ?_)
  refine lv_iload_n hx hb dJx4a65c_grow_92f84_6 rfl (lv_at hl 0 rfl) ?_
  refine lv_if_gt (tgt := 20) hx hb dJx4a65c_grow_92f84_7 (by decide) (fun c_7_1 => ?_) (fun c_7_1 => ?_)
  · exact absurd c_7_1 (by rw [h0]; decide)
  · refine lv_aload_n hx hb dJx4a65c_grow_92f84_10 rfl (lv_at hl 1 rfl) ?_
    refine gJx4a65c F hO 1 (by decide) wFL_Jx4a65c_9 (fun _ h9 => h9) (v := .ref G.2.2.1) rfl dJx4a65c_grow_92f84_11 ?_
    refine va_gets hx hb hE.2.2.1.1 hS hown (hts _ wFL_Jx4a65c_39) (fun _ h9 => h9) dJx4a65c_grow_92f84_14 ?_
    refine lv_acmp_eq (rx := some G.2.2.1) (ry := some G.2.2.1) (tgt := 45) hx hb dJx4a65c_grow_92f84_17 (by decide) (fun c_17_2 => ?_) (fun c_17_2 => ?_)
    · refine lv_aload_n hx hb dJx4a65c_grow_92f84_45 rfl (lv_at hl 1 rfl) ?_
      refine lv_bipush (v := 10) hx hb dJx4a65c_grow_92f84_46 (by decide) ?_
      refine lv_iload_n hx hb dJx4a65c_grow_92f84_48 rfl (lv_at hl 2 rfl) ?_
      refine va_mmax hx hb (F.1.2.2.1.trans hl.1.symm) hown (hts _ wMM_Jx4a65c_79) (hts _ wST_Math_max) (hts _ wINs_J9) (hts _ wCO_Math_max) (by decide) (Nat.le_of_ble_eq_true rfl) (by decide) (by decide) dJx4a65c_grow_92f84_49 ?_
      refine W.eq (g2 := F0 m 52 ls [.int (nI 10), .ref aL]) (congrArg (fun z => F0 m 52 ls [.int z, .ref aL]) (by rw [h0]; decide)) ?_
      refine xanew hx hb hown (hts _ wCL_Jx4a65c_7) (hE.1.2.2.2.1 "java/lang/Object" (by simp [nwArr])) hE.1.1 5 rfl hS (n := nI 10) (N := 10) rfl (by decide) (by decide) (by show 0 + _ ≤ 200; omega) dJx4a65c_grow_92f84_52 (fun H1 hN z1 o1 hS => ?_)
      have hO := hO.kept (o1 _ hO.lt)
      refine lv_dup_x1 hx hb dJx4a65c_grow_92f84_55 rfl rfl ?_
      have hneq : s.heap.size ≠ aL := fun e => absurd hLL.1.lt (by rw [← e]; omega)
      refine pJx4a65c F hS hO hAL 1 (by decide) wFL_Jx4a65c_9 (fun _ h9 => h9) rfl rfl rfl (by simp) dJx4a65c_grow_92f84_56 (fun H3 locs1 hO z1 oq1 hS => ?_)
      have hO : va_at G.1 mcl (aL, .inr (1, [.int mc, .ref s.heap.size, .int (nI t.length)])) H3 := hO
      have hN := hN.kept (oq1 _ hneq)
      have hN2 : va_at G.1 mcl (s.heap.size, rArr (G.2.1 5) 10 (fun j => t[j]?)) H3 := by
        rw [show (fun j => t[j]?) = (fun _ => none : Nat → Option Nat) from by funext j; rw [List.getElem?_eq_none (by omega)]]
        exact hN
      exact karetA hx hb hr hlocks hS (by decide) (by decide) dJx4a65c_grow_92f84_59 (⟨s.heap.size, 10, rfl, by omega, by omega, by decide, hO, hN2⟩)
    · exact absurd rfl c_17_2

set_option maxHeartbeats 4000000 in
set_option maxRecDepth 100000 in
theorem cL_growN (l : Launch) (G : GE) (A1 : Nat → Prop) (aL aA sz : Nat) (mc : Int32) (t : List Nat) (ht : t.length ≤ 100) (hAL : A1 aL) (hAA : t.length ≠ 0 → A1 aA) (hn0 : t.length ≠ 0) : KM l G A1 yJx4a65c_grow_92f84 cJx4a65c_grow_92f84 4 (some (.array (.object "java/lang/Object"))) (rmL 4 1 200) [.ref aL, .int (nI (t.length + 1))] (fun H => H.size = sz ∧ LL G aL aA t.length mc t H ∧ ∀ y ∈ t, EL G A1 y H) (fun v H => ∃ q n', v = some (.ref q) ∧ sz ≤ q ∧ t.length < n' ∧ n' ≤ 200 ∧ va_at G.1 mcl (aL, .inr (1, [.int mc, .ref q, .int (nI t.length)])) H ∧ va_at G.1 mcl (q, rArr (G.2.1 5) n' (fun j => t[j]?)) H) (fun _ _ => False) := by
  refine KM.of (by decide) (Nat.le_of_ble_eq_true rfl) ?_
  intro p e s m args below meth c F hP ls hl
  have hx := F.1.1
  have hb := F.1.2.1
  have hown := F.1.2.2.2.1
  have hts := F.1.2.2.2.2
  have hr := F.2.1
  have hlocks := F.2.2.1
  have hE := F.2.2.2.2.2.1
  have hA := F.2.2.2.2.2.2
  have hS : va_S A1 s.heap s.heap [] := va_S.rf
  have hl : lv_has ls 4 [(0, .ref aL), (1, .int (nI (t.length + 1)))] := hl
  obtain ⟨hsz, hLL, hel⟩ := hP
  have hO := hLL.1
  obtain ⟨-, hne, hV⟩ : t.length ≠ 0 ∧ aA ≠ aL ∧ va_at G.1 mcl (aA, rArr (G.2.1 5) t.length (fun j => t[j]?)) s.heap := by
    rcases hLL.2.2.2 with h | h
    · exact absurd h.1 hn0
    · exact h
  refine lv_aload_n hx hb dJx4a65c_grow_92f84_0 rfl (lv_at hl 0 rfl) ?_
  refine gJx4a65c F hO 1 (by decide) wFL_Jx4a65c_9 (fun _ h9 => h9) (v := .ref aA) rfl dJx4a65c_grow_92f84_1 ?_
  refine xlenLL F hS hLL dJx4a65c_grow_92f84_4 ?_
  refine lv_istore_n (lv' := [(2, .int (nI t.length)), (0, .ref aL), (1, .int (nI (t.length + 1)))]) hx hb dJx4a65c_grow_92f84_5 rfl hl (by decide) rfl (fun ls hl => ?_)
  refine lv_iload_n hx hb dJx4a65c_grow_92f84_6 rfl (lv_at hl 0 rfl) ?_
  refine lv_if_gt (tgt := 20) hx hb dJx4a65c_grow_92f84_7 (by decide) (fun c_7_1 => ?_) (fun c_7_1 => ?_)
  · refine lv_iload_n hx hb dJx4a65c_grow_92f84_20 rfl (lv_at hl 0 rfl) ?_
    refine lv_iload_n hx hb dJx4a65c_grow_92f84_21 rfl (lv_at hl 2 rfl) ?_
    refine lv_iload_n hx hb dJx4a65c_grow_92f84_22 rfl (lv_at hl 0 rfl) ?_
    refine lv_isub hx hb dJx4a65c_grow_92f84_23 ?_
    refine W.eq (g2 := F0 m 24 ls [.int (nI 1), .int (nI t.length)]) (congrArg (fun z => F0 m 24 ls [.int z, .int (nI t.length)]) (by rw [pk_sub (by omega), Nat.add_sub_cancel_left])) ?_
    refine lv_iload_n hx hb dJx4a65c_grow_92f84_24 rfl (lv_at hl 0 rfl) ?_
    refine lv_iconst (v := 1) hx hb dJx4a65c_grow_92f84_25 (by decide) ?_
    refine lv_ishr hx hb dJx4a65c_grow_92f84_26 ?_
    refine kcallS (n := 3) F (cJ_newLength l G (fun q => s.heap.size ≤ q) t.length (by omega)) wML_Jx4a65c_73 wST_J8_newLength_cabcc wIN_J8 wCO_J8_newLength_cabcc (by decide) rfl ⟨by decide, by decide⟩ hS hA (fun q h => h) trivial rfl hl.1 (Nat.le_of_ble_eq_true rfl) dJx4a65c_grow_92f84_27 ⟨by decide, by decide⟩ (fun E ce q9 H1 locs1 hx9 _ _ _ _ _ => hx9.elim) (fun v H1 locs1 hv hk hS => ?_)
    subst hv
    have hO := atO hO hk
    have hV := atO hV hk
    refine lv_istore_n (lv' := [(3, .int (nI (gcap t.length))), (2, .int (nI t.length)), (0, .ref aL), (1, .int (nI (t.length + 1)))]) hx hb dJx4a65c_grow_92f84_30 rfl hl (by decide) rfl (fun ls hl => ?_)
    refine lv_aload_n hx hb dJx4a65c_grow_92f84_31 rfl (lv_at hl 2 rfl) ?_
    refine lv_aload_n hx hb dJx4a65c_grow_92f84_32 rfl (lv_at hl 2 rfl) ?_
    refine gJx4a65c F hO 1 (by decide) wFL_Jx4a65c_9 (fun _ h9 => h9) (v := .ref aA) rfl dJx4a65c_grow_92f84_33 ?_
    refine lv_iload_n hx hb dJx4a65c_grow_92f84_36 rfl (lv_at hl 0 rfl) ?_
    have hlt : aA < H1.size := hV.lt
    have hz1 : s.heap.size ≤ H1.size := hS.1
    refine kcallS (n := 2) F (cJ_copyOf2 l G (fun q => q = aA ∨ H1.size ≤ q) aA t.length (gcap t.length) H1.size (fun j => t[j]?) (Nat.le_of_lt (gcap_gt _)) (by have := gcap_le t.length; omega) (Or.inl rfl)) wML_Jx4a65c_66 wST_J7_copyOf_1904c wIN_J7 wCO_J7_copyOf_1904c (by decide) rfl ⟨by decide, by decide⟩ hS (fun q h => h.elim (fun e => e ▸ hAA hn0) (fun h => hA q (Nat.le_trans hz1 h))) (fun q h => Or.inr h) ⟨rfl, hV, fun i y hi hy => ((hel y (List.mem_of_getElem? hy)).now hS).swap (fun q h hq => h.elim (fun e => e ▸ hAA hn0) (fun h => absurd h (Nat.not_le.mpr hq)))⟩ rfl hl.1 (Nat.le_of_ble_eq_true rfl) dJx4a65c_grow_92f84_37 ⟨by decide, by decide⟩ (fun E ce q9 H1 locs1 hx9 _ _ _ _ _ => hx9.elim) (fun v H1 locs1 hv hk hS => ?_)
    obtain ⟨q, rfl, hq, hN⟩ := hv
    have hO := hO.kept (hk.2 _ hO.lt (fun h => h.elim (fun e => hne e.symm) (Nat.not_le.mpr hO.lt)))
    rw [lf_cpy] at hN
    refine lv_dup_x1 hx hb dJx4a65c_grow_92f84_40 rfl rfl ?_
    have hneq : q ≠ aL := fun e => absurd hLL.1.lt (by rw [← e]; omega)
    refine pJx4a65c F hS hO hAL 1 (by decide) wFL_Jx4a65c_9 (fun _ h9 => h9) rfl rfl rfl (by simp) dJx4a65c_grow_92f84_41 (fun H3 locs1 hO z1 oq1 hS => ?_)
    have hO : va_at G.1 mcl (aL, .inr (1, [.int mc, .ref q, .int (nI t.length)])) H3 := hO
    have hN := hN.kept (oq1 _ hneq)
    exact karetA hx hb hr hlocks hS (by decide) (by decide) dJx4a65c_grow_92f84_44 (⟨q, gcap t.length, rfl, by omega, gcap_gt _, by have := gcap_le t.length; omega, hO, hN⟩)
  · exact absurd (nI_lt (a := 0) (b := t.length) (by omega) (by omega)) c_7_1

