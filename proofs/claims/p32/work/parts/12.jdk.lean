/-! ARRAYLIST, a list of addresses: the object at aL, its array at aA of n places (the shared empty one: n = 0) -/
def LL (G : GE) (aL aA n : Nat) (mc : Int32) (t : List Nat) (H : Heap) : Prop :=
  va_at G.1 mcl (aL, .inr (1, [.int mc, .ref aA, .int (nI t.length)])) H ∧ t.length ≤ n ∧ n ≤ 200 ∧ ((n = 0 ∧ aA = G.2.2.1) ∨ (n ≠ 0 ∧ aA ≠ aL ∧ va_at G.1 mcl (aA, rArr (G.2.1 5) n (fun j => t[j]?)) H))
/-- an element: a ticket or a work, none of the list's own cells -/
def EL (G : GE) (A : Nat → Prop) (y : Nat) (H : Heap) : Prop := (∃ (ci : Nat) (fs : List Value), (ci = 4 ∨ ci = 6) ∧ va_at G.1 mcl (y, .inr (ci, fs)) H) ∧ ¬ A y
theorem EL.any {A A1 : Nat → Prop} {G : GE} {s : State} {H H0 : Heap} {y : Nat} (hE : EN A G s H0) (h : EL G A1 y H) : va_Any "java/lang/Object" s H y := by
  obtain ⟨⟨ci, fs, hc, he⟩, -⟩ := h
  have key : ∀ (q : vw_C), mcl[ci]? = some q → (q.1, "java/lang/Object") ∈ nwCast → va_Any "java/lang/Object" s H y := by
    intro q hq hm
    refine va_rAny (q0 := 0) hE.1.1 (at1 he) rfl hq ?_
    intro comp c0 h1 h2
    obtain ⟨c1, t1, f1, f2, f3⟩ := Cond.castable_spec (va_Nw.use (A := #[]) rfl (hE.1.2.1 _ hm))
    cases h1.symm.trans f2
    cases h2.symm.trans f1
    exact f3
  rcases hc with h | h <;> subst h
  · exact key _ rfl (by simp [nwCast])
  · exact key _ rfl (by simp [nwCast])
theorem EL.kept {A A1 : Nat → Prop} {G : GE} {y : Nat} {H H1 : Heap} (h : EL G A y H) (k : KF A H H1) : EL G A y H1 := by
  obtain ⟨⟨ci, fs, hc, he⟩, h2⟩ := h
  exact ⟨⟨ci, fs, hc, atK he k h2⟩, h2⟩
theorem KF.of {A : Nat → Prop} {H0 H : Heap} {locs : List Loc} (h : va_S A H0 H locs) : KF A H0 H := ⟨h.1, h.2.1⟩
theorem EL.now {A : Nat → Prop} {G : GE} {y : Nat} {H0 H : Heap} {locs : List Loc} (h : EL G A y H0) (hS : va_S A H0 H locs) : EL G A y H := h.kept (A1 := A) (KF.of hS)
theorem vat2 {D : va_G} {cl : List vw_C} {q1 q2 : Nat × va_E} {H : Heap} (h1 : va_at D cl q1 H) (h2 : va_at D cl q2 H) : va_P D cl [q1, q2] H := by
  intro k x hx
  match k, hx with
  | 0, hx => cases hx; exact h1
  | 1, hx => cases hx; exact h2
  | k + 2, hx => simp at hx
theorem vD2 {A : Nat → Prop} {q1 q2 : Nat × va_E} (hn : q1.1 ≠ q2.1) (h1 : A q1.1) (h2 : A q2.1) : va_D A [q1, q2] := by
  refine ⟨fun i j x y hi hj hxy => ?_, fun k q hk => ?_⟩
  · match i, j, hi, hj with
    | 0, 0, _, _ => rfl
    | 1, 1, _, _ => rfl
    | 0, 1, hi, hj => cases hi; cases hj; exact absurd hxy hn
    | 1, 0, hi, hj => cases hi; cases hj; exact absurd hxy.symm hn
    | i + 2, _, hi, _ => simp at hi
    | _, j + 2, _, hj => simp at hj
  · match k, hk with
    | 0, hk => cases hk; exact h1
    | 1, hk => cases hk; exact h2
    | k + 2, hk => simp at hk
theorem P2 {D : va_G} {cl : List vw_C} {q1 q2 : Nat × va_E} {H : Heap} (h : va_P D cl [q1, q2] H) : va_at D cl q1 H ∧ va_at D cl q2 H := ⟨h 0 _ rfl, h 1 _ rfl⟩
theorem vD1 {A : Nat → Prop} {q1 : Nat × va_E} (h1 : A q1.1) : va_D A [q1] := by
  refine ⟨fun i j x y hi hj hxy => ?_, fun k q hk => ?_⟩
  · match i, j, hi, hj with
    | 0, 0, _, _ => rfl
    | i + 1, _, hi, _ => simp at hi
    | _, j + 1, _, hj => simp at hj
  · match k, hk with
    | 0, hk => cases hk; exact h1
    | k + 1, hk => simp at hk
set_option maxHeartbeats 4000000 in
set_option maxRecDepth 100000 in
theorem cL_size (l : Launch) (G : GE) (A1 : Nat → Prop) (aL aA : Nat) (mc z : Int32) : KM l G A1 yJx4a65c_size_8abf5 cJx4a65c_size_8abf5 1 (some .int) (rmL 1 0 0) [.ref aL] (fun H => va_at G.1 mcl (aL, .inr (1, [.int mc, .ref aA, .int z])) H) (fun v _ => v = some (.int z)) (fun _ _ => False) := by
  refine KM.of (by decide) (Nat.le_of_ble_eq_true rfl) ?_
  intro p e s m args below meth c F hP ls hl
  have hx := F.1.1
  have hb := F.1.2.1
  have hown := F.1.2.2.2.1
  have hts := F.1.2.2.2.2
  have hr := F.2.1
  have hlocks := F.2.2.1
  have hE := F.2.2.2.2.2.1
  have hA := F.2.2.2.2.2.2
  have hS : va_S A1 s.heap s.heap [] := va_S.rf
  have hl : lv_has ls 1 [(0, .ref aL)] := hl
  have hO := hP
  refine lv_aload_n hx hb dJx4a65c_size_8abf5_0 rfl (lv_at hl 0 rfl) ?_
  refine gJx4a65c F hO 2 (by decide) wFL_Jx4a65c_48 (fun _ h9 => h9) (v := .int z) rfl dJx4a65c_size_8abf5_1 ?_
  exact kiret hx hb hr hlocks hS (by decide) (by decide) dJx4a65c_size_8abf5_4 (rfl)

set_option maxHeartbeats 4000000 in
set_option maxRecDepth 100000 in
theorem cL_isEmpty (l : Launch) (G : GE) (A1 : Nat → Prop) (aL aA : Nat) (mc z : Int32) : KM l G A1 yJx4a65c_isEmpty_aae02 cJx4a65c_isEmpty_aae02 1 (some .boolean) (rmL 1 0 0) [.ref aL] (fun H => va_at G.1 mcl (aL, .inr (1, [.int mc, .ref aA, .int z])) H) (fun v _ => v = some (.int (b2i (decide (z = 0))))) (fun _ _ => False) := by
  refine KM.of (by decide) (Nat.le_of_ble_eq_true rfl) ?_
  intro p e s m args below meth c F hP ls hl
  have hx := F.1.1
  have hb := F.1.2.1
  have hown := F.1.2.2.2.1
  have hts := F.1.2.2.2.2
  have hr := F.2.1
  have hlocks := F.2.2.1
  have hE := F.2.2.2.2.2.1
  have hA := F.2.2.2.2.2.2
  have hS : va_S A1 s.heap s.heap [] := va_S.rf
  have hl : lv_has ls 1 [(0, .ref aL)] := hl
  have hO := hP
  refine lv_aload_n hx hb dJx4a65c_isEmpty_aae02_0 rfl (lv_at hl 0 rfl) ?_
  refine gJx4a65c F hO 2 (by decide) wFL_Jx4a65c_48 (fun _ h9 => h9) (v := .int z) rfl dJx4a65c_isEmpty_aae02_1 ?_
  refine lv_if_ne (tgt := 11) hx hb dJx4a65c_isEmpty_aae02_4 (by decide) (fun c_4_1 => ?_) (fun c_4_1 => ?_)
  · refine lv_iconst (v := 0) hx hb dJx4a65c_isEmpty_aae02_11 (by decide) ?_
    exact kzret hx hb hr hlocks hS (by decide) (by decide) (Or.inl rfl) dJx4a65c_isEmpty_aae02_12 (by simp [b2i, c_4_1])
  · refine lv_iconst (v := 1) hx hb dJx4a65c_isEmpty_aae02_7 (by decide) ?_
    refine lv_goto (tgt := 12) hx hb dJx4a65c_isEmpty_aae02_8 (by decide) ?_
    exact kzret hx hb hr hlocks hS (by decide) (by decide) (Or.inr rfl) dJx4a65c_isEmpty_aae02_12 (by simp [b2i, c_4_1])

set_option maxHeartbeats 4000000 in
set_option maxRecDepth 100000 in
theorem cJ_checkIndex3 (l : Launch) (G : GE) (A1 : Nat → Prop) (k cn : Nat) (hk : k < cn) (hc : cn < 2 ^ 31) : KM l G A1 yJ3_checkIndex_8e157 cJ3_checkIndex_8e157 3 (some .int) (rmL 1 0 0) [.int (nI k), .int (nI cn), .null] (fun _ => True) (fun v _ => v = some (.int (nI k))) (fun _ _ => False) := by
  refine KM.of (by decide) (Nat.le_of_ble_eq_true rfl) ?_
  intro p e s m args below meth c F hP ls hl
  have hx := F.1.1
  have hb := F.1.2.1
  have hown := F.1.2.2.2.1
  have hts := F.1.2.2.2.2
  have hr := F.2.1
  have hlocks := F.2.2.1
  have hE := F.2.2.2.2.2.1
  have hA := F.2.2.2.2.2.2
  have hS : va_S A1 s.heap s.heap [] := va_S.rf
  have hl : lv_has ls 3 [(0, .int (nI k)), (1, .int (nI cn)), (2, .null)] := hl
  refine lv_iload_n hx hb dJ3_checkIndex_8e157_0 rfl (lv_at hl 0 rfl) ?_
  refine lv_if_lt (tgt := 9) hx hb dJ3_checkIndex_8e157_1 (by decide) (fun c_1_1 => ?_) (fun c_1_1 => ?_)
  · exact absurd c_1_1 (nI_pos (by omega))
  · refine lv_iload_n hx hb dJ3_checkIndex_8e157_4 rfl (lv_at hl 0 rfl) ?_
    refine lv_iload_n hx hb dJ3_checkIndex_8e157_5 rfl (lv_at hl 1 rfl) ?_
    refine lv_icmp_lt (tgt := 16) hx hb dJ3_checkIndex_8e157_6 (by decide) (fun c_6_2 => ?_) (fun c_6_2 => ?_)
    · refine lv_iload_n hx hb dJ3_checkIndex_8e157_16 rfl (lv_at hl 0 rfl) ?_
      exact kiret hx hb hr hlocks hS (by decide) (by decide) dJ3_checkIndex_8e157_17 (rfl)
    · exact absurd (nI_lt hk hc) c_6_2

set_option maxHeartbeats 4000000 in
set_option maxRecDepth 100000 in
theorem cJ_checkIndex2 (l : Launch) (G : GE) (A1 : Nat → Prop) (k cn : Nat) (hk : k < cn) (hc : cn < 2 ^ 31) : KM l G A1 yJ15_checkIndex_7cf53 cJ15_checkIndex_7cf53 2 (some .int) (rmL 2 0 0) [.int (nI k), .int (nI cn)] (fun _ => True) (fun v _ => v = some (.int (nI k))) (fun _ _ => False) := by
  refine KM.of (by decide) (Nat.le_of_ble_eq_true rfl) ?_
  intro p e s m args below meth c F hP ls hl
  have hx := F.1.1
  have hb := F.1.2.1
  have hown := F.1.2.2.2.1
  have hts := F.1.2.2.2.2
  have hr := F.2.1
  have hlocks := F.2.2.1
  have hE := F.2.2.2.2.2.1
  have hA := F.2.2.2.2.2.2
  have hS : va_S A1 s.heap s.heap [] := va_S.rf
  have hl : lv_has ls 2 [(0, .int (nI k)), (1, .int (nI cn))] := hl
  refine lv_iload_n hx hb dJ15_checkIndex_7cf53_0 rfl (lv_at hl 0 rfl) ?_
  refine lv_iload_n hx hb dJ15_checkIndex_7cf53_1 rfl (lv_at hl 1 rfl) ?_
  refine lv_null hx hb dJ15_checkIndex_7cf53_2 ?_
  refine kcallS (n := 3) F (cJ_checkIndex3 l G A1 k cn hk hc) wML_J15_105 wST_J3_checkIndex_8e157 wIN_J3 wCO_J3_checkIndex_8e157 (by decide) rfl ⟨by decide, by decide⟩ hS (fun _ h => h) (fun q h => hA q (Nat.le_trans hS.1 h)) trivial rfl hl.1 (Nat.le_of_ble_eq_true rfl) dJ15_checkIndex_7cf53_3 ⟨by decide, by decide⟩ (fun E ce q9 H1 locs1 hx9 _ _ _ _ _ => hx9.elim) (fun v H1 locs1 hv hk hS => ?_)
  subst hv
  exact kiret hx hb hr hlocks hS (by decide) (by decide) dJ15_checkIndex_7cf53_6 (rfl)

set_option maxHeartbeats 4000000 in
set_option maxRecDepth 100000 in
theorem cL_elementData (l : Launch) (G : GE) (A1 : Nat → Prop) (aL aA n k y : Nat) (mc z : Int32) (f : Nat → Option Nat) (hkn : k < n) (hn : n ≤ 200) (hy : f k = some y) : KM l G A1 yJx4a65c_elementData_915e3 cJx4a65c_elementData_915e3 2 (some (.object "java/lang/Object")) (rmL 1 0 0) [.ref aL, .int (nI k)] (fun H => va_at G.1 mcl (aL, .inr (1, [.int mc, .ref aA, .int z])) H ∧ va_at G.1 mcl (aA, rArr (G.2.1 5) n f) H) (fun v _ => v = some (.ref y)) (fun _ _ => False) := by
  refine KM.of (by decide) (Nat.le_of_ble_eq_true rfl) ?_
  intro p e s m args below meth c F hP ls hl
  have hx := F.1.1
  have hb := F.1.2.1
  have hown := F.1.2.2.2.1
  have hts := F.1.2.2.2.2
  have hr := F.2.1
  have hlocks := F.2.2.1
  have hE := F.2.2.2.2.2.1
  have hA := F.2.2.2.2.2.2
  have hS : va_S A1 s.heap s.heap [] := va_S.rf
  have hl : lv_has ls 2 [(0, .ref aL), (1, .int (nI k))] := hl
  obtain ⟨hO, hV⟩ := hP
  refine lv_aload_n hx hb dJx4a65c_elementData_915e3_0 rfl (lv_at hl 0 rfl) ?_
  refine gJx4a65c F hO 1 (by decide) wFL_Jx4a65c_9 (fun _ h9 => h9) (v := .ref aA) rfl dJx4a65c_elementData_915e3_1 ?_
  refine lv_iload_n hx hb dJx4a65c_elementData_915e3_4 rfl (lv_at hl 1 rfl) ?_
  refine xaald hx hb hE.1.1 hV 5 rfl rfl hkn (by omega) hy dJx4a65c_elementData_915e3_5 ?_
  exact karet hx hb hr hlocks hS (by decide) (by decide) dJx4a65c_elementData_915e3_6 (rfl)

set_option maxHeartbeats 4000000 in
set_option maxRecDepth 100000 in
theorem cL_get (l : Launch) (G : GE) (A1 : Nat → Prop) (aL aA n k y : Nat) (mc : Int32) (t : List Nat) (hy : t[k]? = some y) : KM l G A1 yJx4a65c_get_915e3 cJx4a65c_get_915e3 2 (some (.object "java/lang/Object")) (rmL 3 0 0) [.ref aL, .int (nI k)] (fun H => LL G aL aA n mc t H) (fun v _ => v = some (.ref y)) (fun _ _ => False) := by
  refine KM.of (by decide) (Nat.le_of_ble_eq_true rfl) ?_
  intro p e s m args below meth c F hP ls hl
  have hx := F.1.1
  have hb := F.1.2.1
  have hown := F.1.2.2.2.1
  have hts := F.1.2.2.2.2
  have hr := F.2.1
  have hlocks := F.2.2.1
  have hE := F.2.2.2.2.2.1
  have hA := F.2.2.2.2.2.2
  have hS : va_S A1 s.heap s.heap [] := va_S.rf
  have hl : lv_has ls 2 [(0, .ref aL), (1, .int (nI k))] := hl
  have hk : k < t.length := (List.getElem?_eq_some_iff.mp hy).1
  obtain ⟨hO, hln, hn, hcase⟩ := hP
  obtain ⟨hn0, hne, hV⟩ : n ≠ 0 ∧ aA ≠ aL ∧ va_at G.1 mcl (aA, rArr (G.2.1 5) n (fun j => t[j]?)) s.heap := by
    rcases hcase with ⟨h1, _⟩ | h1
    · omega
    · exact h1
  refine lv_iload_n hx hb dJx4a65c_get_915e3_0 rfl (lv_at hl 1 rfl) ?_
  refine lv_aload_n hx hb dJx4a65c_get_915e3_1 rfl (lv_at hl 0 rfl) ?_
  refine gJx4a65c F hO 2 (by decide) wFL_Jx4a65c_48 (fun _ h9 => h9) (v := .int (nI t.length)) rfl dJx4a65c_get_915e3_2 ?_
  refine kcallS (n := 2) F (cJ_checkIndex2 l G (fun q => s.heap.size ≤ q) k t.length hk (by omega)) wML_Jx4a65c_118 wST_J15_checkIndex_7cf53 wIN_J15 wCO_J15_checkIndex_7cf53 (by decide) rfl ⟨by decide, by decide⟩ hS (fun q h => hA q h) (fun q h => h) trivial rfl hl.1 (Nat.le_of_ble_eq_true rfl) dJx4a65c_get_915e3_5 ⟨by decide, by decide⟩ (fun E ce q9 H1 locs1 hx9 _ _ _ _ _ => hx9.elim) (fun v H1 locs1 hv hk9 hS => ?_)
  subst hv
  have hO := hO.kept (hk9.2 _ hO.lt (Nat.not_le.mpr hO.lt))
  have hV := hV.kept (hk9.2 _ hV.lt (Nat.not_le.mpr hV.lt))
  refine lv_pop hx hb dJx4a65c_get_915e3_8 rfl ?_
  refine lv_aload_n hx hb dJx4a65c_get_915e3_9 rfl (lv_at hl 0 rfl) ?_
  refine lv_iload_n hx hb dJx4a65c_get_915e3_10 rfl (lv_at hl 1 rfl) ?_
  refine kcallV (n := 1) F (cL_elementData l G (fun q => H1.size ≤ q) aL aA n k y mc (nI t.length) (fun j => t[j]?) (by omega) hn hy) wML_Jx4a65c_123 wIM_Jx4a65c_elementData_915e3 wSE_Jx4a65c_Jx4a65c_elementData_915e3 wIN_Jx4a65c wCO_Jx4a65c_elementData_915e3 (by decide) rfl ⟨by decide, by decide⟩ (frec F hO _ rfl) hS (fun q h => hA q (Nat.le_trans hS.1 h)) (fun q h => h) ⟨hO, hV⟩ rfl hl.1 (Nat.le_of_ble_eq_true rfl) dJx4a65c_get_915e3_11 ⟨by decide, by decide⟩ (fun E ce q9 H1 locs1 hx9 _ _ _ _ _ => hx9.elim) (fun v H1 locs1 hv hk8 hS => ?_)
  subst hv
  exact karet hx hb hr hlocks hS (by decide) (by decide) dJx4a65c_get_915e3_14 (rfl)

