theorem PL.low {G : GE} {A : Nat → Prop} {al : Nat → Nat} {μ : SG} {H : Heap} (h : PL G A al μ 14 H) : PL G (fun q => q < H.size) al μ 14 H := ⟨h.1, h.2.1, fun k i hd => (h.1 k i hd).lt⟩
theorem PL.off {G : GE} {z : Nat} {al : Nat → Nat} {μ : SG} {H H1 : Heap} (h : PL G (fun q => q < z) al μ 14 H) (hz : H1.size = H.size) (oq : ∀ q, q ≠ z → H1[q]? = H[q]?) : PL G (fun q => q < z) al μ 14 H1 :=
  FAM.kept (A1 := fun q => q = z) h ⟨Nat.le_of_eq hz.symm, fun q _ hne => oq q hne⟩ (fun k i hd e => by
    have h1 : al k < z := h.2.2 k i hd
    have h2 : al k = z := e
    omega)
theorem PX.off {G : GE} {z : Nat} {ad : Nat → Nat → Nat} {σ : SG} {qs : Nat → List Nat} {nT nW : Nat} {H H1 : Heap} (h : PX G (fun q => q < z) ad σ qs nT nW H) (hz : H1.size = H.size) (oq : ∀ q, q ≠ z → H1[q]? = H[q]?) : PX G (fun q => q < z) ad σ qs nT nW H1 :=
  h.kept (A1 := fun q => q = z) ⟨Nat.le_of_eq hz.symm, fun q _ hne => oq q hne⟩ (fun q hq _ e => by
    have h1 : q < z := hq
    have h2 : q = z := e
    omega)
def uD (i : Nat) : Nat := if i = 0 then 1000 else if i = 1 then 100 else if i = 2 then 10 else if i = 3 then 1 else 0
theorem uD_le : ∀ i, i < 5 → nI (uD i) ≤ 0 → i = 4 := by decide +kernel
theorem uD_gt : ∀ i, i < 5 → ¬ nI (uD i) ≤ 0 → i < 4 := by decide +kernel
theorem uD_ne : ∀ i, i < 4 → nI (uD i) ≠ 0 := by decide +kernel
theorem uD_pos : ∀ i, i < 4 → 0 < uD i ∧ uD i ≤ 1000 := by decide +kernel
theorem uD_next : ∀ i, i < 4 → nI (uD i) / 10 = nI (uD (i + 1)) := by decide +kernel
theorem uD_one : ∀ i, i < 4 → (nI (uD i) = 1 ↔ i = 3) := by decide +kernel
def dStep (q i : Nat) (x : SG × Nat) : SG × Nat := if uD i ≤ q ∨ i = 3 then (mApp x.1 x.2 (dg q (uD i)), x.2 + 1) else x
theorem dStep_all {q : Nat} (hq : q ≤ 1000) (T : SG) (k : Nat) : itr (dStep q) 0 4 (T, k) = (mPut T k q, k + dgn q) := by
  have e : itr (dStep q) 0 4 (T, k) = dStep q 3 (dStep q 2 (dStep q 1 (dStep q 0 (T, k)))) := rfl
  rw [e]
  have a0 : ∀ x, dStep q 0 x = if 1000 ≤ q then (mApp x.1 x.2 (dg q 1000), x.2 + 1) else x := fun x => by simp [dStep, uD]
  have a1 : ∀ x, dStep q 1 x = if 100 ≤ q then (mApp x.1 x.2 (dg q 100), x.2 + 1) else x := fun x => by simp [dStep, uD]
  have a2 : ∀ x, dStep q 2 x = if 10 ≤ q then (mApp x.1 x.2 (dg q 10), x.2 + 1) else x := fun x => by simp [dStep, uD]
  have a3 : ∀ x, dStep q 3 x = (mApp x.1 x.2 (dg q 1), x.2 + 1) := fun x => by simp [dStep, uD]
  rw [a0, a1, a2, a3]
  unfold mPut dgn
  by_cases c1 : q < 10
  · simp only [show ¬ 1000 ≤ q by omega, show ¬ 100 ≤ q by omega, show ¬ 10 ≤ q by omega, c1, if_true, if_false]
  · by_cases c2 : q < 100
    · simp only [show ¬ 1000 ≤ q by omega, show ¬ 100 ≤ q by omega, show 10 ≤ q by omega, c1, c2, if_true, if_false]
    · by_cases c3 : q < 1000
      · simp only [show ¬ 1000 ≤ q by omega, show 100 ≤ q by omega, show 10 ≤ q by omega, c1, c2, c3, if_true, if_false]
      · simp only [show 1000 ≤ q by omega, show 100 ≤ q by omega, show 10 ≤ q by omega, c1, c2, c3, if_true, if_false]
/-- letter, number, '@' -/
def tiA (τ : SG) (w h : Nat) : SG := mApp (mApp (mApp (up (thr τ 0) 29 0 0) 0 (nI (65 + h))) 1 (dg w 1)) 2 64
theorem dgn_10 {w : Nat} (hw : w < 10) : dgn w = 1 := by unfold dgn; rw [if_pos hw]
theorem tj0_eq {τ : SG} {w h b : Nat} (hw : w < 10) : mTi0 (thr τ 0) w h b = mPut (tiA τ w h) 3 b := by
  unfold mTi0
  rw [dgn_10 hw, show mPut (mApp (up (thr τ 0) 29 0 0) 0 (nI (65 + h))) 1 w = mApp (mApp (up (thr τ 0) 29 0 0) 0 (nI (65 + h))) 1 (dg w 1) from by rw [mPut, if_pos hw]]
  rfl
theorem tj1_eq {τ : SG} {w h b fe : Nat} (hw : w < 10) : mTi1 (thr τ 0) w h b fe = mPut (mApp (mPut (tiA τ w h) 3 b) (3 + dgn b) 36) (3 + dgn b + 1) fe := by
  unfold mTi1
  rw [tj0_eq hw, dgn_10 hw]
theorem mAp28 {T : SG} {k j : Nat} {ch : Int32} : mApp T k ch 28 j = if j = k then ch else T 28 j := by
  unfold mApp up
  by_cases c : j = k <;> simp [c]
/-- a sign more, on both sides -/
theorem sgn_put {T : SG} {ε : Nat → Int32} {k : Nat} {ch : Int32} (h : ∀ j, j < k → ε j = T 28 j) : ∀ j, j < k + 1 → upd ε k ch j = mApp T k ch 28 j := fun j hj => by
  rw [mAp28]
  unfold upd
  by_cases c : j = k
  · rw [if_pos c, if_pos c]
  · rw [if_neg c, if_neg c]; exact h j (by omega)
theorem sgn_out {T : SG} {ε : Nat → Int32} {k : Nat} {ch : Int32} (h : ∀ j, j < k → ε j = T 28 j) : ∀ j, j < k → upd ε k ch j = T 28 j := fun j hj => by
  unfold upd
  rw [if_neg (by omega)]
  exact h j hj
theorem rem10 {w : Nat} (hw : w < 10) : nI w - nI w / 10 * 10 = nI w := by
  show nI w - nI w / nI 10 * nI 10 = nI w
  rw [pk_rem (by omega) (by decide) (by decide), Nat.mod_eq_of_lt hw]
theorem dg_w {w : Nat} (hw : w < 10) : 48 + nI w = dg w 1 := by
  unfold dg
  rw [Nat.div_one, Nat.mod_eq_of_lt hw]
  exact nI_addN 48 w
theorem dg_q {q i : Nat} (hq : q ≤ 1000) (hi : i < 4) : 48 + ((nI q / nI (uD i)) - (nI q / nI (uD i)) / 10 * 10) = dg q (uD i) := by
  obtain ⟨h1, h2⟩ := uD_pos i hi
  rw [pk_div (by omega) h1 (by omega)]
  show nI 48 + (nI (q / uD i) - nI (q / uD i) / nI 10 * nI 10) = _
  rw [pk_rem (Nat.lt_of_le_of_lt (Nat.div_le_self _ _) (by omega)) (by decide) (by decide), nI_addN]
  rfl
/-- what the class tells of a title -/
theorem tt_ans {G : GE} {A : Nat → Prop} {ad : Nat → Nat → Nat} {σ τ : SG} {qs : Nat → List Nat} {nT nW f D N M w h b fe i : Nat} {S : SG} {H : Heap} {v : Option Value} (hR : RR0 σ qs nT nW f τ D N) (hI : RI τ nT) (hq : qP_titleAt G A ad σ qs nT nW (nI w) (nI i) v H) (hw : w < nW) (hh : h < 4) (eh : τ 17 w = nI h) (hb : b < 12) (eb : τ 18 w = nI b) (hfe : fe ≤ 1000) (ef : τ 20 w = nI fe) (hi : i < 1000) (hM : M < 1000)
    (hNS : (τ 19 w = 0 ∧ M = 1 + dgn w + 1 + dgn b ∧ S = mTi0 (thr τ 0) w h b) ∨ (¬ τ 19 w = 0 ∧ M = 1 + dgn w + 1 + dgn b + 1 + dgn fe ∧ S = mTi1 (thr τ 0) w h b fe)) : v = some (.int (if i < M then S 28 i else -1)) := by
  have hcm : cm_titleAt τ nW (nI w) (nI i) (if i < M then S 28 i else -1) S := by
    refine Or.inr ⟨w, h, b, fe, hw, rfl, nI_pos' (by omega), hh, eh, hb, eb, hfe, ef, M, S, hNS, rfl, ?_⟩
    by_cases c : i < M
    · rw [if_pos c]
      exact Or.inl ⟨i, c, rfl, rfl⟩
    · rw [if_neg c]
      exact Or.inr ⟨(nI_leI (by omega) (by omega)).mpr (by omega), rfl⟩
  exact (st_titleAt hR hI hq hcm).2.1
set_option maxHeartbeats 4000000 in
set_option maxRecDepth 100000 in
theorem kL_isTitle (l : Launch) (G : GE) (A1 A Al : Nat → Prop) (hl9 : l.stackTraces = false) (a0 : Nat) (al : Nat → Nat) (μ τ : SG) (nT nW N9 : Nat) (hR : LR μ τ nT nW) (w : Nat) (hw : w < nW) : KM l G A1 yL_isTitle cL_isTitle 9 (some .boolean) (rmL 7 60 800) [.ref a0, .ref (al 9), .int (nI w)] (fun H => CST G A a0 τ nT nW N9 H ∧ PL G Al al μ 14 H) (fun v _ => v = some (.int 1)) (fun _ _ => False) := by
  refine KM.of (by decide) (Nat.le_of_ble_eq_true rfl) ?_
  intro p e s m args below meth c F hP ls hl
  have hx := F.1.1
  have hb := F.1.2.1
  have hown := F.1.2.2.2.1
  have hts := F.1.2.2.2.2
  have hr := F.2.1
  have hlocks := F.2.2.1
  have hE := F.2.2.2.2.2.1
  have hA := F.2.2.2.2.2.2
  have hS : va_S A1 s.heap s.heap [] := va_S.rf
  obtain ⟨⟨ad, σ, qs, f, D, rfl, hPX0, hR0, hI0⟩, hL0⟩ := hP
  have h80 : nT ≤ 80 ∧ nW ≤ 12 ∧ f ≤ nT := ⟨hR0.1.2.2.1, hR0.1.2.2.2.2.2.1, hR0.1.2.1⟩
  obtain ⟨h60, h10⟩ := lr_n60 hR
  have hPX : PX G (fun q => q < s.heap.size) ad σ qs nT nW s.heap := hPX0.mono (fun q _ h => h)
  have hP : PL G (fun q => q < s.heap.size) al μ 14 s.heap := hL0.low
  have hw10 : w < 10 := by omega
  obtain ⟨h9, b9, le9, fe8, hh, hb9, hle, -, -, eh, eb, -, -⟩ := lr_a hR hw
  obtain ⟨fe9, hfe, ef⟩ := L_fem hR0 w hw
  have hd1 := dgn_12 hb9
  have hd2 := dgn_leM fe9
  have hd3 := dgn_leM b9
  have hl : lv_has ls 9 [(0, .ref (ad 0 0)), (1, .ref (al 9)), (2, .int (nI w))] := hl
  refine lv_bipush (v := 12) hx hb dL_isTitle_0 (by decide) ?_
  refine xnewa hx hb (atype := .int) (ty := .int) rfl (hts _ wAC_int) hE.1.1 0 rfl (fun h => h) hS (a0 := (12, .inl (fun _ => 0))) rfl (n := 12) (N := 12) (by decide) (by decide) (by decide) (Nat.le_of_ble_eq_true rfl) (Nat.le_of_ble_eq_true rfl) dL_isTitle_2 (fun H1 he z1 oq1 hS => ?_)
  have hPX := hPX.old (H1 := H1) ⟨by omega, fun q hq _ => oq1 q hq⟩
  have hP := hP.old (H1 := H1) ⟨by omega, fun q hq _ => oq1 q hq⟩
  have hEp : ∀ j, j < 0 → (fun _ => (0 : Int32)) j = (up (thr τ 0) 29 0 0) 28 j := fun j hj => absurd hj (Nat.not_lt_zero j)
  refine lv_astore_n (lv' := [(3, .ref s.heap.size), (0, .ref (ad 0 0)), (1, .ref (al 9)), (2, .int (nI w))]) hx hb dL_isTitle_4 rfl hl (by decide) rfl (fun ls hl => ?_)
  refine lv_iconst (v := 2) hx hb dL_isTitle_5 (by decide) ?_
  refine lv_istore (lv' := [(4, .int 2), (3, .ref s.heap.size), (0, .ref (ad 0 0)), (1, .ref (al 9)), (2, .int (nI w))]) hx hb dL_isTitle_6 hl (by decide) rfl (fun ls hl => ?_)
  refine lv_aload_n hx hb dL_isTitle_8 rfl (lv_at hl 1 rfl) ?_
  refine lv_iconst (v := 0) hx hb dL_isTitle_9 (by decide) ?_
  refine lv_bipush (v := 65) hx hb dL_isTitle_10 (by decide) ?_
  refine lv_aload_n hx hb dL_isTitle_12 rfl (lv_at hl 3 rfl) ?_
  refine lv_iload_n hx hb dL_isTitle_13 rfl (lv_at hl 4 rfl) ?_
  refine xiald hx hb hE.1.1 (hP.arr 9 (by decide)) 0 rfl (k := w) rfl (show _ < 10 by omega) (by decide) dL_isTitle_14 ?_
  refine lv_iconst (v := 4) hx hb dL_isTitle_15 (by decide) ?_
  refine lv_irem hx hb dL_isTitle_16 (by decide) ?_
  refine W.eq (g2 := F0 m 17 ls [.int (nI h9), .int 65, .int 0, .ref s.heap.size]) (congrArg (fun z => F0 m 17 ls [.int z, .int 65, .int 0, .ref s.heap.size]) ((lr_aho hR hw).trans eh)) ?_
  refine lv_iadd hx hb dL_isTitle_17 ?_
  refine W.eq (g2 := F0 m 18 ls [.int (nI (65 + h9)), .int 0, .ref s.heap.size]) (congrArg (fun z => F0 m 18 ls [.int z, .int 0, .ref s.heap.size]) (aH h9 hh)) ?_
  refine xiast hx hb hE.1.1 hS he (hA _ (Nat.le_refl _)) 0 rfl (k := 0) rfl (show _ < 12 by omega) (by decide) dL_isTitle_18 (fun H1 locs1 he z1 oq1 hS => ?_)
  have hPX := hPX.off z1 oq1
  have hP := hP.off z1 oq1
  have hEp := sgn_put (ch := nI (65 + h9)) hEp
  refine lv_aload_n hx hb dL_isTitle_19 rfl (lv_at hl 1 rfl) ?_
  refine lv_iconst (v := 1) hx hb dL_isTitle_20 (by decide) ?_
  refine lv_bipush (v := 48) hx hb dL_isTitle_21 (by decide) ?_
  refine lv_iload_n hx hb dL_isTitle_23 rfl (lv_at hl 4 rfl) ?_
  refine lv_bipush (v := 10) hx hb dL_isTitle_24 (by decide) ?_
  refine lv_irem hx hb dL_isTitle_26 (by decide) ?_
  refine W.eq (g2 := F0 m 27 ls [.int (nI w), .int 48, .int 1, .ref s.heap.size]) (congrArg (fun z => F0 m 27 ls [.int z, .int 48, .int 1, .ref s.heap.size]) (rem10 hw10)) ?_
  refine lv_iadd hx hb dL_isTitle_27 ?_
  refine W.eq (g2 := F0 m 28 ls [.int (dg w 1), .int 1, .ref s.heap.size]) (congrArg (fun z => F0 m 28 ls [.int z, .int 1, .ref s.heap.size]) (dg_w hw10)) ?_
  refine xiast hx hb hE.1.1 hS he (hA _ (Nat.le_refl _)) 0 rfl (k := 1) rfl (show _ < 12 by omega) (by decide) dL_isTitle_28 (fun H1 locs1 he z1 oq1 hS => ?_)
  have hPX := hPX.off z1 oq1
  have hP := hP.off z1 oq1
  have hEp := sgn_put (ch := dg w 1) hEp
  refine lv_iconst (v := 0) hx hb dL_isTitle_29 (by decide) ?_
  refine lv_istore (lv' := [(5, .int 0), (4, .int 2), (3, .ref s.heap.size), (0, .ref (ad 0 0)), (1, .ref (al 9)), (2, .int (nI w))]) hx hb dL_isTitle_30 hl (by decide) rfl (fun ls hl => ?_)
  refine lv_iload hx hb dL_isTitle_32 (lv_at hl 0 rfl) ?_
  refine lv_iconst (v := 2) hx hb dL_isTitle_34 (by decide) ?_
  refine lv_icmp_ge (tgt := 180) hx hb dL_isTitle_35 (by decide) (fun c_35_1 => ?_) (fun c_35_1 => ?_)
  · exact absurd c_35_1 (by decide)
  · refine lv_iload hx hb dL_isTitle_38 (lv_at hl 0 rfl) ?_
    refine lv_if_eq (tgt := 55) hx hb dL_isTitle_40 (by decide) (fun c_40_2 => ?_) (fun c_40_2 => ?_)
    · refine lv_iconst (v := 1) hx hb dL_isTitle_55 (by decide) ?_
      refine lv_goto (tgt := 60) hx hb dL_isTitle_56 (by decide) ?_
      refine lv_istore (lv' := [(6, .int 1), (5, .int 0), (4, .int 2), (3, .ref s.heap.size), (0, .ref (ad 0 0)), (1, .ref (al 9)), (2, .int (nI w))]) hx hb dL_isTitle_60 hl (by decide) rfl (fun ls hl => ?_)
      refine lv_iload hx hb dL_isTitle_62 (lv_at hl 1 rfl) ?_
      refine lv_if_ne (tgt := 78) hx hb dL_isTitle_64 (by decide) (fun c_64_3 => ?_) (fun c_64_3 => ?_)
      · exact absurd c_64_3 (by decide)
      · refine lv_aload_n hx hb dL_isTitle_67 rfl (lv_at hl 5 rfl) ?_
        refine lv_iload_n hx hb dL_isTitle_68 rfl (lv_at hl 6 rfl) ?_
        refine xiald hx hb hE.1.1 (hP.arr 9 (by decide)) 0 rfl (k := w) rfl (show _ < 10 by omega) (by decide) dL_isTitle_69 ?_
        refine lv_iconst (v := 4) hx hb dL_isTitle_70 (by decide) ?_
        refine lv_idiv hx hb dL_isTitle_71 (by decide) ?_
        refine lv_bipush (v := 16) hx hb dL_isTitle_72 (by decide) ?_
        refine lv_irem hx hb dL_isTitle_74 (by decide) ?_
        refine W.eq (g2 := F0 m 75 ls [.int (nI b9)]) (congrArg (fun z => F0 m 75 ls [.int z]) ((lr_ar hR hw).trans eb)) ?_
        refine lv_goto (tgt := 85) hx hb dL_isTitle_75 (by decide) ?_
        refine lv_istore (lv' := [(7, .int (nI b9)), (6, .int 1), (5, .int 0), (4, .int 2), (3, .ref s.heap.size), (0, .ref (ad 0 0)), (1, .ref (al 9)), (2, .int (nI w))]) hx hb dL_isTitle_85 hl (by decide) rfl (fun ls hl => ?_)
        refine lv_aload_n hx hb dL_isTitle_87 rfl (lv_at hl 4 rfl) ?_
        refine lv_iload hx hb dL_isTitle_88 (lv_at hl 3 rfl) ?_
        refine lv_iload hx hb dL_isTitle_90 (lv_at hl 2 rfl) ?_
        refine lv_if_ne (tgt := 100) hx hb dL_isTitle_92 (by decide) (fun c_92_4 => ?_) (fun c_92_4 => ?_)
        · exact absurd c_92_4 (by decide)
        · refine lv_bipush (v := 64) hx hb dL_isTitle_95 (by decide) ?_
          refine lv_goto (tgt := 102) hx hb dL_isTitle_97 (by decide) ?_
          refine xiast hx hb hE.1.1 hS he (hA _ (Nat.le_refl _)) 0 rfl (k := 2) rfl (show _ < 12 by omega) (by decide) dL_isTitle_102 (fun H1 locs1 he z1 oq1 hS => ?_)
          have hPX := hPX.off z1 oq1
          have hP := hP.off z1 oq1
          have hEp := sgn_put (ch := 64) hEp
          refine lv_iload hx hb dL_isTitle_103 (lv_at hl 3 rfl) ?_
          refine lv_iload hx hb dL_isTitle_105 (lv_at hl 1 rfl) ?_
          refine lv_if_eq (tgt := 114) hx hb dL_isTitle_107 (by decide) (fun c_107_5 => ?_) (fun c_107_5 => ?_)
          · exact absurd c_107_5 (by decide)
          · refine lv_iconst (v := 1) hx hb dL_isTitle_110 (by decide) ?_
            refine lv_goto (tgt := 115) hx hb dL_isTitle_111 (by decide) ?_
            refine lv_iadd hx hb dL_isTitle_115 ?_
            refine W.eq (g2 := F0 m 116 ls [.int (nI 3)]) (congrArg (fun z => F0 m 116 ls [.int z]) (rfl)) ?_
            refine lv_istore (lv' := [(4, .int (nI 3)), (7, .int (nI b9)), (6, .int 1), (5, .int 0), (3, .ref s.heap.size), (0, .ref (ad 0 0)), (1, .ref (al 9)), (2, .int (nI w))]) hx hb dL_isTitle_116 hl (by decide) rfl (fun ls hl => ?_)
            refine lv_sipush (v := 1000) hx hb dL_isTitle_118 (by decide) ?_
            refine lv_istore (lv' := [(8, .int 1000), (4, .int (nI 3)), (7, .int (nI b9)), (6, .int 1), (5, .int 0), (3, .ref s.heap.size), (0, .ref (ad 0 0)), (1, .ref (al 9)), (2, .int (nI w))]) hx hb dL_isTitle_121 hl (by decide) rfl (fun ls hl => ?_)
            have L123 : ∀ (n9 : Nat) (T : SG) (k : Nat) (ε : Nat → Int32) (i : Nat) (h1 : i ≤ 4) (h2 : 4 < i + n9) (hk9 : k ≤ 3 + i) (hT : itr (dStep b9) i (4 - i) (T, k) = (mPut (mApp (mApp (mApp (up (thr τ 0) 29 0 0) 0 (nI (65 + h9))) 1 (dg w 1)) 2 64) 3 b9, 3 + dgn b9)) (hEp : ∀ j, j < k → ε j = T 28 j) (H : Heap) (locs : List Loc) (ls : Array Slot), va_S A1 s.heap H locs → PX G (fun q => q < s.heap.size) ad σ qs nT nW H → PL G (fun q => q < s.heap.size) al μ 14 H → va_at G.1 mcl (s.heap.size, .inl (G.2.1 0, 12, .inl ε)) H → lv_has ls 9 [(8, .int (nI (uD i))), (4, .int (nI k)), (7, .int (nI b9)), (6, .int 1), (5, .int 0), (0, .ref (ad 0 0)), (1, .ref (al 9)), (2, .int (nI w)), (3, .ref s.heap.size)] → W p l e (rmL 7 60 800) s m args below meth c H locs (0 + 1) (0 + 12) (KE below A1 (fun v _ => v = some (.int 1)) (fun _ _ => False) args s (rmL 7 60 800)) (F0 m 123 ls []) := by
              intro n9
              induction n9 with
              | zero =>
                intro T k ε i h1 h2 hk9 hT hEp H locs ls hS hPX hP he hl
                exact absurd True.intro (by omega)
              | succ n9 ih123 =>
                intro T k ε i h1 h2 hk9 hT hEp H locs ls hS hPX hP he hl
                refine lv_iload hx hb dL_isTitle_123 (lv_at hl 0 rfl) ?_
                refine lv_if_le (tgt := 174) hx hb dL_isTitle_125 (by decide) (fun c_125_6 => ?_) (fun c_125_6 => ?_)
                · have ei := uD_le i (by omega) c_125_6
                  rw [ei, itr_end] at hT
                  obtain ⟨eT, ek⟩ := Prod.mk.inj hT
                  subst eT
                  subst ek
                  refine lv_iinc (v := 1) (lv' := [(5, .int 1), (8, .int (nI (uD i))), (4, .int (nI (3 + dgn b9))), (7, .int (nI b9)), (6, .int 1), (0, .ref (ad 0 0)), (1, .ref (al 9)), (2, .int (nI w)), (3, .ref s.heap.size)]) hx hb dL_isTitle_174 hl (k := 4) rfl rfl (by decide) rfl (fun ls hl => ?_)
                  refine lv_goto (tgt := 32) hx hb dL_isTitle_177 (by decide) ?_
                  refine lv_iload hx hb dL_isTitle_32 (lv_at hl 0 rfl) ?_
                  refine lv_iconst (v := 2) hx hb dL_isTitle_34 (by decide) ?_
                  refine lv_icmp_ge (tgt := 180) hx hb dL_isTitle_35 (by decide) (fun c_35_7 => ?_) (fun c_35_7 => ?_)
                  · exact absurd c_35_7 (by decide)
                  · refine lv_iload hx hb dL_isTitle_38 (lv_at hl 0 rfl) ?_
                    refine lv_if_eq (tgt := 55) hx hb dL_isTitle_40 (by decide) (fun c_40_8 => ?_) (fun c_40_8 => ?_)
                    · exact absurd c_40_8 (by decide)
                    · refine lv_aload_n hx hb dL_isTitle_43 rfl (lv_at hl 6 rfl) ?_
                      refine lv_iload_n hx hb dL_isTitle_44 rfl (lv_at hl 7 rfl) ?_
                      refine xiald hx hb hE.1.1 (hP.arr 9 (by decide)) 0 rfl (k := w) rfl (show _ < 10 by omega) (by decide) dL_isTitle_45 ?_
                      refine lv_bipush (v := 64) hx hb dL_isTitle_46 (by decide) ?_
                      refine lv_idiv hx hb dL_isTitle_48 (by decide) ?_
                      refine lv_iconst (v := 2) hx hb dL_isTitle_49 (by decide) ?_
                      refine lv_irem hx hb dL_isTitle_50 (by decide) ?_
                      refine W.eq (g2 := F0 m 51 ls [.int (τ 19 w)]) (congrArg (fun z => F0 m 51 ls [.int z]) (lr_ale hR hw)) ?_
                      refine lv_iconst (v := 1) hx hb dL_isTitle_51 (by decide) ?_
                      refine lv_icmp_ne (tgt := 59) hx hb dL_isTitle_52 (by decide) (fun c_52_9 => ?_) (fun c_52_9 => ?_)
                      · refine lv_iconst (v := 0) hx hb dL_isTitle_59 (by decide) ?_
                        refine lv_istore (lv' := [(6, .int 0), (5, .int 1), (8, .int (nI (uD i))), (4, .int (nI (3 + dgn b9))), (7, .int (nI b9)), (0, .ref (ad 0 0)), (1, .ref (al 9)), (2, .int (nI w)), (3, .ref s.heap.size)]) hx hb dL_isTitle_60 hl (by decide) rfl (fun ls hl => ?_)
                        refine lv_iload hx hb dL_isTitle_62 (lv_at hl 1 rfl) ?_
                        refine lv_if_ne (tgt := 78) hx hb dL_isTitle_64 (by decide) (fun c_64_10 => ?_) (fun c_64_10 => ?_)
                        · refine lv_aload_n hx hb dL_isTitle_78 rfl (lv_at hl 6 rfl) ?_
                          refine lv_iload_n hx hb dL_isTitle_79 rfl (lv_at hl 7 rfl) ?_
                          refine xiald hx hb hE.1.1 (hP.arr 9 (by decide)) 0 rfl (k := w) rfl (show _ < 10 by omega) (by decide) dL_isTitle_80 ?_
                          refine lv_sipush (v := 128) hx hb dL_isTitle_81 (by decide) ?_
                          refine lv_idiv hx hb dL_isTitle_84 (by decide) ?_
                          refine lv_istore (lv' := [(7, .int ((μ 9 w) / 128)), (6, .int 0), (5, .int 1), (8, .int (nI (uD i))), (4, .int (nI (3 + dgn b9))), (0, .ref (ad 0 0)), (1, .ref (al 9)), (2, .int (nI w)), (3, .ref s.heap.size)]) hx hb dL_isTitle_85 hl (by decide) rfl (fun ls hl => ?_)
                          refine lv_aload_n hx hb dL_isTitle_87 rfl (lv_at hl 8 rfl) ?_
                          refine lv_iload hx hb dL_isTitle_88 (lv_at hl 4 rfl) ?_
                          refine lv_iload hx hb dL_isTitle_90 (lv_at hl 2 rfl) ?_
                          refine lv_if_ne (tgt := 100) hx hb dL_isTitle_92 (by decide) (fun c_92_11 => ?_) (fun c_92_11 => ?_)
                          · refine lv_bipush (v := 36) hx hb dL_isTitle_100 (by decide) ?_
                            refine xiast hx hb hE.1.1 hS he (hA _ (Nat.le_refl _)) 0 rfl (k := (3 + dgn b9)) rfl (show _ < 12 by omega) (by decide) dL_isTitle_102 (fun H1 locs1 he z1 oq1 hS => ?_)
                            have hPX := hPX.off z1 oq1
                            have hP := hP.off z1 oq1
                            have hEp := sgn_out (ch := 36) hEp
                            refine lv_iload hx hb dL_isTitle_103 (lv_at hl 4 rfl) ?_
                            refine lv_iload hx hb dL_isTitle_105 (lv_at hl 1 rfl) ?_
                            refine lv_if_eq (tgt := 114) hx hb dL_isTitle_107 (by decide) (fun c_107_12 => ?_) (fun c_107_12 => ?_)
                            · refine lv_iconst (v := 0) hx hb dL_isTitle_114 (by decide) ?_
                              refine lv_iadd hx hb dL_isTitle_115 ?_
                              refine W.eq (g2 := F0 m 116 ls [.int (nI (3 + dgn b9))]) (congrArg (fun z => F0 m 116 ls [.int z]) (Int32.add_zero _)) ?_
                              refine lv_istore (lv' := [(4, .int (nI (3 + dgn b9))), (7, .int ((μ 9 w) / 128)), (6, .int 0), (5, .int 1), (8, .int (nI (uD i))), (0, .ref (ad 0 0)), (1, .ref (al 9)), (2, .int (nI w)), (3, .ref s.heap.size)]) hx hb dL_isTitle_116 hl (by decide) rfl (fun ls hl => ?_)
                              refine lv_sipush (v := 1000) hx hb dL_isTitle_118 (by decide) ?_
                              refine lv_istore (lv' := [(8, .int 1000), (4, .int (nI (3 + dgn b9))), (7, .int ((μ 9 w) / 128)), (6, .int 0), (5, .int 1), (0, .ref (ad 0 0)), (1, .ref (al 9)), (2, .int (nI w)), (3, .ref s.heap.size)]) hx hb dL_isTitle_121 hl (by decide) rfl (fun ls hl => ?_)
                              refine lv_iload hx hb dL_isTitle_123 (lv_at hl 0 rfl) ?_
                              refine lv_if_le (tgt := 174) hx hb dL_isTitle_125 (by decide) (fun c_125_13 => ?_) (fun c_125_13 => ?_)
                              · exact absurd c_125_13 (by decide)
                              · refine lv_iload hx hb dL_isTitle_128 (lv_at hl 3 rfl) ?_
                                refine lv_if_eq (tgt := 174) hx hb dL_isTitle_130 (by decide) (fun c_130_14 => ?_) (fun c_130_14 => ?_)
                                · refine lv_iinc (v := 2) (lv' := [(5, .int 2), (8, .int 1000), (4, .int (nI (3 + dgn b9))), (7, .int ((μ 9 w) / 128)), (6, .int 0), (0, .ref (ad 0 0)), (1, .ref (al 9)), (2, .int (nI w)), (3, .ref s.heap.size)]) hx hb dL_isTitle_174 hl (k := 4) rfl rfl (by decide) rfl (fun ls hl => ?_)
                                  refine lv_goto (tgt := 32) hx hb dL_isTitle_177 (by decide) ?_
                                  refine lv_iload hx hb dL_isTitle_32 (lv_at hl 0 rfl) ?_
                                  refine lv_iconst (v := 2) hx hb dL_isTitle_34 (by decide) ?_
                                  refine lv_icmp_ge (tgt := 180) hx hb dL_isTitle_35 (by decide) (fun c_35_15 => ?_) (fun c_35_15 => ?_)
                                  · have hNS : (τ 19 w = 0 ∧ (3 + dgn b9) = 1 + dgn w + 1 + dgn b9 ∧ mPut (mApp (mApp (mApp (up (thr τ 0) 29 0 0) 0 (nI (65 + h9))) 1 (dg w 1)) 2 64) 3 b9 = mTi0 (thr τ 0) w h9 b9) ∨ (¬ τ 19 w = 0 ∧ (3 + dgn b9) = 1 + dgn w + 1 + dgn b9 + 1 + dgn fe9 ∧ mPut (mApp (mApp (mApp (up (thr τ 0) 29 0 0) 0 (nI (65 + h9))) 1 (dg w 1)) 2 64) 3 b9 = mTi1 (thr τ 0) w h9 b9 fe9) := Or.inl ⟨Classical.not_not.mp (fun z => c_52_9 ((lr_le01 hR hw).mp z)), by have := dgn_10 hw10; omega, (tj0_eq hw10).symm⟩
                                    refine lv_aload_n hx hb dL_isTitle_180 rfl (lv_at hl 5 rfl) ?_
                                    refine lv_iload_n hx hb dL_isTitle_181 rfl (lv_at hl 7 rfl) ?_
                                    refine lv_iload hx hb dL_isTitle_182 (lv_at hl 2 rfl) ?_
                                    refine kcallV (n := 2) F (kP_titleAt l G (fun q => H1.size ≤ q) (fun q => q < s.heap.size) ad σ qs nT nW hl9 (nI w) (nI (3 + dgn b9)) h80.2.1 (L_wf hR0) (L_wr hR0) (L_fe hR0)) wML_L_78 wIM_X5_titleAt wSE_X5_X5_titleAt wIN_X5 wCO_X5_titleAt (by decide) rfl ⟨by decide, by decide⟩ (frec F (hPX.main rfl) _ rfl) hS (fun q h => hA q (Nat.le_trans hS.1 h)) (fun q h => h) hPX rfl hl.1 (Nat.le_of_ble_eq_true rfl) dL_isTitle_184 ⟨by show 0 + 1 + 4 ≤ 60; omega, by show 0 + 12 + 60 ≤ 800; omega⟩ (fun E ce q9 H1 locs1 hx9 _ _ _ _ _ => (hx9.elim (fun z => z.2 ⟨w, hw, rfl⟩) (fun z => z.2 (nI_pos' (by omega)))).elim) (fun v H1 locs1 hv hk hS => ?_)
                                    have hPX := hPX.old hk
                                    have hP := hP.old hk
                                    have he := atO he hk
                                    have hv := tt_ans hR0 hI0 ⟨hv, hPX⟩ hw hh eh hb9 eb hfe ef (by omega) (by omega) hNS
                                    rw [if_neg (Nat.lt_irrefl _)] at hv
                                    subst hv
                                    refine lv_iconst (v := (-1)) hx hb dL_isTitle_187 (by decide) ?_
                                    refine lv_icmp_ne (tgt := 195) hx hb dL_isTitle_188 (by decide) (fun c_188_16 => ?_) (fun c_188_16 => ?_)
                                    · exact absurd c_188_16 (by decide)
                                    · refine lv_iconst (v := 1) hx hb dL_isTitle_191 (by decide) ?_
                                      refine lv_goto (tgt := 196) hx hb dL_isTitle_192 (by decide) ?_
                                      refine lv_istore (lv' := [(5, .int 1), (8, .int 1000), (4, .int (nI (3 + dgn b9))), (7, .int ((μ 9 w) / 128)), (6, .int 0), (0, .ref (ad 0 0)), (1, .ref (al 9)), (2, .int (nI w)), (3, .ref s.heap.size)]) hx hb dL_isTitle_196 hl (by decide) rfl (fun ls hl => ?_)
                                      refine lv_iconst (v := 0) hx hb dL_isTitle_198 (by decide) ?_
                                      refine lv_istore (lv' := [(6, .int 0), (5, .int 1), (8, .int 1000), (4, .int (nI (3 + dgn b9))), (7, .int ((μ 9 w) / 128)), (0, .ref (ad 0 0)), (1, .ref (al 9)), (2, .int (nI w)), (3, .ref s.heap.size)]) hx hb dL_isTitle_199 hl (by decide) rfl (fun ls hl => ?_)
                                      refine W.widen (k := 5 + 4 * 0) (n := 72 + 60 * 0) (by show 0 + 1 + 4 ≤ 5 + 4 * 0; omega) (by show 0 + 12 + 60 ≤ 72 + 60 * 0; omega) ?_
                                      have L201 : ∀ (n9 : Nat) (j : Nat) (g1 : j ≤ (3 + dgn b9)) (g2 : (3 + dgn b9) < j + n9) (H : Heap) (locs : List Loc) (ls : Array Slot), va_S A1 s.heap H locs → PX G (fun q => q < s.heap.size) ad σ qs nT nW H → PL G (fun q => q < s.heap.size) al μ 14 H → va_at G.1 mcl (s.heap.size, .inl (G.2.1 0, 12, .inl (upd ε (3 + dgn b9) 36))) H → lv_has ls 9 [(6, .int (nI j)), (5, .int 1), (4, .int (nI (3 + dgn b9))), (0, .ref (ad 0 0)), (1, .ref (al 9)), (2, .int (nI w)), (3, .ref s.heap.size)] → W p l e (rmL 7 60 800) s m args below meth c H locs (5 + 4 * j) (72 + 60 * j) (KE below A1 (fun v _ => v = some (.int 1)) (fun _ _ => False) args s (rmL 7 60 800)) (F0 m 201 ls []) := by
                                        intro n9
                                        induction n9 with
                                        | zero =>
                                          intro j g1 g2 H locs ls hS hPX hP he hl
                                          exact absurd True.intro (by omega)
                                        | succ n9 ih201 =>
                                          intro j g1 g2 H locs ls hS hPX hP he hl
                                          refine lv_iload hx hb dL_isTitle_201 (lv_at hl 0 rfl) ?_
                                          refine lv_iload hx hb dL_isTitle_203 (lv_at hl 2 rfl) ?_
                                          refine lv_icmp_ge (tgt := 240) hx hb dL_isTitle_205 (by decide) (fun c_205_17 => ?_) (fun c_205_17 => ?_)
                                          · refine lv_iload hx hb dL_isTitle_240 (lv_at hl 1 rfl) ?_
                                            exact kzret hx hb hr hlocks hS (by show 5 + 4 * j ≤ 60; omega) (by show 72 + 60 * j ≤ 800; omega) (Or.inr rfl) dL_isTitle_242 rfl
                                          · have hj := nI_lt' g1 (by omega) c_205_17
                                            refine lv_iload hx hb dL_isTitle_208 (lv_at hl 1 rfl) ?_
                                            refine lv_if_eq (tgt := 240) hx hb dL_isTitle_210 (by decide) (fun c_210_18 => ?_) (fun c_210_18 => ?_)
                                            · exact absurd c_210_18 (by decide)
                                            · refine lv_aload_n hx hb dL_isTitle_213 rfl (lv_at hl 3 rfl) ?_
                                              refine lv_iload_n hx hb dL_isTitle_214 rfl (lv_at hl 5 rfl) ?_
                                              refine lv_iload hx hb dL_isTitle_215 (lv_at hl 0 rfl) ?_
                                              refine kcallV (n := 2) F (kP_titleAt l G (fun q => H.size ≤ q) (fun q => q < s.heap.size) ad σ qs nT nW hl9 (nI w) (nI j) h80.2.1 (L_wf hR0) (L_wr hR0) (L_fe hR0)) wML_L_78 wIM_X5_titleAt wSE_X5_X5_titleAt wIN_X5 wCO_X5_titleAt (by decide) rfl ⟨by decide, by decide⟩ (frec F (hPX.main rfl) _ rfl) hS (fun q h => hA q (Nat.le_trans hS.1 h)) (fun q h => h) hPX rfl hl.1 (Nat.le_of_ble_eq_true rfl) dL_isTitle_217 ⟨by show 5 + 4 * j + 4 ≤ 60; omega, by show 72 + 60 * j + 60 ≤ 800; omega⟩ (fun E ce q9 H1 locs1 hx9 _ _ _ _ _ => (hx9.elim (fun z => z.2 ⟨w, hw, rfl⟩) (fun z => z.2 (nI_pos' (by omega)))).elim) (fun v H1 locs1 hv hk hS => ?_)
                                              have hPX := hPX.old hk
                                              have hP := hP.old hk
                                              have he := atO he hk
                                              have hv := tt_ans hR0 hI0 ⟨hv, hPX⟩ hw hh eh hb9 eb hfe ef (by omega) (by omega) hNS
                                              rw [if_pos hj] at hv
                                              subst hv
                                              refine lv_aload_n hx hb dL_isTitle_220 rfl (lv_at hl 6 rfl) ?_
                                              refine lv_iload hx hb dL_isTitle_221 (lv_at hl 0 rfl) ?_
                                              refine xiald hx hb hE.1.1 he 0 rfl (k := j) rfl (show _ < 12 by omega) (by decide) dL_isTitle_223 ?_
                                              refine W.eq (g2 := F0 m 224 ls [.int ((mPut (mApp (mApp (mApp (up (thr τ 0) 29 0 0) 0 (nI (65 + h9))) 1 (dg w 1)) 2 64) 3 b9) 28 j), .int ((mPut (mApp (mApp (mApp (up (thr τ 0) 29 0 0) 0 (nI (65 + h9))) 1 (dg w 1)) 2 64) 3 b9) 28 j)]) (congrArg (fun z => F0 m 224 ls [.int z, .int ((mPut (mApp (mApp (mApp (up (thr τ 0) 29 0 0) 0 (nI (65 + h9))) 1 (dg w 1)) 2 64) 3 b9) 28 j)]) (hEp j hj)) ?_
                                              refine lv_icmp_ne (tgt := 231) hx hb dL_isTitle_224 (by decide) (fun c_224_19 => ?_) (fun c_224_19 => ?_)
                                              · exact absurd rfl c_224_19
                                              · refine lv_iconst (v := 1) hx hb dL_isTitle_227 (by decide) ?_
                                                refine lv_goto (tgt := 232) hx hb dL_isTitle_228 (by decide) ?_
                                                refine lv_istore (lv' := [(5, .int 1), (6, .int (nI j)), (4, .int (nI (3 + dgn b9))), (0, .ref (ad 0 0)), (1, .ref (al 9)), (2, .int (nI w)), (3, .ref s.heap.size)]) hx hb dL_isTitle_232 hl (by decide) rfl (fun ls hl => ?_)
                                                refine lv_iinc (v := (nI (j + 1))) (lv' := [(6, .int (nI (j + 1))), (5, .int 1), (4, .int (nI (3 + dgn b9))), (0, .ref (ad 0 0)), (1, .ref (al 9)), (2, .int (nI w)), (3, .ref s.heap.size)]) hx hb dL_isTitle_234 hl (k := 1) rfl (nI_1 _) (by decide) rfl (fun ls hl => ?_)
                                                refine lv_goto (tgt := 201) hx hb dL_isTitle_237 (by decide) ?_
                                                refine W.widen (k := 5 + 4 * (j + 1)) (n := 72 + 60 * (j + 1)) (by show 5 + 4 * j + 4 ≤ 5 + 4 * (j + 1); omega) (by show 72 + 60 * j + 60 ≤ 72 + 60 * (j + 1); omega) ?_
                                                exact ih201 (j + 1) (by omega) (by omega) _ _ _ hS hPX hP he (lv_sub hl [0, 1, 2, 3, 4, 5, 6] rfl)
                                      exact L201 ((3 + dgn b9) + 1) 0 (by omega) (by omega) _ _ _ hS hPX hP he (lv_sub hl [0, 1, 3, 5, 6, 7, 8] rfl)
                                  · exact absurd c_35_15 (by decide)
                                · exact absurd c_130_14 (by decide)
                            · exact absurd c_107_12 (by decide)
                          · exact absurd c_92_11 (by decide)
                        · exact absurd c_64_10 (by decide)
                      · have hfeQ := (lr_afe hR hw c_52_9).trans ef
                        refine lv_iconst (v := 1) hx hb dL_isTitle_55 (by decide) ?_
                        refine lv_goto (tgt := 60) hx hb dL_isTitle_56 (by decide) ?_
                        refine lv_istore (lv' := [(6, .int 1), (5, .int 1), (8, .int (nI (uD i))), (4, .int (nI (3 + dgn b9))), (7, .int (nI b9)), (0, .ref (ad 0 0)), (1, .ref (al 9)), (2, .int (nI w)), (3, .ref s.heap.size)]) hx hb dL_isTitle_60 hl (by decide) rfl (fun ls hl => ?_)
                        refine lv_iload hx hb dL_isTitle_62 (lv_at hl 1 rfl) ?_
                        refine lv_if_ne (tgt := 78) hx hb dL_isTitle_64 (by decide) (fun c_64_20 => ?_) (fun c_64_20 => ?_)
                        · refine lv_aload_n hx hb dL_isTitle_78 rfl (lv_at hl 6 rfl) ?_
                          refine lv_iload_n hx hb dL_isTitle_79 rfl (lv_at hl 7 rfl) ?_
                          refine xiald hx hb hE.1.1 (hP.arr 9 (by decide)) 0 rfl (k := w) rfl (show _ < 10 by omega) (by decide) dL_isTitle_80 ?_
                          refine lv_sipush (v := 128) hx hb dL_isTitle_81 (by decide) ?_
                          refine lv_idiv hx hb dL_isTitle_84 (by decide) ?_
                          refine W.eq (g2 := F0 m 85 ls [.int (nI fe9)]) (congrArg (fun z => F0 m 85 ls [.int z]) (hfeQ)) ?_
                          refine lv_istore (lv' := [(7, .int (nI fe9)), (6, .int 1), (5, .int 1), (8, .int (nI (uD i))), (4, .int (nI (3 + dgn b9))), (0, .ref (ad 0 0)), (1, .ref (al 9)), (2, .int (nI w)), (3, .ref s.heap.size)]) hx hb dL_isTitle_85 hl (by decide) rfl (fun ls hl => ?_)
                          refine lv_aload_n hx hb dL_isTitle_87 rfl (lv_at hl 8 rfl) ?_
                          refine lv_iload hx hb dL_isTitle_88 (lv_at hl 4 rfl) ?_
                          refine lv_iload hx hb dL_isTitle_90 (lv_at hl 2 rfl) ?_
                          refine lv_if_ne (tgt := 100) hx hb dL_isTitle_92 (by decide) (fun c_92_21 => ?_) (fun c_92_21 => ?_)
                          · refine lv_bipush (v := 36) hx hb dL_isTitle_100 (by decide) ?_
                            refine xiast hx hb hE.1.1 hS he (hA _ (Nat.le_refl _)) 0 rfl (k := (3 + dgn b9)) rfl (show _ < 12 by omega) (by decide) dL_isTitle_102 (fun H1 locs1 he z1 oq1 hS => ?_)
                            have hPX := hPX.off z1 oq1
                            have hP := hP.off z1 oq1
                            have hEp := sgn_put (ch := 36) hEp
                            refine lv_iload hx hb dL_isTitle_103 (lv_at hl 4 rfl) ?_
                            refine lv_iload hx hb dL_isTitle_105 (lv_at hl 1 rfl) ?_
                            refine lv_if_eq (tgt := 114) hx hb dL_isTitle_107 (by decide) (fun c_107_22 => ?_) (fun c_107_22 => ?_)
                            · exact absurd c_107_22 (by decide)
                            · refine lv_iconst (v := 1) hx hb dL_isTitle_110 (by decide) ?_
                              refine lv_goto (tgt := 115) hx hb dL_isTitle_111 (by decide) ?_
                              refine lv_iadd hx hb dL_isTitle_115 ?_
                              refine W.eq (g2 := F0 m 116 ls [.int (nI ((3 + dgn b9) + 1))]) (congrArg (fun z => F0 m 116 ls [.int z]) (nI_1 _)) ?_
                              refine lv_istore (lv' := [(4, .int (nI ((3 + dgn b9) + 1))), (7, .int (nI fe9)), (6, .int 1), (5, .int 1), (8, .int (nI (uD i))), (0, .ref (ad 0 0)), (1, .ref (al 9)), (2, .int (nI w)), (3, .ref s.heap.size)]) hx hb dL_isTitle_116 hl (by decide) rfl (fun ls hl => ?_)
                              refine lv_sipush (v := 1000) hx hb dL_isTitle_118 (by decide) ?_
                              refine lv_istore (lv' := [(8, .int 1000), (4, .int (nI ((3 + dgn b9) + 1))), (7, .int (nI fe9)), (6, .int 1), (5, .int 1), (0, .ref (ad 0 0)), (1, .ref (al 9)), (2, .int (nI w)), (3, .ref s.heap.size)]) hx hb dL_isTitle_121 hl (by decide) rfl (fun ls hl => ?_)
                              have L123 : ∀ (n9 : Nat) (T : SG) (k : Nat) (ε : Nat → Int32) (i : Nat) (h1 : i ≤ 4) (h2 : 4 < i + n9) (hk9 : k ≤ ((3 + dgn b9) + 1) + i) (hT : itr (dStep fe9) i (4 - i) (T, k) = (mPut (mApp (mPut (mApp (mApp (mApp (up (thr τ 0) 29 0 0) 0 (nI (65 + h9))) 1 (dg w 1)) 2 64) 3 b9) (3 + dgn b9) 36) ((3 + dgn b9) + 1) fe9, ((3 + dgn b9) + 1) + dgn fe9)) (hEp : ∀ j, j < k → ε j = T 28 j) (H : Heap) (locs : List Loc) (ls : Array Slot), va_S A1 s.heap H locs → PX G (fun q => q < s.heap.size) ad σ qs nT nW H → PL G (fun q => q < s.heap.size) al μ 14 H → va_at G.1 mcl (s.heap.size, .inl (G.2.1 0, 12, .inl ε)) H → lv_has ls 9 [(8, .int (nI (uD i))), (4, .int (nI k)), (7, .int (nI fe9)), (6, .int 1), (5, .int 1), (0, .ref (ad 0 0)), (1, .ref (al 9)), (2, .int (nI w)), (3, .ref s.heap.size)] → W p l e (rmL 7 60 800) s m args below meth c H locs (0 + 1) (0 + 12) (KE below A1 (fun v _ => v = some (.int 1)) (fun _ _ => False) args s (rmL 7 60 800)) (F0 m 123 ls []) := by
                                intro n9
                                induction n9 with
                                | zero =>
                                  intro T k ε i h1 h2 hk9 hT hEp H locs ls hS hPX hP he hl
                                  exact absurd True.intro (by omega)
                                | succ n9 ih123 =>
                                  intro T k ε i h1 h2 hk9 hT hEp H locs ls hS hPX hP he hl
                                  refine lv_iload hx hb dL_isTitle_123 (lv_at hl 0 rfl) ?_
                                  refine lv_if_le (tgt := 174) hx hb dL_isTitle_125 (by decide) (fun c_125_23 => ?_) (fun c_125_23 => ?_)
                                  · have ei := uD_le i (by omega) c_125_23
                                    rw [ei, itr_end] at hT
                                    obtain ⟨eT, ek⟩ := Prod.mk.inj hT
                                    subst eT
                                    subst ek
                                    refine lv_iinc (v := 2) (lv' := [(5, .int 2), (8, .int (nI (uD i))), (4, .int (nI (((3 + dgn b9) + 1) + dgn fe9))), (7, .int (nI fe9)), (6, .int 1), (0, .ref (ad 0 0)), (1, .ref (al 9)), (2, .int (nI w)), (3, .ref s.heap.size)]) hx hb dL_isTitle_174 hl (k := 4) rfl rfl (by decide) rfl (fun ls hl => ?_)
                                    refine lv_goto (tgt := 32) hx hb dL_isTitle_177 (by decide) ?_
                                    refine lv_iload hx hb dL_isTitle_32 (lv_at hl 0 rfl) ?_
                                    refine lv_iconst (v := 2) hx hb dL_isTitle_34 (by decide) ?_
                                    refine lv_icmp_ge (tgt := 180) hx hb dL_isTitle_35 (by decide) (fun c_35_24 => ?_) (fun c_35_24 => ?_)
                                    · have hNS : (τ 19 w = 0 ∧ (((3 + dgn b9) + 1) + dgn fe9) = 1 + dgn w + 1 + dgn b9 ∧ mPut (mApp (mPut (mApp (mApp (mApp (up (thr τ 0) 29 0 0) 0 (nI (65 + h9))) 1 (dg w 1)) 2 64) 3 b9) (3 + dgn b9) 36) ((3 + dgn b9) + 1) fe9 = mTi0 (thr τ 0) w h9 b9) ∨ (¬ τ 19 w = 0 ∧ (((3 + dgn b9) + 1) + dgn fe9) = 1 + dgn w + 1 + dgn b9 + 1 + dgn fe9 ∧ mPut (mApp (mPut (mApp (mApp (mApp (up (thr τ 0) 29 0 0) 0 (nI (65 + h9))) 1 (dg w 1)) 2 64) 3 b9) (3 + dgn b9) 36) ((3 + dgn b9) + 1) fe9 = mTi1 (thr τ 0) w h9 b9 fe9) := Or.inr ⟨by rw [c_52_9]; decide, by have := dgn_10 hw10; omega, (tj1_eq hw10).symm⟩
                                      refine lv_aload_n hx hb dL_isTitle_180 rfl (lv_at hl 5 rfl) ?_
                                      refine lv_iload_n hx hb dL_isTitle_181 rfl (lv_at hl 7 rfl) ?_
                                      refine lv_iload hx hb dL_isTitle_182 (lv_at hl 2 rfl) ?_
                                      refine kcallV (n := 2) F (kP_titleAt l G (fun q => H.size ≤ q) (fun q => q < s.heap.size) ad σ qs nT nW hl9 (nI w) (nI (((3 + dgn b9) + 1) + dgn fe9)) h80.2.1 (L_wf hR0) (L_wr hR0) (L_fe hR0)) wML_L_78 wIM_X5_titleAt wSE_X5_X5_titleAt wIN_X5 wCO_X5_titleAt (by decide) rfl ⟨by decide, by decide⟩ (frec F (hPX.main rfl) _ rfl) hS (fun q h => hA q (Nat.le_trans hS.1 h)) (fun q h => h) hPX rfl hl.1 (Nat.le_of_ble_eq_true rfl) dL_isTitle_184 ⟨by show 0 + 1 + 4 ≤ 60; omega, by show 0 + 12 + 60 ≤ 800; omega⟩ (fun E ce q9 H1 locs1 hx9 _ _ _ _ _ => (hx9.elim (fun z => z.2 ⟨w, hw, rfl⟩) (fun z => z.2 (nI_pos' (by omega)))).elim) (fun v H1 locs1 hv hk hS => ?_)
                                      have hPX := hPX.old hk
                                      have hP := hP.old hk
                                      have he := atO he hk
                                      have hv := tt_ans hR0 hI0 ⟨hv, hPX⟩ hw hh eh hb9 eb hfe ef (by omega) (by omega) hNS
                                      rw [if_neg (Nat.lt_irrefl _)] at hv
                                      subst hv
                                      refine lv_iconst (v := (-1)) hx hb dL_isTitle_187 (by decide) ?_
                                      refine lv_icmp_ne (tgt := 195) hx hb dL_isTitle_188 (by decide) (fun c_188_25 => ?_) (fun c_188_25 => ?_)
                                      · exact absurd c_188_25 (by decide)
                                      · refine lv_iconst (v := 1) hx hb dL_isTitle_191 (by decide) ?_
                                        refine lv_goto (tgt := 196) hx hb dL_isTitle_192 (by decide) ?_
                                        refine lv_istore (lv' := [(5, .int 1), (8, .int (nI (uD i))), (4, .int (nI (((3 + dgn b9) + 1) + dgn fe9))), (7, .int (nI fe9)), (6, .int 1), (0, .ref (ad 0 0)), (1, .ref (al 9)), (2, .int (nI w)), (3, .ref s.heap.size)]) hx hb dL_isTitle_196 hl (by decide) rfl (fun ls hl => ?_)
                                        refine lv_iconst (v := 0) hx hb dL_isTitle_198 (by decide) ?_
                                        refine lv_istore (lv' := [(6, .int 0), (5, .int 1), (8, .int (nI (uD i))), (4, .int (nI (((3 + dgn b9) + 1) + dgn fe9))), (7, .int (nI fe9)), (0, .ref (ad 0 0)), (1, .ref (al 9)), (2, .int (nI w)), (3, .ref s.heap.size)]) hx hb dL_isTitle_199 hl (by decide) rfl (fun ls hl => ?_)
                                        refine W.widen (k := 5 + 4 * 0) (n := 72 + 60 * 0) (by show 0 + 1 + 4 ≤ 5 + 4 * 0; omega) (by show 0 + 12 + 60 ≤ 72 + 60 * 0; omega) ?_
                                        have L201 : ∀ (n9 : Nat) (j : Nat) (g1 : j ≤ (((3 + dgn b9) + 1) + dgn fe9)) (g2 : (((3 + dgn b9) + 1) + dgn fe9) < j + n9) (H : Heap) (locs : List Loc) (ls : Array Slot), va_S A1 s.heap H locs → PX G (fun q => q < s.heap.size) ad σ qs nT nW H → PL G (fun q => q < s.heap.size) al μ 14 H → va_at G.1 mcl (s.heap.size, .inl (G.2.1 0, 12, .inl ε)) H → lv_has ls 9 [(6, .int (nI j)), (5, .int 1), (4, .int (nI (((3 + dgn b9) + 1) + dgn fe9))), (0, .ref (ad 0 0)), (1, .ref (al 9)), (2, .int (nI w)), (3, .ref s.heap.size)] → W p l e (rmL 7 60 800) s m args below meth c H locs (5 + 4 * j) (72 + 60 * j) (KE below A1 (fun v _ => v = some (.int 1)) (fun _ _ => False) args s (rmL 7 60 800)) (F0 m 201 ls []) := by
                                          intro n9
                                          induction n9 with
                                          | zero =>
                                            intro j g1 g2 H locs ls hS hPX hP he hl
                                            exact absurd True.intro (by omega)
                                          | succ n9 ih201 =>
                                            intro j g1 g2 H locs ls hS hPX hP he hl
                                            refine lv_iload hx hb dL_isTitle_201 (lv_at hl 0 rfl) ?_
                                            refine lv_iload hx hb dL_isTitle_203 (lv_at hl 2 rfl) ?_
                                            refine lv_icmp_ge (tgt := 240) hx hb dL_isTitle_205 (by decide) (fun c_205_26 => ?_) (fun c_205_26 => ?_)
                                            · refine lv_iload hx hb dL_isTitle_240 (lv_at hl 1 rfl) ?_
                                              exact kzret hx hb hr hlocks hS (by show 5 + 4 * j ≤ 60; omega) (by show 72 + 60 * j ≤ 800; omega) (Or.inr rfl) dL_isTitle_242 rfl
                                            · have hj := nI_lt' g1 (by omega) c_205_26
                                              refine lv_iload hx hb dL_isTitle_208 (lv_at hl 1 rfl) ?_
                                              refine lv_if_eq (tgt := 240) hx hb dL_isTitle_210 (by decide) (fun c_210_27 => ?_) (fun c_210_27 => ?_)
                                              · exact absurd c_210_27 (by decide)
                                              · refine lv_aload_n hx hb dL_isTitle_213 rfl (lv_at hl 3 rfl) ?_
                                                refine lv_iload_n hx hb dL_isTitle_214 rfl (lv_at hl 5 rfl) ?_
                                                refine lv_iload hx hb dL_isTitle_215 (lv_at hl 0 rfl) ?_
                                                refine kcallV (n := 2) F (kP_titleAt l G (fun q => H.size ≤ q) (fun q => q < s.heap.size) ad σ qs nT nW hl9 (nI w) (nI j) h80.2.1 (L_wf hR0) (L_wr hR0) (L_fe hR0)) wML_L_78 wIM_X5_titleAt wSE_X5_X5_titleAt wIN_X5 wCO_X5_titleAt (by decide) rfl ⟨by decide, by decide⟩ (frec F (hPX.main rfl) _ rfl) hS (fun q h => hA q (Nat.le_trans hS.1 h)) (fun q h => h) hPX rfl hl.1 (Nat.le_of_ble_eq_true rfl) dL_isTitle_217 ⟨by show 5 + 4 * j + 4 ≤ 60; omega, by show 72 + 60 * j + 60 ≤ 800; omega⟩ (fun E ce q9 H1 locs1 hx9 _ _ _ _ _ => (hx9.elim (fun z => z.2 ⟨w, hw, rfl⟩) (fun z => z.2 (nI_pos' (by omega)))).elim) (fun v H1 locs1 hv hk hS => ?_)
                                                have hPX := hPX.old hk
                                                have hP := hP.old hk
                                                have he := atO he hk
                                                have hv := tt_ans hR0 hI0 ⟨hv, hPX⟩ hw hh eh hb9 eb hfe ef (by omega) (by omega) hNS
                                                rw [if_pos hj] at hv
                                                subst hv
                                                refine lv_aload_n hx hb dL_isTitle_220 rfl (lv_at hl 6 rfl) ?_
                                                refine lv_iload hx hb dL_isTitle_221 (lv_at hl 0 rfl) ?_
                                                refine xiald hx hb hE.1.1 he 0 rfl (k := j) rfl (show _ < 12 by omega) (by decide) dL_isTitle_223 ?_
                                                refine W.eq (g2 := F0 m 224 ls [.int ((mPut (mApp (mPut (mApp (mApp (mApp (up (thr τ 0) 29 0 0) 0 (nI (65 + h9))) 1 (dg w 1)) 2 64) 3 b9) (3 + dgn b9) 36) ((3 + dgn b9) + 1) fe9) 28 j), .int ((mPut (mApp (mPut (mApp (mApp (mApp (up (thr τ 0) 29 0 0) 0 (nI (65 + h9))) 1 (dg w 1)) 2 64) 3 b9) (3 + dgn b9) 36) ((3 + dgn b9) + 1) fe9) 28 j)]) (congrArg (fun z => F0 m 224 ls [.int z, .int ((mPut (mApp (mPut (mApp (mApp (mApp (up (thr τ 0) 29 0 0) 0 (nI (65 + h9))) 1 (dg w 1)) 2 64) 3 b9) (3 + dgn b9) 36) ((3 + dgn b9) + 1) fe9) 28 j)]) (hEp j hj)) ?_
                                                refine lv_icmp_ne (tgt := 231) hx hb dL_isTitle_224 (by decide) (fun c_224_28 => ?_) (fun c_224_28 => ?_)
                                                · exact absurd rfl c_224_28
                                                · refine lv_iconst (v := 1) hx hb dL_isTitle_227 (by decide) ?_
                                                  refine lv_goto (tgt := 232) hx hb dL_isTitle_228 (by decide) ?_
                                                  refine lv_istore (lv' := [(5, .int 1), (6, .int (nI j)), (4, .int (nI (((3 + dgn b9) + 1) + dgn fe9))), (0, .ref (ad 0 0)), (1, .ref (al 9)), (2, .int (nI w)), (3, .ref s.heap.size)]) hx hb dL_isTitle_232 hl (by decide) rfl (fun ls hl => ?_)
                                                  refine lv_iinc (v := (nI (j + 1))) (lv' := [(6, .int (nI (j + 1))), (5, .int 1), (4, .int (nI (((3 + dgn b9) + 1) + dgn fe9))), (0, .ref (ad 0 0)), (1, .ref (al 9)), (2, .int (nI w)), (3, .ref s.heap.size)]) hx hb dL_isTitle_234 hl (k := 1) rfl (nI_1 _) (by decide) rfl (fun ls hl => ?_)
                                                  refine lv_goto (tgt := 201) hx hb dL_isTitle_237 (by decide) ?_
                                                  refine W.widen (k := 5 + 4 * (j + 1)) (n := 72 + 60 * (j + 1)) (by show 5 + 4 * j + 4 ≤ 5 + 4 * (j + 1); omega) (by show 72 + 60 * j + 60 ≤ 72 + 60 * (j + 1); omega) ?_
                                                  exact ih201 (j + 1) (by omega) (by omega) _ _ _ hS hPX hP he (lv_sub hl [0, 1, 2, 3, 4, 5, 6] rfl)
                                        exact L201 ((((3 + dgn b9) + 1) + dgn fe9) + 1) 0 (by omega) (by omega) _ _ _ hS hPX hP he (lv_sub hl [0, 1, 3, 5, 6, 7, 8] rfl)
                                    · exact absurd c_35_24 (by decide)
                                  · have hi := uD_gt i (by omega) c_125_23
                                    refine lv_iload hx hb dL_isTitle_128 (lv_at hl 3 rfl) ?_
                                    refine lv_if_eq (tgt := 174) hx hb dL_isTitle_130 (by decide) (fun c_130_29 => ?_) (fun c_130_29 => ?_)
                                    · exact absurd c_130_29 (by decide)
                                    · refine lv_iload hx hb dL_isTitle_133 (lv_at hl 2 rfl) ?_
                                      refine lv_iload hx hb dL_isTitle_135 (lv_at hl 0 rfl) ?_
                                      refine lv_icmp_ge (tgt := 146) hx hb dL_isTitle_137 (by decide) (fun c_137_30 => ?_) (fun c_137_30 => ?_)
                                      · refine lv_aload_n hx hb dL_isTitle_146 rfl (lv_at hl 8 rfl) ?_
                                        refine lv_iload hx hb dL_isTitle_147 (lv_at hl 1 rfl) ?_
                                        refine lv_bipush (v := 48) hx hb dL_isTitle_149 (by decide) ?_
                                        refine lv_iload hx hb dL_isTitle_151 (lv_at hl 2 rfl) ?_
                                        refine lv_iload hx hb dL_isTitle_153 (lv_at hl 0 rfl) ?_
                                        refine lv_idiv hx hb dL_isTitle_155 (uD_ne i hi) ?_
                                        refine lv_bipush (v := 10) hx hb dL_isTitle_156 (by decide) ?_
                                        refine lv_irem hx hb dL_isTitle_158 (by decide) ?_
                                        refine lv_iadd hx hb dL_isTitle_159 ?_
                                        refine W.eq (g2 := F0 m 160 ls [.int (dg fe9 (uD i)), .int (nI k), .ref s.heap.size]) (congrArg (fun z => F0 m 160 ls [.int z, .int (nI k), .ref s.heap.size]) (dg_q (by omega) hi)) ?_
                                        refine xiast hx hb hE.1.1 hS he (hA _ (Nat.le_refl _)) 0 rfl (k := k) rfl (show _ < 12 by omega) (by decide) dL_isTitle_160 (fun H1 locs1 he z1 oq1 hS => ?_)
                                        have hPX := hPX.off z1 oq1
                                        have hP := hP.off z1 oq1
                                        have hEp := sgn_put (ch := dg fe9 (uD i)) hEp
                                        refine lv_iinc (v := (nI (k + 1))) (lv' := [(4, .int (nI (k + 1))), (8, .int (nI (uD i))), (7, .int (nI fe9)), (6, .int 1), (5, .int 1), (0, .ref (ad 0 0)), (1, .ref (al 9)), (2, .int (nI w)), (3, .ref s.heap.size)]) hx hb dL_isTitle_161 hl (k := 1) rfl (nI_1 _) (by decide) rfl (fun ls hl => ?_)
                                        refine lv_iload hx hb dL_isTitle_164 (lv_at hl 1 rfl) ?_
                                        refine lv_bipush (v := 10) hx hb dL_isTitle_166 (by decide) ?_
                                        refine lv_idiv hx hb dL_isTitle_168 (by decide) ?_
                                        refine W.eq (g2 := F0 m 169 ls [.int (nI (uD (i + 1)))]) (congrArg (fun z => F0 m 169 ls [.int z]) (uD_next i hi)) ?_
                                        refine lv_istore (lv' := [(8, .int (nI (uD (i + 1)))), (4, .int (nI (k + 1))), (7, .int (nI fe9)), (6, .int 1), (5, .int 1), (0, .ref (ad 0 0)), (1, .ref (al 9)), (2, .int (nI w)), (3, .ref s.heap.size)]) hx hb dL_isTitle_169 hl (by decide) rfl (fun ls hl => ?_)
                                        refine lv_goto (tgt := 123) hx hb dL_isTitle_171 (by decide) ?_
                                        exact ih123 _ _ _ (i + 1) (by omega) (by omega) (by omega) (by rw [itr_step hi, show dStep fe9 i (T, k) = (mApp T k (dg fe9 (uD i)), k + 1) from if_pos (Or.inl ((nI_leI (by have := (uD_pos i hi).2; omega) (by omega)).mp c_137_30))] at hT; exact hT) hEp _ _ _ hS hPX hP he (lv_sub hl [0, 1, 2, 3, 4, 5, 6, 7, 8] rfl)
                                      · refine lv_iload hx hb dL_isTitle_140 (lv_at hl 0 rfl) ?_
                                        refine lv_iconst (v := 1) hx hb dL_isTitle_142 (by decide) ?_
                                        refine lv_icmp_ne (tgt := 164) hx hb dL_isTitle_143 (by decide) (fun c_143_31 => ?_) (fun c_143_31 => ?_)
                                        · refine lv_iload hx hb dL_isTitle_164 (lv_at hl 0 rfl) ?_
                                          refine lv_bipush (v := 10) hx hb dL_isTitle_166 (by decide) ?_
                                          refine lv_idiv hx hb dL_isTitle_168 (by decide) ?_
                                          refine W.eq (g2 := F0 m 169 ls [.int (nI (uD (i + 1)))]) (congrArg (fun z => F0 m 169 ls [.int z]) (uD_next i hi)) ?_
                                          refine lv_istore (lv' := [(8, .int (nI (uD (i + 1)))), (4, .int (nI k)), (7, .int (nI fe9)), (6, .int 1), (5, .int 1), (0, .ref (ad 0 0)), (1, .ref (al 9)), (2, .int (nI w)), (3, .ref s.heap.size)]) hx hb dL_isTitle_169 hl (by decide) rfl (fun ls hl => ?_)
                                          refine lv_goto (tgt := 123) hx hb dL_isTitle_171 (by decide) ?_
                                          exact ih123 T k ε (i + 1) (by omega) (by omega) (by omega) (by rw [itr_step hi, show dStep fe9 i (T, k) = (T, k) from if_neg (fun z => z.elim (fun y => c_137_30 ((nI_leI (by have := (uD_pos i hi).2; omega) (by omega)).mpr y)) (fun y => c_143_31 ((uD_one i hi).mpr y)))] at hT; exact hT) hEp _ _ _ hS hPX hP he (lv_sub hl [0, 1, 2, 3, 4, 5, 6, 7, 8] rfl)
                                        · refine lv_aload_n hx hb dL_isTitle_146 rfl (lv_at hl 8 rfl) ?_
                                          refine lv_iload hx hb dL_isTitle_147 (lv_at hl 1 rfl) ?_
                                          refine lv_bipush (v := 48) hx hb dL_isTitle_149 (by decide) ?_
                                          refine lv_iload hx hb dL_isTitle_151 (lv_at hl 2 rfl) ?_
                                          refine lv_iload hx hb dL_isTitle_153 (lv_at hl 0 rfl) ?_
                                          refine lv_idiv hx hb dL_isTitle_155 (uD_ne i hi) ?_
                                          refine lv_bipush (v := 10) hx hb dL_isTitle_156 (by decide) ?_
                                          refine lv_irem hx hb dL_isTitle_158 (by decide) ?_
                                          refine lv_iadd hx hb dL_isTitle_159 ?_
                                          refine W.eq (g2 := F0 m 160 ls [.int (dg fe9 (uD i)), .int (nI k), .ref s.heap.size]) (congrArg (fun z => F0 m 160 ls [.int z, .int (nI k), .ref s.heap.size]) (dg_q (by omega) hi)) ?_
                                          refine xiast hx hb hE.1.1 hS he (hA _ (Nat.le_refl _)) 0 rfl (k := k) rfl (show _ < 12 by omega) (by decide) dL_isTitle_160 (fun H1 locs1 he z1 oq1 hS => ?_)
                                          have hPX := hPX.off z1 oq1
                                          have hP := hP.off z1 oq1
                                          have hEp := sgn_put (ch := dg fe9 (uD i)) hEp
                                          refine lv_iinc (v := (nI (k + 1))) (lv' := [(4, .int (nI (k + 1))), (8, .int (nI (uD i))), (7, .int (nI fe9)), (6, .int 1), (5, .int 1), (0, .ref (ad 0 0)), (1, .ref (al 9)), (2, .int (nI w)), (3, .ref s.heap.size)]) hx hb dL_isTitle_161 hl (k := 1) rfl (nI_1 _) (by decide) rfl (fun ls hl => ?_)
                                          refine lv_iload hx hb dL_isTitle_164 (lv_at hl 1 rfl) ?_
                                          refine lv_bipush (v := 10) hx hb dL_isTitle_166 (by decide) ?_
                                          refine lv_idiv hx hb dL_isTitle_168 (by decide) ?_
                                          refine W.eq (g2 := F0 m 169 ls [.int (nI (uD (i + 1)))]) (congrArg (fun z => F0 m 169 ls [.int z]) (uD_next i hi)) ?_
                                          refine lv_istore (lv' := [(8, .int (nI (uD (i + 1)))), (4, .int (nI (k + 1))), (7, .int (nI fe9)), (6, .int 1), (5, .int 1), (0, .ref (ad 0 0)), (1, .ref (al 9)), (2, .int (nI w)), (3, .ref s.heap.size)]) hx hb dL_isTitle_169 hl (by decide) rfl (fun ls hl => ?_)
                                          refine lv_goto (tgt := 123) hx hb dL_isTitle_171 (by decide) ?_
                                          exact ih123 _ _ _ (i + 1) (by omega) (by omega) (by omega) (by rw [itr_step hi, show dStep fe9 i (T, k) = (mApp T k (dg fe9 (uD i)), k + 1) from if_pos (Or.inr ((uD_one i hi).mp c_143_31))] at hT; exact hT) hEp _ _ _ hS hPX hP he (lv_sub hl [0, 1, 2, 3, 4, 5, 6, 7, 8] rfl)
                              exact L123 5 (mApp (mPut (mApp (mApp (mApp (up (thr τ 0) 29 0 0) 0 (nI (65 + h9))) 1 (dg w 1)) 2 64) 3 b9) (3 + dgn b9) 36) ((3 + dgn b9) + 1) _ 0 (by omega) (by omega) (by omega) (dStep_all (by omega) _ _) hEp _ _ _ hS hPX hP he (lv_sub hl [0, 1, 2, 3, 4, 5, 6, 7, 8] rfl)
                          · exact absurd c_92_21 (by decide)
                        · exact absurd c_64_20 (by decide)
                · have hi := uD_gt i (by omega) c_125_6
                  refine lv_iload hx hb dL_isTitle_128 (lv_at hl 3 rfl) ?_
                  refine lv_if_eq (tgt := 174) hx hb dL_isTitle_130 (by decide) (fun c_130_32 => ?_) (fun c_130_32 => ?_)
                  · exact absurd c_130_32 (by decide)
                  · refine lv_iload hx hb dL_isTitle_133 (lv_at hl 2 rfl) ?_
                    refine lv_iload hx hb dL_isTitle_135 (lv_at hl 0 rfl) ?_
                    refine lv_icmp_ge (tgt := 146) hx hb dL_isTitle_137 (by decide) (fun c_137_33 => ?_) (fun c_137_33 => ?_)
                    · refine lv_aload_n hx hb dL_isTitle_146 rfl (lv_at hl 8 rfl) ?_
                      refine lv_iload hx hb dL_isTitle_147 (lv_at hl 1 rfl) ?_
                      refine lv_bipush (v := 48) hx hb dL_isTitle_149 (by decide) ?_
                      refine lv_iload hx hb dL_isTitle_151 (lv_at hl 2 rfl) ?_
                      refine lv_iload hx hb dL_isTitle_153 (lv_at hl 0 rfl) ?_
                      refine lv_idiv hx hb dL_isTitle_155 (uD_ne i hi) ?_
                      refine lv_bipush (v := 10) hx hb dL_isTitle_156 (by decide) ?_
                      refine lv_irem hx hb dL_isTitle_158 (by decide) ?_
                      refine lv_iadd hx hb dL_isTitle_159 ?_
                      refine W.eq (g2 := F0 m 160 ls [.int (dg b9 (uD i)), .int (nI k), .ref s.heap.size]) (congrArg (fun z => F0 m 160 ls [.int z, .int (nI k), .ref s.heap.size]) (dg_q (by omega) hi)) ?_
                      refine xiast hx hb hE.1.1 hS he (hA _ (Nat.le_refl _)) 0 rfl (k := k) rfl (show _ < 12 by omega) (by decide) dL_isTitle_160 (fun H1 locs1 he z1 oq1 hS => ?_)
                      have hPX := hPX.off z1 oq1
                      have hP := hP.off z1 oq1
                      have hEp := sgn_put (ch := dg b9 (uD i)) hEp
                      refine lv_iinc (v := (nI (k + 1))) (lv' := [(4, .int (nI (k + 1))), (8, .int (nI (uD i))), (7, .int (nI b9)), (6, .int 1), (5, .int 0), (0, .ref (ad 0 0)), (1, .ref (al 9)), (2, .int (nI w)), (3, .ref s.heap.size)]) hx hb dL_isTitle_161 hl (k := 1) rfl (nI_1 _) (by decide) rfl (fun ls hl => ?_)
                      refine lv_iload hx hb dL_isTitle_164 (lv_at hl 1 rfl) ?_
                      refine lv_bipush (v := 10) hx hb dL_isTitle_166 (by decide) ?_
                      refine lv_idiv hx hb dL_isTitle_168 (by decide) ?_
                      refine W.eq (g2 := F0 m 169 ls [.int (nI (uD (i + 1)))]) (congrArg (fun z => F0 m 169 ls [.int z]) (uD_next i hi)) ?_
                      refine lv_istore (lv' := [(8, .int (nI (uD (i + 1)))), (4, .int (nI (k + 1))), (7, .int (nI b9)), (6, .int 1), (5, .int 0), (0, .ref (ad 0 0)), (1, .ref (al 9)), (2, .int (nI w)), (3, .ref s.heap.size)]) hx hb dL_isTitle_169 hl (by decide) rfl (fun ls hl => ?_)
                      refine lv_goto (tgt := 123) hx hb dL_isTitle_171 (by decide) ?_
                      exact ih123 _ _ _ (i + 1) (by omega) (by omega) (by omega) (by rw [itr_step hi, show dStep b9 i (T, k) = (mApp T k (dg b9 (uD i)), k + 1) from if_pos (Or.inl ((nI_leI (by have := (uD_pos i hi).2; omega) (by omega)).mp c_137_33))] at hT; exact hT) hEp _ _ _ hS hPX hP he (lv_sub hl [0, 1, 2, 3, 4, 5, 6, 7, 8] rfl)
                    · refine lv_iload hx hb dL_isTitle_140 (lv_at hl 0 rfl) ?_
                      refine lv_iconst (v := 1) hx hb dL_isTitle_142 (by decide) ?_
                      refine lv_icmp_ne (tgt := 164) hx hb dL_isTitle_143 (by decide) (fun c_143_34 => ?_) (fun c_143_34 => ?_)
                      · refine lv_iload hx hb dL_isTitle_164 (lv_at hl 0 rfl) ?_
                        refine lv_bipush (v := 10) hx hb dL_isTitle_166 (by decide) ?_
                        refine lv_idiv hx hb dL_isTitle_168 (by decide) ?_
                        refine W.eq (g2 := F0 m 169 ls [.int (nI (uD (i + 1)))]) (congrArg (fun z => F0 m 169 ls [.int z]) (uD_next i hi)) ?_
                        refine lv_istore (lv' := [(8, .int (nI (uD (i + 1)))), (4, .int (nI k)), (7, .int (nI b9)), (6, .int 1), (5, .int 0), (0, .ref (ad 0 0)), (1, .ref (al 9)), (2, .int (nI w)), (3, .ref s.heap.size)]) hx hb dL_isTitle_169 hl (by decide) rfl (fun ls hl => ?_)
                        refine lv_goto (tgt := 123) hx hb dL_isTitle_171 (by decide) ?_
                        exact ih123 T k ε (i + 1) (by omega) (by omega) (by omega) (by rw [itr_step hi, show dStep b9 i (T, k) = (T, k) from if_neg (fun z => z.elim (fun y => c_137_33 ((nI_leI (by have := (uD_pos i hi).2; omega) (by omega)).mpr y)) (fun y => c_143_34 ((uD_one i hi).mpr y)))] at hT; exact hT) hEp _ _ _ hS hPX hP he (lv_sub hl [0, 1, 2, 3, 4, 5, 6, 7, 8] rfl)
                      · refine lv_aload_n hx hb dL_isTitle_146 rfl (lv_at hl 8 rfl) ?_
                        refine lv_iload hx hb dL_isTitle_147 (lv_at hl 1 rfl) ?_
                        refine lv_bipush (v := 48) hx hb dL_isTitle_149 (by decide) ?_
                        refine lv_iload hx hb dL_isTitle_151 (lv_at hl 2 rfl) ?_
                        refine lv_iload hx hb dL_isTitle_153 (lv_at hl 0 rfl) ?_
                        refine lv_idiv hx hb dL_isTitle_155 (uD_ne i hi) ?_
                        refine lv_bipush (v := 10) hx hb dL_isTitle_156 (by decide) ?_
                        refine lv_irem hx hb dL_isTitle_158 (by decide) ?_
                        refine lv_iadd hx hb dL_isTitle_159 ?_
                        refine W.eq (g2 := F0 m 160 ls [.int (dg b9 (uD i)), .int (nI k), .ref s.heap.size]) (congrArg (fun z => F0 m 160 ls [.int z, .int (nI k), .ref s.heap.size]) (dg_q (by omega) hi)) ?_
                        refine xiast hx hb hE.1.1 hS he (hA _ (Nat.le_refl _)) 0 rfl (k := k) rfl (show _ < 12 by omega) (by decide) dL_isTitle_160 (fun H1 locs1 he z1 oq1 hS => ?_)
                        have hPX := hPX.off z1 oq1
                        have hP := hP.off z1 oq1
                        have hEp := sgn_put (ch := dg b9 (uD i)) hEp
                        refine lv_iinc (v := (nI (k + 1))) (lv' := [(4, .int (nI (k + 1))), (8, .int (nI (uD i))), (7, .int (nI b9)), (6, .int 1), (5, .int 0), (0, .ref (ad 0 0)), (1, .ref (al 9)), (2, .int (nI w)), (3, .ref s.heap.size)]) hx hb dL_isTitle_161 hl (k := 1) rfl (nI_1 _) (by decide) rfl (fun ls hl => ?_)
                        refine lv_iload hx hb dL_isTitle_164 (lv_at hl 1 rfl) ?_
                        refine lv_bipush (v := 10) hx hb dL_isTitle_166 (by decide) ?_
                        refine lv_idiv hx hb dL_isTitle_168 (by decide) ?_
                        refine W.eq (g2 := F0 m 169 ls [.int (nI (uD (i + 1)))]) (congrArg (fun z => F0 m 169 ls [.int z]) (uD_next i hi)) ?_
                        refine lv_istore (lv' := [(8, .int (nI (uD (i + 1)))), (4, .int (nI (k + 1))), (7, .int (nI b9)), (6, .int 1), (5, .int 0), (0, .ref (ad 0 0)), (1, .ref (al 9)), (2, .int (nI w)), (3, .ref s.heap.size)]) hx hb dL_isTitle_169 hl (by decide) rfl (fun ls hl => ?_)
                        refine lv_goto (tgt := 123) hx hb dL_isTitle_171 (by decide) ?_
                        exact ih123 _ _ _ (i + 1) (by omega) (by omega) (by omega) (by rw [itr_step hi, show dStep b9 i (T, k) = (mApp T k (dg b9 (uD i)), k + 1) from if_pos (Or.inr ((uD_one i hi).mp c_143_34))] at hT; exact hT) hEp _ _ _ hS hPX hP he (lv_sub hl [0, 1, 2, 3, 4, 5, 6, 7, 8] rfl)
            exact L123 5 (mApp (mApp (mApp (up (thr τ 0) 29 0 0) 0 (nI (65 + h9))) 1 (dg w 1)) 2 64) 3 _ 0 (by omega) (by omega) (by omega) (dStep_all (by omega) _ _) hEp _ _ _ hS hPX hP he (lv_sub hl [0, 1, 2, 3, 4, 6, 7, 8, 5] rfl)
    · exact absurd c_40_2 (by decide)

