def fOut (r i : Nat) (σ : SG) : SG := if σ 16 i = nI r then up (up σ 16 i (-1)) 17 i 0 else σ
def fSend (f nT r : Nat) (σ : SG) : SG := up (itr (fOut r) f (nT - f) σ) 7 r 0
theorem fOut_ne {r i g j : Nat} {σ : SG} (h : g ≠ 16 ∧ g ≠ 17) : fOut r i σ g j = σ g j := by
  unfold fOut
  split
  · rw [up_f h.2, up_f h.1]
  · rfl
theorem itrOut_ne {r g j : Nat} (h : g ≠ 16 ∧ g ≠ 17) : ∀ (n a : Nat) (σ : SG), itr (fOut r) a n σ g j = σ g j
  | 0, _, _ => rfl
  | n + 1, a, σ => by rw [itr, itrOut_ne h n (a + 1), fOut_ne h]
theorem fSend_ne {f nT r g j : Nat} {σ : SG} (h : g ≠ 16 ∧ g ≠ 17 ∧ g ≠ 7) : fSend f nT r σ g j = σ g j := by
  unfold fSend
  rw [up_f h.2.2, itrOut_ne ⟨h.1, h.2.1⟩]
set_option maxHeartbeats 4000000 in
set_option maxRecDepth 100000 in
theorem kX5_sendAllOut (l : Launch) (G : GE) (A : Nat → Prop) (ad : Nat → Nat → Nat) (σ : SG) (qs : Nat → List Nat) (nT nW : Nat) (r : Nat) (hr9 : r < 12) (f : Nat) (hf : σ 26 0 = nI f) (hfn : f ≤ nT) (hnT : nT ≤ 80) : KM l G A yX5_sendAllOut cX5_sendAllOut 5 (some .int) (rmL 4 0 0) [.ref (ad 0 0), .ref (ad 5 r)] (PX G A ad σ qs nT nW) (fun v H => v = some (.int (σ 7 r + nI (qs r).length)) ∧ PX G A ad (fSend f nT r σ) (sq qs r []) nT nW H) (fun _ _ => False) := by
  refine KM.of (by decide) (Nat.le_of_ble_eq_true rfl) ?_
  intro p e s m args below meth c F hP ls hl
  have hx := F.1.1
  have hb := F.1.2.1
  have hown := F.1.2.2.2.1
  have hts := F.1.2.2.2.2
  have hr := F.2.1
  have hlocks := F.2.2.1
  have hE := F.2.2.2.2.2.1
  have hA := F.2.2.2.2.2.2
  have hS : va_S A s.heap s.heap [] := va_S.rf
  have hl : lv_has ls 5 [(0, .ref (ad 0 0)), (1, .ref (ad 5 r))] := hl
  have hP := hP
  refine lv_aload_n hx hb dX5_sendAllOut_0 rfl (lv_at hl 1 rfl) ?_
  refine gX1 F (hP.room hr9) 4 (by decide) wFL_X5_138 (fun _ h9 => h9) (v := .int (σ 7 r)) rfl dX5_sendAllOut_1 ?_
  refine lv_aload_n hx hb dX5_sendAllOut_4 rfl (lv_at hl 1 rfl) ?_
  refine gX1 F (hP.room hr9) 5 (by decide) wFL_X5_228 (fun _ h9 => h9) (v := .ref (ad 7 r)) rfl dX5_sendAllOut_5 ?_
  refine kcallV (n := 0) F (cQ_size l G (fun q => s.heap.size ≤ q) A ad σ qs nT nW r (by omega)) wML_X5_173 wIM_Jx4a65c_size_8abf5 wSE_Jx4a65c_Jx4a65c_size_8abf5 wIN_Jx4a65c wCO_Jx4a65c_size_8abf5 (by decide) rfl ⟨by decide, by decide⟩ (by obtain ⟨_, _, h⟩ := hP.lobj (i := r) (by omega); exact frec F h _ rfl) hS (fun q h => hA q (Nat.le_trans hS.1 h)) (fun q h => h) hP rfl hl.1 (Nat.le_of_ble_eq_true rfl) dX5_sendAllOut_8 ⟨by decide, by decide⟩ (fun E ce q9 H1 locs1 hx9 _ _ _ _ _ => hx9.elim) (fun v H1 locs1 hv hk hS => ?_)
  have hP := hP.old hk
  rw [lsX_q _ _ _ _ hr9, List.length_map] at hv
  subst hv
  refine lv_iadd hx hb dX5_sendAllOut_11 ?_
  refine lv_istore_n (lv' := [(2, .int ((σ 7 r) + (nI (qs r).length))), (0, .ref (ad 0 0)), (1, .ref (ad 5 r))]) hx hb dX5_sendAllOut_12 rfl hl (by decide) rfl (fun ls hl => ?_)
  refine lv_aload_n hx hb dX5_sendAllOut_13 rfl (lv_at hl 1 rfl) ?_
  refine gX5 F (hP.main rfl) 6 (by decide) wFL_X5_278 (fun _ h9 => h9) (v := .int (σ 26 0)) rfl dX5_sendAllOut_14 ?_
  refine W.eq (g2 := F0 m 17 ls [.int (nI f)]) (congrArg (fun z => F0 m 17 ls [.int z]) (hf)) ?_
  refine lv_istore_n (lv' := [(3, .int (nI f)), (2, .int ((σ 7 r) + (nI (qs r).length))), (0, .ref (ad 0 0)), (1, .ref (ad 5 r))]) hx hb dX5_sendAllOut_17 rfl hl (by decide) rfl (fun ls hl => ?_)
  have L18 : ∀ (n9 : Nat) (σ1 : SG) (i : Nat) (h1 : i ≤ nT) (h2 : nT < i + n9) (hT : itr (fOut r) i (nT - i) σ1 = itr (fOut r) f (nT - f) σ) (H : Heap) (locs : List Loc) (ls : Array Slot), va_S A s.heap H locs → PX G A ad σ1 qs nT nW H → lv_has ls 5 [(3, .int (nI i)), (2, .int (σ 7 r + nI (qs r).length)), (0, .ref (ad 0 0)), (1, .ref (ad 5 r))] → W p l e (rmL 4 0 0) s m args below meth c H locs 0 0 (KE below A (fun v H => v = some (.int (σ 7 r + nI (qs r).length)) ∧ PX G A ad (fSend f nT r σ) (sq qs r []) nT nW H) (fun _ _ => False) args s (rmL 4 0 0)) (F0 m 18 ls []) := by
    intro n9
    induction n9 with
    | zero =>
      intro σ1 i h1 h2 hT H locs ls hS hP hl
      exact absurd True.intro (by omega)
    | succ n9 ih18 =>
      intro σ1 i h1 h2 hT H locs ls hS hP hl
      refine lv_iload_n hx hb dX5_sendAllOut_18 rfl (lv_at hl 0 rfl) ?_
      refine lv_aload_n hx hb dX5_sendAllOut_19 rfl (lv_at hl 2 rfl) ?_
      refine gX5 F (hP.main rfl) 3 (by decide) wFL_X5_30 (fun _ h9 => h9) (v := .ref (ad 7 12)) rfl dX5_sendAllOut_20 ?_
      refine kcallV (n := 0) F (cQ_size l G (fun q => H.size ≤ q) A ad σ1 qs nT nW 12 (by decide)) wML_X5_173 wIM_Jx4a65c_size_8abf5 wSE_Jx4a65c_Jx4a65c_size_8abf5 wIN_Jx4a65c wCO_Jx4a65c_size_8abf5 (by decide) rfl ⟨by decide, by decide⟩ (by obtain ⟨_, _, h⟩ := hP.lobj (i := 12) (by decide); exact frec F h _ rfl) hS (fun q h => hA q (Nat.le_trans hS.1 h)) (fun q h => h) hP rfl hl.1 (Nat.le_of_ble_eq_true rfl) dX5_sendAllOut_23 ⟨by decide, by decide⟩ (fun E ce q9 H1 locs1 hx9 _ _ _ _ _ => hx9.elim) (fun v H1 locs1 hv hk hS => ?_)
      have hP := hP.old hk
      rw [lsX_12, List.length_map, List.length_range] at hv
      subst hv
      refine lv_icmp_ge (tgt := 65) hx hb dX5_sendAllOut_26 (by decide) (fun c_26_1 => ?_) (fun c_26_1 => ?_)
      · have ei := nI_eqle (n := nT) h1 (by omega) c_26_1
        rw [ei, itr_end] at hT
        subst hT
        refine lv_aload_n hx hb dX5_sendAllOut_65 rfl (lv_at hl 3 rfl) ?_
        refine lv_iconst (v := 0) hx hb dX5_sendAllOut_66 (by decide) ?_
        refine pX1 F hS (hP.room hr9) (hP.oroom hr9) 4 (by decide) wFL_X5_138 (fun _ h9 => h9) rfl rfl rfl (by simp) dX5_sendAllOut_67 (fun H1 locs1 he1 z1 oq1 hS => ?_)
        have hP := hP.p7 hr9 he1 oq1
        refine lv_aload_n hx hb dX5_sendAllOut_70 rfl (lv_at hl 3 rfl) ?_
        refine gX1 F (hP.room hr9) 5 (by decide) wFL_X5_228 (fun _ h9 => h9) (v := .ref (ad 7 r)) rfl dX5_sendAllOut_71 ?_
        refine kcallV (n := 0) F (cQ_clear l G A ad (up (itr (fOut r) f (nT - f) σ) 7 r 0) qs nT nW r hr9) wML_X5_333 wIM_Jx4a65c_clear_da8c8 wSE_Jx4a65c_Jx4a65c_clear_da8c8 wIN_Jx4a65c wCO_Jx4a65c_clear_da8c8 (by decide) rfl ⟨by decide, by decide⟩ (by obtain ⟨_, _, h⟩ := hP.lobj (i := r) (by omega); exact frec F h _ rfl) hS (fun _ h => h) (fun q h => hA q (Nat.le_trans hS.1 h)) hP rfl hl.1 (Nat.le_of_ble_eq_true rfl) dX5_sendAllOut_74 ⟨by decide, by decide⟩ (fun E ce q9 H1 locs1 hx9 _ _ _ _ _ => hx9.elim) (fun v H1 locs1 hv hk hS => ?_)
        obtain ⟨rfl, hP⟩ := hv
        refine lv_iload_n hx hb dX5_sendAllOut_77 rfl (lv_at hl 1 rfl) ?_
        exact kiret hx hb hr hlocks hS (by decide) (by decide) dX5_sendAllOut_78 (⟨rfl, hP⟩)
      · have hi := nI_lt' (n := nT) h1 (by omega) c_26_1
        refine lv_aload_n hx hb dX5_sendAllOut_29 rfl (lv_at hl 2 rfl) ?_
        refine gX5 F (hP.main rfl) 3 (by decide) wFL_X5_30 (fun _ h9 => h9) (v := .ref (ad 7 12)) rfl dX5_sendAllOut_30 ?_
        refine lv_iload_n hx hb dX5_sendAllOut_33 rfl (lv_at hl 0 rfl) ?_
        refine kcallV (n := 1) F (cQ_get l G (fun q => H1.size ≤ q) A ad σ1 qs nT nW 12 i (ad 10 i) (by decide) (by rw [lsX_12, List.getElem?_map, List.getElem?_range hi]; rfl)) wML_X5_234 wIM_Jx4a65c_get_915e3 wSE_Jx4a65c_Jx4a65c_get_915e3 wIN_Jx4a65c wCO_Jx4a65c_get_915e3 (by decide) rfl ⟨by decide, by decide⟩ (by obtain ⟨_, _, h⟩ := hP.lobj (i := 12) (by decide); exact frec F h _ rfl) hS (fun q h => hA q (Nat.le_trans hS.1 h)) (fun q h => h) hP rfl hl.1 (Nat.le_of_ble_eq_true rfl) dX5_sendAllOut_34 ⟨by decide, by decide⟩ (fun E ce q9 H1 locs1 hx9 _ _ _ _ _ => hx9.elim) (fun v H1 locs1 hv hk hS => ?_)
        have hP := hP.old hk
        subst hv
        refine va_castS hx hb hown (hts _ wCL_X5_96) (hE.1.1.1 4 _ rfl).2 (frec F (hP.tick hi) _ rfl) dX5_sendAllOut_37 ?_
        refine lv_astore (lv' := [(4, .ref (ad 10 i)), (3, .int (nI i)), (2, .int (σ 7 r + nI (qs r).length)), (0, .ref (ad 0 0)), (1, .ref (ad 5 r))]) hx hb dX5_sendAllOut_40 hl (by decide) rfl (fun ls hl => ?_)
        refine lv_aload hx hb dX5_sendAllOut_42 (lv_at hl 0 rfl) ?_
        refine gX2 F (hP.tick hi) 7 (by decide) wFL_X5_154 (fun _ h9 => h9) (v := .int (σ1 16 i)) rfl dX5_sendAllOut_44 ?_
        refine lv_aload_n hx hb dX5_sendAllOut_47 rfl (lv_at hl 4 rfl) ?_
        refine gX1 F (hP.room hr9) 0 (by decide) wFL_X5_170 (fun _ h9 => h9) (v := .int (nI r)) rfl dX5_sendAllOut_48 ?_
        refine lv_icmp_ne (tgt := 59) hx hb dX5_sendAllOut_51 (by decide) (fun c_51_2 => ?_) (fun c_51_2 => ?_)
        · refine lv_iinc (v := (nI (i + 1))) (lv' := [(3, .int (nI (i + 1))), (4, .ref (ad 10 i)), (2, .int (σ 7 r + nI (qs r).length)), (0, .ref (ad 0 0)), (1, .ref (ad 5 r))]) hx hb dX5_sendAllOut_59 hl (k := 1) rfl (nI_1 _) (by decide) rfl (fun ls hl => ?_)
          refine lv_goto (tgt := 18) hx hb dX5_sendAllOut_62 (by decide) ?_
          exact ih18 σ1 (i + 1) (by omega) (by omega) (by rw [itr_step hi, (show fOut r i σ1 = σ1 from if_neg c_51_2)] at hT; exact hT) _ _ _ hS hP (lv_sub hl [0, 2, 3, 4] rfl)
        · refine lv_aload hx hb dX5_sendAllOut_54 (lv_at hl 0 rfl) ?_
          refine kcallV (n := 0) F (kX2_leaveRoom l G A ad σ1 qs nT nW i hi) wML_X5_167 wIM_X2_leaveRoom wSE_X2_X2_leaveRoom wIN_X2 wCO_X2_leaveRoom (by decide) rfl ⟨by decide, by decide⟩ (frec F (hP.tick hi) _ rfl) hS (fun _ h => h) (fun q h => hA q (Nat.le_trans hS.1 h)) hP rfl hl.1 (Nat.le_of_ble_eq_true rfl) dX5_sendAllOut_56 ⟨by decide, by decide⟩ (fun E ce q9 H1 locs1 hx9 _ _ _ _ _ => hx9.elim) (fun v H1 locs1 hv hk hS => ?_)
          obtain ⟨rfl, hP⟩ := hv
          refine lv_iinc (v := (nI (i + 1))) (lv' := [(3, .int (nI (i + 1))), (4, .ref (ad 10 i)), (2, .int (σ 7 r + nI (qs r).length)), (0, .ref (ad 0 0)), (1, .ref (ad 5 r))]) hx hb dX5_sendAllOut_59 hl (k := 1) rfl (nI_1 _) (by decide) rfl (fun ls hl => ?_)
          refine lv_goto (tgt := 18) hx hb dX5_sendAllOut_62 (by decide) ?_
          exact ih18 (up (up σ1 16 i (-1)) 17 i 0) (i + 1) (by omega) (by omega) (by rw [itr_step hi, (show fOut r i σ1 = up (up σ1 16 i (-1)) 17 i 0 from if_pos c_51_2)] at hT; exact hT) _ _ _ hS hP (lv_sub hl [0, 2, 3, 4] rfl)
  exact L18 (nT + 1) σ f hfn (by omega) rfl _ _ _ hS hP (lv_sub hl [0, 1, 2, 3] rfl)

/-- what the member's ticket of today has seen -/
def fSeen (σ : SG) (mm : Int32) : Nat → Nat → Int32
  | _, 0 => 0
  | a, n + 1 => if pOf σ mm 2 a then σ 15 a else fSeen σ mm (a + 1) n
theorem fSeen_step {σ : SG} {mm : Int32} {i n : Nat} (h : i < n) : fSeen σ mm i (n - i) = if pOf σ mm 2 i then σ 15 i else fSeen σ mm (i + 1) (n - (i + 1)) := by
  obtain ⟨k, hk⟩ : ∃ k, n - i = k + 1 := ⟨n - i - 1, by omega⟩
  rw [hk, show n - (i + 1) = k by omega]
  rfl
theorem fSeen_end {σ : SG} {mm : Int32} {i : Nat} : fSeen σ mm i (i - i) = 0 := by rw [Nat.sub_self]; rfl
set_option maxHeartbeats 4000000 in
set_option maxRecDepth 100000 in
theorem kX5_seenToday (l : Launch) (G : GE) (A1 A : Nat → Prop) (ad : Nat → Nat → Nat) (σ : SG) (qs : Nat → List Nat) (nT nW : Nat) (mm : Int32) (f : Nat) (hf : σ 26 0 = nI f) (hfn : f ≤ nT) (hnT : nT ≤ 80) : KM l G A1 yX5_seenToday cX5_seenToday 3 (some .int) (rmL 4 0 0) [.ref (ad 0 0), .int mm] (PX G A ad σ qs nT nW) (fun v _ => v = some (.int (fSeen σ mm f (nT - f)))) (fun _ _ => False) := by
  refine KM.of (by decide) (Nat.le_of_ble_eq_true rfl) ?_
  intro p e s m args below meth c F hP ls hl
  have hx := F.1.1
  have hb := F.1.2.1
  have hown := F.1.2.2.2.1
  have hts := F.1.2.2.2.2
  have hr := F.2.1
  have hlocks := F.2.2.1
  have hE := F.2.2.2.2.2.1
  have hA := F.2.2.2.2.2.2
  have hS : va_S A1 s.heap s.heap [] := va_S.rf
  have hl : lv_has ls 3 [(0, .ref (ad 0 0)), (1, .int mm)] := hl
  have hP := hP
  refine lv_aload_n hx hb dX5_seenToday_0 rfl (lv_at hl 0 rfl) ?_
  refine gX5 F (hP.main rfl) 6 (by decide) wFL_X5_278 (fun _ h9 => h9) (v := .int (σ 26 0)) rfl dX5_seenToday_1 ?_
  refine W.eq (g2 := F0 m 4 ls [.int (nI f)]) (congrArg (fun z => F0 m 4 ls [.int z]) (hf)) ?_
  refine lv_istore_n (lv' := [(2, .int (nI f)), (0, .ref (ad 0 0)), (1, .int mm)]) hx hb dX5_seenToday_4 rfl hl (by decide) rfl (fun ls hl => ?_)
  have L5 : ∀ (n9 : Nat) (i : Nat) (h1 : i ≤ nT) (h2 : nT < i + n9) (hT : fSeen σ mm i (nT - i) = fSeen σ mm f (nT - f)) (H : Heap) (locs : List Loc) (ls : Array Slot), va_S A1 s.heap H locs → PX G A ad σ qs nT nW H → lv_has ls 3 [(2, .int (nI i)), (0, .ref (ad 0 0)), (1, .int mm)] → W p l e (rmL 4 0 0) s m args below meth c H locs 0 0 (KE below A1 (fun v _ => v = some (.int (fSeen σ mm f (nT - f)))) (fun _ _ => False) args s (rmL 4 0 0)) (F0 m 5 ls []) := by
    intro n9
    induction n9 with
    | zero =>
      intro i h1 h2 hT H locs ls hS hP hl
      exact absurd True.intro (by omega)
    | succ n9 ih5 =>
      intro i h1 h2 hT H locs ls hS hP hl
      refine lv_iload_n hx hb dX5_seenToday_5 rfl (lv_at hl 0 rfl) ?_
      refine lv_aload_n hx hb dX5_seenToday_6 rfl (lv_at hl 1 rfl) ?_
      refine gX5 F (hP.main rfl) 3 (by decide) wFL_X5_30 (fun _ h9 => h9) (v := .ref (ad 7 12)) rfl dX5_seenToday_7 ?_
      refine kcallV (n := 0) F (cQ_size l G (fun q => H.size ≤ q) A ad σ qs nT nW 12 (by decide)) wML_X5_173 wIM_Jx4a65c_size_8abf5 wSE_Jx4a65c_Jx4a65c_size_8abf5 wIN_Jx4a65c wCO_Jx4a65c_size_8abf5 (by decide) rfl ⟨by decide, by decide⟩ (by obtain ⟨_, _, h⟩ := hP.lobj (i := 12) (by decide); exact frec F h _ rfl) hS (fun q h => hA q (Nat.le_trans hS.1 h)) (fun q h => h) hP rfl hl.1 (Nat.le_of_ble_eq_true rfl) dX5_seenToday_10 ⟨by decide, by decide⟩ (fun E ce q9 H1 locs1 hx9 _ _ _ _ _ => hx9.elim) (fun v H1 locs1 hv hk hS => ?_)
      have hP := hP.old hk
      rw [lsX_12, List.length_map, List.length_range] at hv
      subst hv
      refine lv_icmp_ge (tgt := 56) hx hb dX5_seenToday_13 (by decide) (fun c_13_1 => ?_) (fun c_13_1 => ?_)
      · have ei := nI_eqle (n := nT) h1 (by omega) c_13_1
        refine lv_iconst (v := 0) hx hb dX5_seenToday_56 (by decide) ?_
        exact kiret hx hb hr hlocks hS (by decide) (by decide) dX5_seenToday_57 (by rw [← hT, ei, fSeen_end])
      · have hi := nI_lt' (n := nT) h1 (by omega) c_13_1
        refine lv_aload_n hx hb dX5_seenToday_16 rfl (lv_at hl 1 rfl) ?_
        refine gX5 F (hP.main rfl) 3 (by decide) wFL_X5_30 (fun _ h9 => h9) (v := .ref (ad 7 12)) rfl dX5_seenToday_17 ?_
        refine lv_iload_n hx hb dX5_seenToday_20 rfl (lv_at hl 0 rfl) ?_
        refine kcallV (n := 1) F (cQ_get l G (fun q => H1.size ≤ q) A ad σ qs nT nW 12 i (ad 10 i) (by decide) (by rw [lsX_12, List.getElem?_map, List.getElem?_range hi]; rfl)) wML_X5_234 wIM_Jx4a65c_get_915e3 wSE_Jx4a65c_Jx4a65c_get_915e3 wIN_Jx4a65c wCO_Jx4a65c_get_915e3 (by decide) rfl ⟨by decide, by decide⟩ (by obtain ⟨_, _, h⟩ := hP.lobj (i := 12) (by decide); exact frec F h _ rfl) hS (fun q h => hA q (Nat.le_trans hS.1 h)) (fun q h => h) hP rfl hl.1 (Nat.le_of_ble_eq_true rfl) dX5_seenToday_21 ⟨by decide, by decide⟩ (fun E ce q9 H1 locs1 hx9 _ _ _ _ _ => hx9.elim) (fun v H1 locs1 hv hk hS => ?_)
        have hP := hP.old hk
        subst hv
        refine va_castS hx hb hown (hts _ wCL_X5_96) (hE.1.1.1 4 _ rfl).2 (frec F (hP.tick hi) _ rfl) dX5_seenToday_24 ?_
        refine lv_iload_n hx hb dX5_seenToday_27 rfl (lv_at hl 2 rfl) ?_
        refine lv_iconst (v := 2) hx hb dX5_seenToday_28 (by decide) ?_
        refine kcallV (n := 2) F (kX2_isOfMember l G (fun q => H1.size ≤ q) A ad σ qs nT nW i hi mm 2) wML_X5_311 wIM_X2_isOfMember wSE_X2_X2_isOfMember wIN_X2 wCO_X2_isOfMember (by decide) rfl ⟨by decide, by decide⟩ (frec F (hP.tick hi) _ rfl) hS (fun q h => hA q (Nat.le_trans hS.1 h)) (fun q h => h) hP rfl hl.1 (Nat.le_of_ble_eq_true rfl) dX5_seenToday_29 ⟨by decide, by decide⟩ (fun E ce q9 H1 locs1 hx9 _ _ _ _ _ => hx9.elim) (fun v H1 locs1 hv hk hS => ?_)
        have hP := hP.old hk
        subst hv
        refine lv_if_eq (tgt := 50) hx hb dX5_seenToday_32 (by decide) (fun c_32_2 => ?_) (fun c_32_2 => ?_)
        · refine lv_iinc (v := (nI (i + 1))) (lv' := [(2, .int (nI (i + 1))), (0, .ref (ad 0 0)), (1, .int mm)]) hx hb dX5_seenToday_50 hl (k := 0) rfl (nI_1 _) (by decide) rfl (fun ls hl => ?_)
          refine lv_goto (tgt := 5) hx hb dX5_seenToday_53 (by decide) ?_
          exact ih5 (i + 1) (by omega) (by omega) (by rw [fSeen_step hi, if_neg (by rw [show pOf σ mm 2 i = false from b2i_0.mp c_32_2]; decide)] at hT; exact hT) _ _ _ hS hP (lv_sub hl [0, 1, 2] rfl)
        · refine lv_aload_n hx hb dX5_seenToday_35 rfl (lv_at hl 1 rfl) ?_
          refine gX5 F (hP.main rfl) 3 (by decide) wFL_X5_30 (fun _ h9 => h9) (v := .ref (ad 7 12)) rfl dX5_seenToday_36 ?_
          refine lv_iload_n hx hb dX5_seenToday_39 rfl (lv_at hl 0 rfl) ?_
          refine kcallV (n := 1) F (cQ_get l G (fun q => H1.size ≤ q) A ad σ qs nT nW 12 i (ad 10 i) (by decide) (by rw [lsX_12, List.getElem?_map, List.getElem?_range hi]; rfl)) wML_X5_234 wIM_Jx4a65c_get_915e3 wSE_Jx4a65c_Jx4a65c_get_915e3 wIN_Jx4a65c wCO_Jx4a65c_get_915e3 (by decide) rfl ⟨by decide, by decide⟩ (by obtain ⟨_, _, h⟩ := hP.lobj (i := 12) (by decide); exact frec F h _ rfl) hS (fun q h => hA q (Nat.le_trans hS.1 h)) (fun q h => h) hP rfl hl.1 (Nat.le_of_ble_eq_true rfl) dX5_seenToday_40 ⟨by decide, by decide⟩ (fun E ce q9 H1 locs1 hx9 _ _ _ _ _ => hx9.elim) (fun v H1 locs1 hv hk hS => ?_)
          have hP := hP.old hk
          subst hv
          refine va_castS hx hb hown (hts _ wCL_X5_96) (hE.1.1.1 4 _ rfl).2 (frec F (hP.tick hi) _ rfl) dX5_seenToday_43 ?_
          refine gX2 F (hP.tick hi) 6 (by decide) wFL_X5_95 (fun _ h9 => h9) (v := .int (σ 15 i)) rfl dX5_seenToday_46 ?_
          exact kiret hx hb hr hlocks hS (by decide) (by decide) dX5_seenToday_49 (by rw [← hT, fSeen_step hi, if_pos (show pOf σ mm 2 i = true from b2i_1.mp c_32_2)])
  exact L5 (nT + 1) f hfn (by omega) rfl _ _ _ hS hP (lv_sub hl [0, 1, 2] rfl)

def fShr1 (am se : Int32) (j : Nat) (σ : SG) : SG := up σ 1 j (σ 1 j + fPart am se (nI j - 1))
def fShare (am se : Int32) (σ : SG) : SG := itr (fShr1 am se) 0 5 σ
theorem hI_1 (j : Nat) : (nI j - 1) + Int32.ofInt 1 = nI (j + 1) - 1 := by
  rw [nI_succ]
  show nI j - 1 + 1 = nI j + 1 - 1
  rw [Int32.sub_add_cancel, Int32.add_sub_cancel]
theorem hI_e (j : Nat) : (nI j - 1) + 1 = nI j := Int32.sub_add_cancel _ _
theorem hI_ge {j : Nat} (hj : j ≤ 5) (h : (4 : Int32) ≤ nI j - 1) : j = 5 := (by decide : ∀ j, j ≤ 5 → (4 : Int32) ≤ nI j - 1 → j = 5) j hj h
theorem hI_lt {j : Nat} (hj : j ≤ 5) (h : ¬ (4 : Int32) ≤ nI j - 1) : j < 5 := (by decide : ∀ j, j ≤ 5 → ¬ (4 : Int32) ≤ nI j - 1 → j < 5) j hj h
set_option maxHeartbeats 4000000 in
set_option maxRecDepth 100000 in
theorem kX5_shareOut (l : Launch) (G : GE) (A : Nat → Prop) (ad : Nat → Nat → Nat) (σ : SG) (qs : Nat → List Nat) (nT nW : Nat) (am se : Int32) : KM l G A yX5_shareOut cX5_shareOut 4 none (rmL 3 0 0) [.ref (ad 0 0), .int am, .int se] (PX G A ad σ qs nT nW) (fun v H => v = none ∧ PX G A ad (fShare am se σ) qs nT nW H) (fun _ _ => False) := by
  refine KM.of (by decide) (Nat.le_of_ble_eq_true rfl) ?_
  intro p e s m args below meth c F hP ls hl
  have hx := F.1.1
  have hb := F.1.2.1
  have hown := F.1.2.2.2.1
  have hts := F.1.2.2.2.2
  have hr := F.2.1
  have hlocks := F.2.2.1
  have hE := F.2.2.2.2.2.1
  have hA := F.2.2.2.2.2.2
  have hS : va_S A s.heap s.heap [] := va_S.rf
  have hl : lv_has ls 4 [(0, .ref (ad 0 0)), (1, .int am), (2, .int se)] := hl
  have hP := hP
  refine lv_iconst (v := (-1)) hx hb dX5_shareOut_0 (by decide) ?_
  refine W.eq (g2 := F0 m 1 ls [.int (nI 0 - 1)]) (congrArg (fun z => F0 m 1 ls [.int z]) (by decide)) ?_
  refine lv_istore_n (lv' := [(3, .int (nI 0 - 1)), (0, .ref (ad 0 0)), (1, .int am), (2, .int se)]) hx hb dX5_shareOut_1 rfl hl (by decide) rfl (fun ls hl => ?_)
  have L2 : ∀ (n9 : Nat) (σ1 : SG) (i : Nat) (h1 : i ≤ 5) (h2 : 5 < i + n9) (hT : itr (fShr1 am se) i (5 - i) σ1 = fShare am se σ) (H : Heap) (locs : List Loc) (ls : Array Slot), va_S A s.heap H locs → PX G A ad σ1 qs nT nW H → lv_has ls 4 [(3, .int (nI i - 1)), (0, .ref (ad 0 0)), (1, .int am), (2, .int se)] → W p l e (rmL 3 0 0) s m args below meth c H locs 0 0 (KE below A (fun v H => v = none ∧ PX G A ad (fShare am se σ) qs nT nW H) (fun _ _ => False) args s (rmL 3 0 0)) (F0 m 2 ls []) := by
    intro n9
    induction n9 with
    | zero =>
      intro σ1 i h1 h2 hT H locs ls hS hP hl
      exact absurd True.intro (by omega)
    | succ n9 ih2 =>
      intro σ1 i h1 h2 hT H locs ls hS hP hl
      refine lv_iload_n hx hb dX5_shareOut_2 rfl (lv_at hl 0 rfl) ?_
      refine lv_iconst (v := 4) hx hb dX5_shareOut_3 (by decide) ?_
      refine lv_icmp_ge (tgt := 32) hx hb dX5_shareOut_4 (by decide) (fun c_4_1 => ?_) (fun c_4_1 => ?_)
      · obtain rfl := hI_ge h1 c_4_1
        exact kvret hx hb hr hlocks hS (by decide) (by decide) dX5_shareOut_32 (⟨rfl, by rw [← hT, itr_end]; exact hP⟩)
      · have hi := hI_lt h1 c_4_1
        refine lv_aload_n hx hb dX5_shareOut_7 rfl (lv_at hl 1 rfl) ?_
        refine lv_iload_n hx hb dX5_shareOut_8 rfl (lv_at hl 0 rfl) ?_
        refine kcallV (n := 1) F (kX5_tillAt0 l G (fun q => H.size ≤ q) A ad σ1 qs nT nW (nI i - 1) i hi (hI_e i)) wML_X5_42 wIM_X5_tillAt wSE_X5_X5_tillAt wIN_X5 wCO_X5_tillAt (by decide) rfl ⟨by decide, by decide⟩ (frec F (hP.main rfl) _ rfl) hS (fun q h => hA q (Nat.le_trans hS.1 h)) (fun q h => h) hP rfl hl.1 (Nat.le_of_ble_eq_true rfl) dX5_shareOut_9 ⟨by decide, by decide⟩ (fun E ce q9 H1 locs1 hx9 _ _ _ _ _ => hx9.elim) (fun v H1 locs1 hv hk hS => ?_)
        have hP := hP.old hk
        subst hv
        refine lv_dup hx hb dX5_shareOut_12 rfl ?_
        refine gX3 F (hP.till hi) 1 (by decide) wFL_X5_259 (fun _ h9 => h9) (v := .int (σ1 1 i)) rfl dX5_shareOut_13 ?_
        refine lv_iload_n hx hb dX5_shareOut_16 rfl (lv_at hl 2 rfl) ?_
        refine lv_iload_n hx hb dX5_shareOut_17 rfl (lv_at hl 3 rfl) ?_
        refine lv_iload_n hx hb dX5_shareOut_18 rfl (lv_at hl 0 rfl) ?_
        refine kcallS (n := 3) F (kX5_partOf l G (fun q => H1.size ≤ q) am se (nI i - 1)) wML_X5_343 wST_X5_partOf wIN_X5 wCO_X5_partOf (by decide) rfl ⟨by decide, by decide⟩ hS (fun q h => hA q (Nat.le_trans hS.1 h)) (fun q h => h) trivial rfl hl.1 (Nat.le_of_ble_eq_true rfl) dX5_shareOut_19 ⟨by decide, by decide⟩ (fun E ce q9 H1 locs1 hx9 _ _ _ _ _ => hx9.elim) (fun v H1 locs1 hv hk hS => ?_)
        subst hv
        have hP := hP.old hk
        refine lv_iadd hx hb dX5_shareOut_22 ?_
        refine pX3 F hS (hP.till hi) (hP.otill hi) 1 (by decide) wFL_X5_259 (fun _ h9 => h9) rfl rfl rfl (by simp) dX5_shareOut_23 (fun H1 locs1 he1 z1 oq1 hS => ?_)
        have hP := hP.p1 hi he1 oq1
        refine lv_iinc (v := (nI (i + 1) - 1)) (lv' := [(3, .int (nI (i + 1) - 1)), (0, .ref (ad 0 0)), (1, .int am), (2, .int se)]) hx hb dX5_shareOut_26 hl (k := 0) rfl (hI_1 i) (by decide) rfl (fun ls hl => ?_)
        refine lv_goto (tgt := 2) hx hb dX5_shareOut_29 (by decide) ?_
        exact ih2 (up σ1 1 i ((σ1 1 i) + (fPart am se (nI i - 1)))) (i + 1) (by omega) (by omega) (by rw [itr_step hi] at hT; exact hT) _ _ _ hS hP (lv_sub hl [0, 1, 2, 3] rfl)
  exact L2 6 σ 0 (by omega) (by omega) rfl _ _ _ hS hP (lv_sub hl [0, 1, 2, 3] rfl)

def fBr1 (σ : SG) (hh : Int32) (i : Nat) (x : Int32) : Int32 := if σ 14 i = 0 then x + fPart (σ 13 i) (σ 15 i) hh else x
def fBrT (σ : SG) (hh : Int32) (f : Nat) : Int32 := itr (fBr1 σ hh) 0 f 0
set_option maxHeartbeats 4000000 in
set_option maxRecDepth 100000 in
theorem kX5_broughtByTickets (l : Launch) (G : GE) (A1 A : Nat → Prop) (ad : Nat → Nat → Nat) (σ : SG) (qs : Nat → List Nat) (nT nW : Nat) (hh : Int32) (f : Nat) (hf : σ 26 0 = nI f) (hfn : f ≤ nT) (hnT : nT ≤ 80) : KM l G A1 yX5_broughtByTickets cX5_broughtByTickets 5 (some .int) (rmL 4 0 0) [.ref (ad 0 0), .int hh] (PX G A ad σ qs nT nW) (fun v _ => v = some (.int (fBrT σ hh f))) (fun _ _ => False) := by
  refine KM.of (by decide) (Nat.le_of_ble_eq_true rfl) ?_
  intro p e s m args below meth c F hP ls hl
  have hx := F.1.1
  have hb := F.1.2.1
  have hown := F.1.2.2.2.1
  have hts := F.1.2.2.2.2
  have hr := F.2.1
  have hlocks := F.2.2.1
  have hE := F.2.2.2.2.2.1
  have hA := F.2.2.2.2.2.2
  have hS : va_S A1 s.heap s.heap [] := va_S.rf
  have hl : lv_has ls 5 [(0, .ref (ad 0 0)), (1, .int hh)] := hl
  have hP := hP
  refine lv_iconst (v := 0) hx hb dX5_broughtByTickets_0 (by decide) ?_
  refine lv_istore_n (lv' := [(2, .int 0), (0, .ref (ad 0 0)), (1, .int hh)]) hx hb dX5_broughtByTickets_1 rfl hl (by decide) rfl (fun ls hl => ?_)
  refine lv_iconst (v := 0) hx hb dX5_broughtByTickets_2 (by decide) ?_
  refine lv_istore_n (lv' := [(3, .int 0), (2, .int 0), (0, .ref (ad 0 0)), (1, .int hh)]) hx hb dX5_broughtByTickets_3 rfl hl (by decide) rfl (fun ls hl => ?_)
  have L4 : ∀ (n9 : Nat) (x1 : Int32) (i : Nat) (h1 : i ≤ f) (h2 : f < i + n9) (hT : itr (fBr1 σ hh) i (f - i) x1 = fBrT σ hh f) (H : Heap) (locs : List Loc) (ls : Array Slot), va_S A1 s.heap H locs → PX G A ad σ qs nT nW H → lv_has ls 5 [(3, .int (nI i)), (2, .int x1), (0, .ref (ad 0 0)), (1, .int hh)] → W p l e (rmL 4 0 0) s m args below meth c H locs 0 0 (KE below A1 (fun v _ => v = some (.int (fBrT σ hh f))) (fun _ _ => False) args s (rmL 4 0 0)) (F0 m 4 ls []) := by
    intro n9
    induction n9 with
    | zero =>
      intro x1 i h1 h2 hT H locs ls hS hP hl
      exact absurd True.intro (by omega)
    | succ n9 ih4 =>
      intro x1 i h1 h2 hT H locs ls hS hP hl
      refine lv_iload_n hx hb dX5_broughtByTickets_4 rfl (lv_at hl 0 rfl) ?_
      refine lv_aload_n hx hb dX5_broughtByTickets_5 rfl (lv_at hl 2 rfl) ?_
      refine gX5 F (hP.main rfl) 6 (by decide) wFL_X5_278 (fun _ h9 => h9) (v := .int (σ 26 0)) rfl dX5_broughtByTickets_6 ?_
      refine W.eq (g2 := F0 m 9 ls [.int (nI f), .int (nI i)]) (congrArg (fun z => F0 m 9 ls [.int z, .int (nI i)]) (hf)) ?_
      refine lv_icmp_ge (tgt := 67) hx hb dX5_broughtByTickets_9 (by decide) (fun c_9_1 => ?_) (fun c_9_1 => ?_)
      · have ei := nI_eqle (n := f) h1 (by omega) c_9_1
        refine lv_iload_n hx hb dX5_broughtByTickets_67 rfl (lv_at hl 1 rfl) ?_
        exact kiret hx hb hr hlocks hS (by decide) (by decide) dX5_broughtByTickets_68 (by rw [← hT, ei, itr_end])
      · have hi9 := nI_lt' (n := f) h1 (by omega) c_9_1
        have hi : i < nT := by omega
        refine lv_iload_n hx hb dX5_broughtByTickets_12 rfl (lv_at hl 0 rfl) ?_
        refine lv_aload_n hx hb dX5_broughtByTickets_13 rfl (lv_at hl 2 rfl) ?_
        refine gX5 F (hP.main rfl) 3 (by decide) wFL_X5_30 (fun _ h9 => h9) (v := .ref (ad 7 12)) rfl dX5_broughtByTickets_14 ?_
        refine kcallV (n := 0) F (cQ_size l G (fun q => H.size ≤ q) A ad σ qs nT nW 12 (by decide)) wML_X5_173 wIM_Jx4a65c_size_8abf5 wSE_Jx4a65c_Jx4a65c_size_8abf5 wIN_Jx4a65c wCO_Jx4a65c_size_8abf5 (by decide) rfl ⟨by decide, by decide⟩ (by obtain ⟨_, _, h⟩ := hP.lobj (i := 12) (by decide); exact frec F h _ rfl) hS (fun q h => hA q (Nat.le_trans hS.1 h)) (fun q h => h) hP rfl hl.1 (Nat.le_of_ble_eq_true rfl) dX5_broughtByTickets_17 ⟨by decide, by decide⟩ (fun E ce q9 H1 locs1 hx9 _ _ _ _ _ => hx9.elim) (fun v H1 locs1 hv hk hS => ?_)
        have hP := hP.old hk
        rw [lsX_12, List.length_map, List.length_range] at hv
        subst hv
        refine lv_icmp_ge (tgt := 67) hx hb dX5_broughtByTickets_20 (by decide) (fun c_20_2 => ?_) (fun c_20_2 => ?_)
        · exact absurd c_20_2 (nI_ge hi (by omega))
        · refine lv_aload_n hx hb dX5_broughtByTickets_23 rfl (lv_at hl 2 rfl) ?_
          refine gX5 F (hP.main rfl) 3 (by decide) wFL_X5_30 (fun _ h9 => h9) (v := .ref (ad 7 12)) rfl dX5_broughtByTickets_24 ?_
          refine lv_iload_n hx hb dX5_broughtByTickets_27 rfl (lv_at hl 0 rfl) ?_
          refine kcallV (n := 1) F (cQ_get l G (fun q => H1.size ≤ q) A ad σ qs nT nW 12 i (ad 10 i) (by decide) (by rw [lsX_12, List.getElem?_map, List.getElem?_range hi]; rfl)) wML_X5_234 wIM_Jx4a65c_get_915e3 wSE_Jx4a65c_Jx4a65c_get_915e3 wIN_Jx4a65c wCO_Jx4a65c_get_915e3 (by decide) rfl ⟨by decide, by decide⟩ (by obtain ⟨_, _, h⟩ := hP.lobj (i := 12) (by decide); exact frec F h _ rfl) hS (fun q h => hA q (Nat.le_trans hS.1 h)) (fun q h => h) hP rfl hl.1 (Nat.le_of_ble_eq_true rfl) dX5_broughtByTickets_28 ⟨by decide, by decide⟩ (fun E ce q9 H1 locs1 hx9 _ _ _ _ _ => hx9.elim) (fun v H1 locs1 hv hk hS => ?_)
          have hP := hP.old hk
          subst hv
          refine va_castS hx hb hown (hts _ wCL_X5_96) (hE.1.1.1 4 _ rfl).2 (frec F (hP.tick hi) _ rfl) dX5_broughtByTickets_31 ?_
          refine lv_astore (lv' := [(4, .ref (ad 10 i)), (3, .int (nI i)), (2, .int x1), (0, .ref (ad 0 0)), (1, .int hh)]) hx hb dX5_broughtByTickets_34 hl (by decide) rfl (fun ls hl => ?_)
          refine lv_aload hx hb dX5_broughtByTickets_36 (lv_at hl 0 rfl) ?_
          refine gX2 F (hP.tick hi) 5 (by decide) wFL_X5_110 (fun _ h9 => h9) (v := .int (σ 14 i)) rfl dX5_broughtByTickets_38 ?_
          refine lv_if_ne (tgt := 61) hx hb dX5_broughtByTickets_41 (by decide) (fun c_41_3 => ?_) (fun c_41_3 => ?_)
          · refine lv_iinc (v := (nI (i + 1))) (lv' := [(3, .int (nI (i + 1))), (4, .ref (ad 10 i)), (2, .int x1), (0, .ref (ad 0 0)), (1, .int hh)]) hx hb dX5_broughtByTickets_61 hl (k := 1) rfl (nI_1 _) (by decide) rfl (fun ls hl => ?_)
            refine lv_goto (tgt := 4) hx hb dX5_broughtByTickets_64 (by decide) ?_
            exact ih4 x1 (i + 1) (by omega) (by omega) (by rw [itr_step hi9, (show fBr1 σ hh i x1 = x1 from if_neg c_41_3)] at hT; exact hT) _ _ _ hS hP (lv_sub hl [0, 2, 3, 4] rfl)
          · refine lv_iload_n hx hb dX5_broughtByTickets_44 rfl (lv_at hl 2 rfl) ?_
            refine lv_aload hx hb dX5_broughtByTickets_45 (lv_at hl 0 rfl) ?_
            refine gX2 F (hP.tick hi) 4 (by decide) wFL_X5_116 (fun _ h9 => h9) (v := .int (σ 13 i)) rfl dX5_broughtByTickets_47 ?_
            refine lv_aload hx hb dX5_broughtByTickets_50 (lv_at hl 0 rfl) ?_
            refine gX2 F (hP.tick hi) 6 (by decide) wFL_X5_95 (fun _ h9 => h9) (v := .int (σ 15 i)) rfl dX5_broughtByTickets_52 ?_
            refine lv_iload_n hx hb dX5_broughtByTickets_55 rfl (lv_at hl 4 rfl) ?_
            refine kcallS (n := 3) F (kX5_partOf l G (fun q => H1.size ≤ q) (σ 13 i) (σ 15 i) hh) wML_X5_343 wST_X5_partOf wIN_X5 wCO_X5_partOf (by decide) rfl ⟨by decide, by decide⟩ hS (fun q h => hA q (Nat.le_trans hS.1 h)) (fun q h => h) trivial rfl hl.1 (Nat.le_of_ble_eq_true rfl) dX5_broughtByTickets_56 ⟨by decide, by decide⟩ (fun E ce q9 H1 locs1 hx9 _ _ _ _ _ => hx9.elim) (fun v H1 locs1 hv hk hS => ?_)
            subst hv
            have hP := hP.old hk
            refine lv_iadd hx hb dX5_broughtByTickets_59 ?_
            refine lv_istore_n (lv' := [(2, .int (x1 + (fPart (σ 13 i) (σ 15 i) hh))), (4, .ref (ad 10 i)), (3, .int (nI i)), (0, .ref (ad 0 0)), (1, .int hh)]) hx hb dX5_broughtByTickets_60 rfl hl (by decide) rfl (fun ls hl => ?_)
            refine lv_iinc (v := (nI (i + 1))) (lv' := [(3, .int (nI (i + 1))), (2, .int (x1 + (fPart (σ 13 i) (σ 15 i) hh))), (4, .ref (ad 10 i)), (0, .ref (ad 0 0)), (1, .int hh)]) hx hb dX5_broughtByTickets_61 hl (k := 2) rfl (nI_1 _) (by decide) rfl (fun ls hl => ?_)
            refine lv_goto (tgt := 4) hx hb dX5_broughtByTickets_64 (by decide) ?_
            exact ih4 (x1 + (fPart (σ 13 i) (σ 15 i) hh)) (i + 1) (by omega) (by omega) (by rw [itr_step hi9, (show fBr1 σ hh i x1 = x1 + (fPart (σ 13 i) (σ 15 i) hh) from if_pos c_41_3)] at hT; exact hT) _ _ _ hS hP (lv_sub hl [0, 1, 3, 4] rfl)
  exact L4 (f + 1) 0 0 (by omega) (by omega) rfl _ _ _ hS hP (lv_sub hl [0, 1, 2, 3] rfl)

def fDw1 (σ : SG) (i : Nat) (x : Int32) : Int32 := x + fEnded (σ 8 i) (σ 9 i) (σ 25 0)
def fDw (σ : SG) : Int32 := itr (fDw1 σ) 0 6 0
/-- days without a ticket, and what was brought -/
def fBm1 (σ : SG) (hh : Int32) (i : Nat) (x : Int32 × Int32) : Int32 × Int32 := if σ 10 i = 2 ∧ σ 14 i = 0 then (x.1 + (-1), x.2 + fPart 200 (σ 15 i) hh) else x
def fBmL (σ : SG) (hh : Int32) (f : Nat) : Int32 × Int32 := itr (fBm1 σ hh) 0 f (fDw σ, 0)
def fBrM (σ : SG) (hh : Int32) (f : Nat) : Int32 := (fBmL σ hh f).2 + fPart ((fBmL σ hh f).1 * 200) 0 hh
set_option maxHeartbeats 4000000 in
set_option maxRecDepth 100000 in
theorem kX5_broughtByMemberships (l : Launch) (G : GE) (A1 A : Nat → Prop) (ad : Nat → Nat → Nat) (σ : SG) (qs : Nat → List Nat) (nT nW : Nat) (hh : Int32) (f : Nat) (hf : σ 26 0 = nI f) (hfn : f ≤ nT) (hnT : nT ≤ 80) : KM l G A1 yX5_broughtByMemberships cX5_broughtByMemberships 6 (some .int) (rmL 4 0 0) [.ref (ad 0 0), .int hh] (PX G A ad σ qs nT nW) (fun v _ => v = some (.int (fBrM σ hh f))) (fun _ _ => False) := by
  refine KM.of (by decide) (Nat.le_of_ble_eq_true rfl) ?_
  intro p e s m args below meth c F hP ls hl
  have hx := F.1.1
  have hb := F.1.2.1
  have hown := F.1.2.2.2.1
  have hts := F.1.2.2.2.2
  have hr := F.2.1
  have hlocks := F.2.2.1
  have hE := F.2.2.2.2.2.1
  have hA := F.2.2.2.2.2.2
  have hS : va_S A1 s.heap s.heap [] := va_S.rf
  have hl : lv_has ls 6 [(0, .ref (ad 0 0)), (1, .int hh)] := hl
  have hP := hP
  refine lv_iconst (v := 0) hx hb dX5_broughtByMemberships_0 (by decide) ?_
  refine lv_istore_n (lv' := [(2, .int 0), (0, .ref (ad 0 0)), (1, .int hh)]) hx hb dX5_broughtByMemberships_1 rfl hl (by decide) rfl (fun ls hl => ?_)
  refine lv_iconst (v := 0) hx hb dX5_broughtByMemberships_2 (by decide) ?_
  refine lv_istore_n (lv' := [(3, .int 0), (2, .int 0), (0, .ref (ad 0 0)), (1, .int hh)]) hx hb dX5_broughtByMemberships_3 rfl hl (by decide) rfl (fun ls hl => ?_)
  have L4 : ∀ (n9 : Nat) (x1 : Int32) (i : Nat) (h1 : i ≤ 6) (h2 : 6 < i + n9) (hT : itr (fDw1 σ) i (6 - i) x1 = fDw σ) (H : Heap) (locs : List Loc) (ls : Array Slot), va_S A1 s.heap H locs → PX G A ad σ qs nT nW H → lv_has ls 6 [(3, .int (nI i)), (2, .int x1), (0, .ref (ad 0 0)), (1, .int hh)] → W p l e (rmL 4 0 0) s m args below meth c H locs 0 0 (KE below A1 (fun v _ => v = some (.int (fBrM σ hh f))) (fun _ _ => False) args s (rmL 4 0 0)) (F0 m 4 ls []) := by
    intro n9
    induction n9 with
    | zero =>
      intro x1 i h1 h2 hT H locs ls hS hP hl
      exact absurd True.intro (by omega)
    | succ n9 ih4 =>
      intro x1 i h1 h2 hT H locs ls hS hP hl
      refine lv_iload_n hx hb dX5_broughtByMemberships_4 rfl (lv_at hl 0 rfl) ?_
      refine lv_aload_n hx hb dX5_broughtByMemberships_5 rfl (lv_at hl 2 rfl) ?_
      refine gX5 F (hP.main rfl) 2 (by decide) wFL_X5_23 (fun _ h9 => h9) (v := .ref (ad 3 0)) rfl dX5_broughtByMemberships_6 ?_
      refine xalen hx hb hE.1.1 hP.members 2 rfl dX5_broughtByMemberships_9 ?_
      refine lv_icmp_ge (tgt := 35) hx hb dX5_broughtByMemberships_10 (by decide) (fun c_10_1 => ?_) (fun c_10_1 => ?_)
      · have ei := nI_eqle (n := 6) h1 (by decide) c_10_1
        rw [ei, itr_end] at hT
        subst hT
        refine lv_iconst (v := 0) hx hb dX5_broughtByMemberships_35 (by decide) ?_
        refine lv_istore_n (lv' := [(3, .int 0), (2, .int (fDw σ)), (0, .ref (ad 0 0)), (1, .int hh)]) hx hb dX5_broughtByMemberships_36 rfl hl (by decide) rfl (fun ls hl => ?_)
        refine lv_iconst (v := 0) hx hb dX5_broughtByMemberships_37 (by decide) ?_
        refine lv_istore (lv' := [(4, .int 0), (3, .int 0), (2, .int (fDw σ)), (0, .ref (ad 0 0)), (1, .int hh)]) hx hb dX5_broughtByMemberships_38 hl (by decide) rfl (fun ls hl => ?_)
        have L40 : ∀ (n9 : Nat) (a1 b1 : Int32) (i : Nat) (h1 : i ≤ f) (h2 : f < i + n9) (hT : itr (fBm1 σ hh) i (f - i) (a1, b1) = fBmL σ hh f) (H : Heap) (locs : List Loc) (ls : Array Slot), va_S A1 s.heap H locs → PX G A ad σ qs nT nW H → lv_has ls 6 [(4, .int (nI i)), (3, .int b1), (2, .int a1), (0, .ref (ad 0 0)), (1, .int hh)] → W p l e (rmL 4 0 0) s m args below meth c H locs 0 0 (KE below A1 (fun v _ => v = some (.int (fBrM σ hh f))) (fun _ _ => False) args s (rmL 4 0 0)) (F0 m 40 ls []) := by
          intro n9
          induction n9 with
          | zero =>
            intro a1 b1 i h1 h2 hT H locs ls hS hP hl
            exact absurd True.intro (by omega)
          | succ n9 ih40 =>
            intro a1 b1 i h1 h2 hT H locs ls hS hP hl
            refine lv_iload hx hb dX5_broughtByMemberships_40 (lv_at hl 0 rfl) ?_
            refine lv_aload_n hx hb dX5_broughtByMemberships_42 rfl (lv_at hl 3 rfl) ?_
            refine gX5 F (hP.main rfl) 6 (by decide) wFL_X5_278 (fun _ h9 => h9) (v := .int (σ 26 0)) rfl dX5_broughtByMemberships_43 ?_
            refine W.eq (g2 := F0 m 46 ls [.int (nI f), .int (nI i)]) (congrArg (fun z => F0 m 46 ls [.int z, .int (nI i)]) (hf)) ?_
            refine lv_icmp_ge (tgt := 116) hx hb dX5_broughtByMemberships_46 (by decide) (fun c_46_2 => ?_) (fun c_46_2 => ?_)
            · have ei := nI_eqle (n := f) h1 (by omega) c_46_2
              refine lv_iload_n hx hb dX5_broughtByMemberships_116 rfl (lv_at hl 1 rfl) ?_
              refine lv_iload_n hx hb dX5_broughtByMemberships_117 rfl (lv_at hl 2 rfl) ?_
              refine lv_sipush (v := 200) hx hb dX5_broughtByMemberships_118 (by decide) ?_
              refine lv_imul hx hb dX5_broughtByMemberships_121 ?_
              refine lv_iconst (v := 0) hx hb dX5_broughtByMemberships_122 (by decide) ?_
              refine lv_iload_n hx hb dX5_broughtByMemberships_123 rfl (lv_at hl 4 rfl) ?_
              refine kcallS (n := 3) F (kX5_partOf l G (fun q => H.size ≤ q) (a1 * 200) 0 hh) wML_X5_343 wST_X5_partOf wIN_X5 wCO_X5_partOf (by decide) rfl ⟨by decide, by decide⟩ hS (fun q h => hA q (Nat.le_trans hS.1 h)) (fun q h => h) trivial rfl hl.1 (Nat.le_of_ble_eq_true rfl) dX5_broughtByMemberships_124 ⟨by decide, by decide⟩ (fun E ce q9 H1 locs1 hx9 _ _ _ _ _ => hx9.elim) (fun v H1 locs1 hv hk hS => ?_)
              subst hv
              have hP := hP.old hk
              refine lv_iadd hx hb dX5_broughtByMemberships_127 ?_
              exact kiret hx hb hr hlocks hS (by decide) (by decide) dX5_broughtByMemberships_128 (by rw [ei, itr_end] at hT; unfold fBrM; rw [← hT])
            · have hi9 := nI_lt' (n := f) h1 (by omega) c_46_2
              have hi : i < nT := by omega
              refine lv_iload hx hb dX5_broughtByMemberships_49 (lv_at hl 0 rfl) ?_
              refine lv_aload_n hx hb dX5_broughtByMemberships_51 rfl (lv_at hl 3 rfl) ?_
              refine gX5 F (hP.main rfl) 3 (by decide) wFL_X5_30 (fun _ h9 => h9) (v := .ref (ad 7 12)) rfl dX5_broughtByMemberships_52 ?_
              refine kcallV (n := 0) F (cQ_size l G (fun q => H.size ≤ q) A ad σ qs nT nW 12 (by decide)) wML_X5_173 wIM_Jx4a65c_size_8abf5 wSE_Jx4a65c_Jx4a65c_size_8abf5 wIN_Jx4a65c wCO_Jx4a65c_size_8abf5 (by decide) rfl ⟨by decide, by decide⟩ (by obtain ⟨_, _, h⟩ := hP.lobj (i := 12) (by decide); exact frec F h _ rfl) hS (fun q h => hA q (Nat.le_trans hS.1 h)) (fun q h => h) hP rfl hl.1 (Nat.le_of_ble_eq_true rfl) dX5_broughtByMemberships_55 ⟨by decide, by decide⟩ (fun E ce q9 H1 locs1 hx9 _ _ _ _ _ => hx9.elim) (fun v H1 locs1 hv hk hS => ?_)
              have hP := hP.old hk
              rw [lsX_12, List.length_map, List.length_range] at hv
              subst hv
              refine lv_icmp_ge (tgt := 116) hx hb dX5_broughtByMemberships_58 (by decide) (fun c_58_3 => ?_) (fun c_58_3 => ?_)
              · exact absurd c_58_3 (nI_ge hi (by omega))
              · refine lv_aload_n hx hb dX5_broughtByMemberships_61 rfl (lv_at hl 3 rfl) ?_
                refine gX5 F (hP.main rfl) 3 (by decide) wFL_X5_30 (fun _ h9 => h9) (v := .ref (ad 7 12)) rfl dX5_broughtByMemberships_62 ?_
                refine lv_iload hx hb dX5_broughtByMemberships_65 (lv_at hl 0 rfl) ?_
                refine kcallV (n := 1) F (cQ_get l G (fun q => H1.size ≤ q) A ad σ qs nT nW 12 i (ad 10 i) (by decide) (by rw [lsX_12, List.getElem?_map, List.getElem?_range hi]; rfl)) wML_X5_234 wIM_Jx4a65c_get_915e3 wSE_Jx4a65c_Jx4a65c_get_915e3 wIN_Jx4a65c wCO_Jx4a65c_get_915e3 (by decide) rfl ⟨by decide, by decide⟩ (by obtain ⟨_, _, h⟩ := hP.lobj (i := 12) (by decide); exact frec F h _ rfl) hS (fun q h => hA q (Nat.le_trans hS.1 h)) (fun q h => h) hP rfl hl.1 (Nat.le_of_ble_eq_true rfl) dX5_broughtByMemberships_67 ⟨by decide, by decide⟩ (fun E ce q9 H1 locs1 hx9 _ _ _ _ _ => hx9.elim) (fun v H1 locs1 hv hk hS => ?_)
                have hP := hP.old hk
                subst hv
                refine va_castS hx hb hown (hts _ wCL_X5_96) (hE.1.1.1 4 _ rfl).2 (frec F (hP.tick hi) _ rfl) dX5_broughtByMemberships_70 ?_
                refine lv_astore (lv' := [(5, .ref (ad 10 i)), (4, .int (nI i)), (3, .int b1), (2, .int a1), (0, .ref (ad 0 0)), (1, .int hh)]) hx hb dX5_broughtByMemberships_73 hl (by decide) rfl (fun ls hl => ?_)
                refine lv_aload hx hb dX5_broughtByMemberships_75 (lv_at hl 0 rfl) ?_
                refine gX2 F (hP.tick hi) 1 (by decide) wFL_X5_355 (fun _ h9 => h9) (v := .int (σ 10 i)) rfl dX5_broughtByMemberships_77 ?_
                refine lv_iconst (v := 2) hx hb dX5_broughtByMemberships_80 (by decide) ?_
                refine lv_icmp_ne (tgt := 110) hx hb dX5_broughtByMemberships_81 (by decide) (fun c_81_4 => ?_) (fun c_81_4 => ?_)
                · refine lv_iinc (v := (nI (i + 1))) (lv' := [(4, .int (nI (i + 1))), (5, .ref (ad 10 i)), (3, .int b1), (2, .int a1), (0, .ref (ad 0 0)), (1, .int hh)]) hx hb dX5_broughtByMemberships_110 hl (k := 1) rfl (nI_1 _) (by decide) rfl (fun ls hl => ?_)
                  refine lv_goto (tgt := 40) hx hb dX5_broughtByMemberships_113 (by decide) ?_
                  exact ih40 a1 b1 (i + 1) (by omega) (by omega) (by rw [itr_step hi9, (show fBm1 σ hh i (a1, b1) = (a1, b1) from if_neg (fun z => c_81_4 z.1))] at hT; exact hT) _ _ _ hS hP (lv_sub hl [0, 2, 3, 4, 5] rfl)
                · refine lv_aload hx hb dX5_broughtByMemberships_84 (lv_at hl 0 rfl) ?_
                  refine gX2 F (hP.tick hi) 5 (by decide) wFL_X5_110 (fun _ h9 => h9) (v := .int (σ 14 i)) rfl dX5_broughtByMemberships_86 ?_
                  refine lv_if_ne (tgt := 110) hx hb dX5_broughtByMemberships_89 (by decide) (fun c_89_5 => ?_) (fun c_89_5 => ?_)
                  · refine lv_iinc (v := (nI (i + 1))) (lv' := [(4, .int (nI (i + 1))), (5, .ref (ad 10 i)), (3, .int b1), (2, .int a1), (0, .ref (ad 0 0)), (1, .int hh)]) hx hb dX5_broughtByMemberships_110 hl (k := 1) rfl (nI_1 _) (by decide) rfl (fun ls hl => ?_)
                    refine lv_goto (tgt := 40) hx hb dX5_broughtByMemberships_113 (by decide) ?_
                    exact ih40 a1 b1 (i + 1) (by omega) (by omega) (by rw [itr_step hi9, (show fBm1 σ hh i (a1, b1) = (a1, b1) from if_neg (fun z => c_89_5 z.2))] at hT; exact hT) _ _ _ hS hP (lv_sub hl [0, 2, 3, 4, 5] rfl)
                  · refine lv_iinc (v := (a1 + (-1))) (lv' := [(2, .int (a1 + (-1))), (5, .ref (ad 10 i)), (4, .int (nI i)), (3, .int b1), (0, .ref (ad 0 0)), (1, .int hh)]) hx hb dX5_broughtByMemberships_92 hl (k := 3) rfl rfl (by decide) rfl (fun ls hl => ?_)
                    refine lv_iload_n hx hb dX5_broughtByMemberships_95 rfl (lv_at hl 3 rfl) ?_
                    refine lv_sipush (v := 200) hx hb dX5_broughtByMemberships_96 (by decide) ?_
                    refine lv_aload hx hb dX5_broughtByMemberships_99 (lv_at hl 1 rfl) ?_
                    refine gX2 F (hP.tick hi) 6 (by decide) wFL_X5_95 (fun _ h9 => h9) (v := .int (σ 15 i)) rfl dX5_broughtByMemberships_101 ?_
                    refine lv_iload_n hx hb dX5_broughtByMemberships_104 rfl (lv_at hl 5 rfl) ?_
                    refine kcallS (n := 3) F (kX5_partOf l G (fun q => H1.size ≤ q) 200 (σ 15 i) hh) wML_X5_343 wST_X5_partOf wIN_X5 wCO_X5_partOf (by decide) rfl ⟨by decide, by decide⟩ hS (fun q h => hA q (Nat.le_trans hS.1 h)) (fun q h => h) trivial rfl hl.1 (Nat.le_of_ble_eq_true rfl) dX5_broughtByMemberships_105 ⟨by decide, by decide⟩ (fun E ce q9 H1 locs1 hx9 _ _ _ _ _ => hx9.elim) (fun v H1 locs1 hv hk hS => ?_)
                    subst hv
                    have hP := hP.old hk
                    refine lv_iadd hx hb dX5_broughtByMemberships_108 ?_
                    refine lv_istore_n (lv' := [(3, .int (b1 + (fPart 200 (σ 15 i) hh))), (2, .int (a1 + (-1))), (5, .ref (ad 10 i)), (4, .int (nI i)), (0, .ref (ad 0 0)), (1, .int hh)]) hx hb dX5_broughtByMemberships_109 rfl hl (by decide) rfl (fun ls hl => ?_)
                    refine lv_iinc (v := (nI (i + 1))) (lv' := [(4, .int (nI (i + 1))), (3, .int (b1 + (fPart 200 (σ 15 i) hh))), (2, .int (a1 + (-1))), (5, .ref (ad 10 i)), (0, .ref (ad 0 0)), (1, .int hh)]) hx hb dX5_broughtByMemberships_110 hl (k := 3) rfl (nI_1 _) (by decide) rfl (fun ls hl => ?_)
                    refine lv_goto (tgt := 40) hx hb dX5_broughtByMemberships_113 (by decide) ?_
                    exact ih40 (a1 + (-1)) (b1 + (fPart 200 (σ 15 i) hh)) (i + 1) (by omega) (by omega) (by rw [itr_step hi9, (show fBm1 σ hh i (a1, b1) = (a1 + (-1), b1 + (fPart 200 (σ 15 i) hh)) from if_pos ⟨c_81_4, c_89_5⟩)] at hT; exact hT) _ _ _ hS hP (lv_sub hl [0, 1, 2, 4, 5] rfl)
        exact L40 (f + 1) (fDw σ) 0 0 (by omega) (by omega) rfl _ _ _ hS hP (lv_sub hl [0, 1, 2, 3, 4] rfl)
      · have hi := nI_lt' (n := 6) h1 (by decide) c_10_1
        refine lv_iload_n hx hb dX5_broughtByMemberships_13 rfl (lv_at hl 1 rfl) ?_
        refine lv_aload_n hx hb dX5_broughtByMemberships_14 rfl (lv_at hl 2 rfl) ?_
        refine gX5 F (hP.main rfl) 2 (by decide) wFL_X5_23 (fun _ h9 => h9) (v := .ref (ad 3 0)) rfl dX5_broughtByMemberships_15 ?_
        refine lv_iload_n hx hb dX5_broughtByMemberships_18 rfl (lv_at hl 0 rfl) ?_
        refine xaald hx hb hE.1.1 hP.members 2 rfl rfl hi (by decide) (rfs_at hi) dX5_broughtByMemberships_19 ?_
        refine lv_aload_n hx hb dX5_broughtByMemberships_20 rfl (lv_at hl 2 rfl) ?_
        refine gX5 F (hP.main rfl) 5 (by decide) wFL_X5_65 (fun _ h9 => h9) (v := .int (σ 25 0)) rfl dX5_broughtByMemberships_21 ?_
        refine kcallV (n := 1) F (kX0_daysEnded l G (fun q => H.size ≤ q) A ad σ qs nT nW i hi (σ 25 0)) wML_X5_352 wIM_X0_daysEnded wSE_X0_X0_daysEnded wIN_X0 wCO_X0_daysEnded (by decide) rfl ⟨by decide, by decide⟩ (frec F (hP.member hi) _ rfl) hS (fun q h => hA q (Nat.le_trans hS.1 h)) (fun q h => h) hP rfl hl.1 (Nat.le_of_ble_eq_true rfl) dX5_broughtByMemberships_24 ⟨by decide, by decide⟩ (fun E ce q9 H1 locs1 hx9 _ _ _ _ _ => hx9.elim) (fun v H1 locs1 hv hk hS => ?_)
        have hP := hP.old hk
        subst hv
        refine lv_iadd hx hb dX5_broughtByMemberships_27 ?_
        refine lv_istore_n (lv' := [(2, .int (x1 + (fEnded (σ 8 i) (σ 9 i) (σ 25 0)))), (3, .int (nI i)), (0, .ref (ad 0 0)), (1, .int hh)]) hx hb dX5_broughtByMemberships_28 rfl hl (by decide) rfl (fun ls hl => ?_)
        refine lv_iinc (v := (nI (i + 1))) (lv' := [(3, .int (nI (i + 1))), (2, .int (x1 + (fEnded (σ 8 i) (σ 9 i) (σ 25 0)))), (0, .ref (ad 0 0)), (1, .int hh)]) hx hb dX5_broughtByMemberships_29 hl (k := 1) rfl (nI_1 _) (by decide) rfl (fun ls hl => ?_)
        refine lv_goto (tgt := 4) hx hb dX5_broughtByMemberships_32 (by decide) ?_
        exact ih4 (x1 + fEnded (σ 8 i) (σ 9 i) (σ 25 0)) (i + 1) (by omega) (by omega) (by rw [itr_step hi] at hT; exact hT) _ _ _ hS hP (lv_sub hl [0, 1, 2, 3] rfl)
  exact L4 7 0 0 (by omega) (by omega) rfl _ _ _ hS hP (lv_sub hl [0, 1, 2, 3] rfl)

