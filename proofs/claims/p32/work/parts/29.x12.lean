def fOwn (σ : SG) (u : Nat) (hh vv : Int32) : Int32 := if σ 18 u = hh then 0 else vv * σ 23 u / 100
def fTax (gb : Bool) (vv : Int32) : Int32 := if gb then vv / 4 else 0
def fDays (nT : Nat) : Nat → Nat → SG → SG
  | _, 0, σ => σ
  | f, n + 1, σ => fDays nT nT n (fEnd f nT σ)
def eQ (qs : Nat → List Nat) : Nat → List Nat := fun j => if j < 12 then [] else qs j
theorem eQ_eQ (qs : Nat → List Nat) : eQ (eQ qs) = eQ qs := funext fun j => by
  unfold eQ
  split <;> rfl
theorem fEnd_26 {f nT : Nat} {σ : SG} : fEnd f nT σ 26 0 = nI nT := by simp [fEnd, fEnd2, up]
theorem i32_1 {x : Int32} (h : ¬ x < 1) : ¬ x < 0 := by
  intro z
  apply h
  have a := Int32.lt_iff_toInt_lt.mp z
  apply Int32.lt_iff_toInt_lt.mpr
  have c : (1 : Int32).toInt = 1 := by decide
  have d : (0 : Int32).toInt = 0 := by decide
  omega
/-- tickets' and memberships' money that is not yet spent -/
def fHT1 (σ : SG) (i : Nat) (x : Int32) : Int32 := if σ 14 i = 0 then x + σ 13 i else x + 0
def fHM1 (σ : SG) (i : Nat) (x : Int32) : Int32 := x + fLeft (σ 9 i) (σ 25 0) * 200
def fHT (σ : SG) (f nT : Nat) : Int32 := itr (fHT1 σ) f (nT - f) 0
def fHeld (σ : SG) (f nT : Nat) : Int32 := itr (fHM1 σ) 0 6 (fHT σ f nT)
set_option maxHeartbeats 4000000 in
set_option maxRecDepth 100000 in
theorem kP_sell (l : Launch) (G : GE) (A : Nat → Prop) (ad : Nat → Nat → Nat) (σ : SG) (qs : Nat → List Nat) (nT nW : Nat) (hl9 : l.stackTraces = false) (vh vw vv : Int32) (hnW : nW ≤ 12) (hW0 : WFw σ nW) : KM l G A yX5_sell cX5_sell 6 (some .int) (rmL 6 4 24) [.ref (ad 0 0), .int vh, .int vw, .int vv] (PX G A ad σ qs nT nW) (fun v H => ∃ g9 u b9, g9 < 4 ∧ vh = nI g9 ∧ u < nW ∧ vw = nI u ∧ (¬ vv < 1 ∧ vv ≤ 100000) ∧ b9 < 4 ∧ σ 18 u = nI b9 ∧ v = some (.int (vv - (fOwn σ u (nI g9) vv))) ∧ PX G A ad (up (fBook (fBook σ 3 (b9 + 1) (fOwn σ u (nI g9) vv)) 3 (g9 + 1) (vv - (fOwn σ u (nI g9) vv))) 27 0 (σ 27 0 + vv)) qs nT nW H) (fun E H => PX G A ad σ qs nT nW H ∧ ((E = xIO ∧ ¬ (∃ j, j < 4 ∧ vh = nI j)) ∨ (E = xIO ∧ (∃ j, j < 4 ∧ vh = nI j) ∧ ¬ (∃ j, j < nW ∧ vw = nI j)) ∨ (E = xIA ∧ (∃ j, j < 4 ∧ vh = nI j) ∧ (∃ j, j < nW ∧ vw = nI j) ∧ (vv < 1 ∨ ¬ vv ≤ 100000)))) := by
  refine KM.of (by decide) (Nat.le_of_ble_eq_true rfl) ?_
  intro p e s m args below meth c F hP ls hl
  have hx := F.1.1
  have hb := F.1.2.1
  have hown := F.1.2.2.2.1
  have hts := F.1.2.2.2.2
  have hr := F.2.1
  have hlocks := F.2.2.1
  have hE := F.2.2.2.2.2.1
  have hA := F.2.2.2.2.2.2
  have hS : va_S A s.heap s.heap [] := va_S.rf
  have hl : lv_has ls 6 [(0, .ref (ad 0 0)), (1, .int vh), (2, .int vw), (3, .int vv)] := hl
  have hP := hP
  refine lv_iload_n hx hb dX5_sell_0 rfl (lv_at hl 1 rfl) ?_
  refine kcallS (n := 1) F (kX5_checkRealHouse l G (fun q => s.heap.size ≤ q) hl9 vh) wML_X5_213 wST_X5_checkRealHouse wIN_X5 wCO_X5_checkRealHouse (by decide) rfl ⟨by decide, by decide⟩ hS (fun q h => hA q (Nat.le_trans hS.1 h)) (fun q h => h) trivial rfl hl.1 (Nat.le_of_ble_eq_true rfl) dX5_sell_1 ⟨by decide, by decide⟩ (fun E ce q9 H1 locs1 hx9 hk9 hS hc9 hv9 hf9 => kout (G := G) F.2.2.2.2.1 hlocks hS (by decide) (by decide) hc9 hv9 hf9 (⟨hP.old hk9, Or.inl (⟨hx9.1, hx9.2⟩)⟩)) (fun v H1 locs1 hv hk hS => ?_)
  obtain ⟨rfl, g9, hg9, rfl⟩ := hv
  have hP := hP.old hk
  refine lv_aload_n hx hb dX5_sell_4 rfl (lv_at hl 0 rfl) ?_
  refine lv_iload_n hx hb dX5_sell_5 rfl (lv_at hl 2 rfl) ?_
  refine kcallV (n := 1) F (kX5_workAt l G (fun q => H1.size ≤ q) A ad σ qs nT nW hl9 vw hnW) wML_X5_189 wIM_X5_workAt wSE_X5_X5_workAt wIN_X5 wCO_X5_workAt (by decide) rfl ⟨by decide, by decide⟩ (frec F (hP.main rfl) _ rfl) hS (fun q h => hA q (Nat.le_trans hS.1 h)) (fun q h => h) hP rfl hl.1 (Nat.le_of_ble_eq_true rfl) dX5_sell_6 ⟨by decide, by decide⟩ (fun E ce q9 H1 locs1 hx9 hk9 hS hc9 hv9 hf9 => kout (G := G) F.2.2.2.2.1 hlocks hS (by decide) (by decide) hc9 hv9 hf9 (⟨hP.old hk9, Or.inr (Or.inl (⟨hx9.1, ⟨⟨g9, hg9, rfl⟩, hx9.2⟩⟩))⟩)) (fun v H1 locs1 hv hk hS => ?_)
  have hP := hP.old hk
  obtain ⟨u, hu, rfl, rfl⟩ := hv
  refine lv_astore (lv' := [(4, .ref (ad 9 u)), (0, .ref (ad 0 0)), (1, .int (nI g9)), (2, .int (nI u)), (3, .int vv)]) hx hb dX5_sell_9 hl (by decide) rfl (fun ls hl => ?_)
  refine lv_iload_n hx hb dX5_sell_11 rfl (lv_at hl 4 rfl) ?_
  refine lv_iconst (v := 1) hx hb dX5_sell_12 (by decide) ?_
  refine lv_ldc (v := 100000) hx hb hown (hts _ wCN_X5_216) dX5_sell_13 ?_
  refine kcallS (n := 3) F (kX5_checkRange l G (fun q => H1.size ≤ q) hl9 vv 1 100000) wML_X5_46 wST_X5_checkRange wIN_X5 wCO_X5_checkRange (by decide) rfl ⟨by decide, by decide⟩ hS (fun q h => hA q (Nat.le_trans hS.1 h)) (fun q h => h) trivial rfl hl.1 (Nat.le_of_ble_eq_true rfl) dX5_sell_15 ⟨by decide, by decide⟩ (fun E ce q9 H1 locs1 hx9 hk9 hS hc9 hv9 hf9 => kout (G := G) F.2.2.2.2.1 hlocks hS (by decide) (by decide) hc9 hv9 hf9 (⟨hP.old hk9, Or.inr (Or.inr (⟨hx9.1, ⟨⟨g9, hg9, rfl⟩, ⟨u, hu, rfl⟩, hx9.2⟩⟩))⟩)) (fun v H1 locs1 hv hk hS => ?_)
  obtain ⟨rfl, h1, h2⟩ := hv
  have hP := hP.old hk
  refine lv_aload hx hb dX5_sell_18 (lv_at hl 0 rfl) ?_
  refine gX4 F (hP.work hu) 1 (by decide) wFL_X5_199 (fun _ h9 => h9) (v := .int (σ 18 u)) rfl dX5_sell_20 ?_
  refine lv_iload_n hx hb dX5_sell_23 rfl (lv_at hl 2 rfl) ?_
  refine lv_icmp_ne (tgt := 31) hx hb dX5_sell_24 (by decide) (fun c_24_1 => ?_) (fun c_24_1 => ?_)
  · refine lv_iload_n hx hb dX5_sell_31 rfl (lv_at hl 4 rfl) ?_
    refine lv_aload hx hb dX5_sell_32 (lv_at hl 0 rfl) ?_
    refine gX4 F (hP.work hu) 6 (by decide) wFL_X5_210 (fun _ h9 => h9) (v := .int (σ 23 u)) rfl dX5_sell_34 ?_
    refine lv_imul hx hb dX5_sell_37 ?_
    refine lv_bipush (v := 100) hx hb dX5_sell_38 (by decide) ?_
    refine lv_idiv hx hb dX5_sell_40 (by decide) ?_
    refine W.eq (g2 := F0 m 41 ls [.int (fOwn σ u (nI g9) vv)]) (congrArg (fun z => F0 m 41 ls [.int z]) (by simp [fOwn, c_24_1])) ?_
    obtain ⟨b9, hb9, eb9⟩ := hW0 u hu
    refine lv_istore (lv' := [(5, .int (fOwn σ u (nI g9) vv)), (4, .ref (ad 9 u)), (0, .ref (ad 0 0)), (1, .int (nI g9)), (2, .int (nI u)), (3, .int vv)]) hx hb dX5_sell_41 hl (by decide) rfl (fun ls hl => ?_)
    refine lv_aload_n hx hb dX5_sell_43 rfl (lv_at hl 2 rfl) ?_
    refine lv_aload hx hb dX5_sell_44 (lv_at hl 1 rfl) ?_
    refine gX4 F (hP.work hu) 1 (by decide) wFL_X5_199 (fun _ h9 => h9) (v := .int (σ 18 u)) rfl dX5_sell_46 ?_
    refine kcallV (n := 1) F (kX5_tillAt0 l G (fun q => H1.size ≤ q) A ad σ qs nT nW (σ 18 u) (b9 + 1) (by omega) (by rw [eb9]; exact nI_1 _)) wML_X5_42 wIM_X5_tillAt wSE_X5_X5_tillAt wIN_X5 wCO_X5_tillAt (by decide) rfl ⟨by decide, by decide⟩ (frec F (hP.main rfl) _ rfl) hS (fun q h => hA q (Nat.le_trans hS.1 h)) (fun q h => h) hP rfl hl.1 (Nat.le_of_ble_eq_true rfl) dX5_sell_49 ⟨by decide, by decide⟩ (fun E ce q9 H1 locs1 hx9 _ _ _ _ _ => hx9.elim) (fun v H1 locs1 hv hk hS => ?_)
    have hP := hP.old hk
    subst hv
    refine lv_iload hx hb dX5_sell_52 (lv_at hl 0 rfl) ?_
    refine kcallV (n := 1) F (kX3_bookSale l G A ad σ qs nT nW (b9 + 1) (by omega) (fOwn σ u (nI g9) vv)) wML_X5_217 wIM_X3_bookSale wSE_X3_X3_bookSale wIN_X3 wCO_X3_bookSale (by decide) rfl ⟨by decide, by decide⟩ (frec F (hP.till (by omega)) _ rfl) hS (fun _ h => h) (fun q h => hA q (Nat.le_trans hS.1 h)) hP rfl hl.1 (Nat.le_of_ble_eq_true rfl) dX5_sell_54 ⟨by decide, by decide⟩ (fun E ce q9 H1 locs1 hx9 _ _ _ _ _ => hx9.elim) (fun v H1 locs1 hv hk hS => ?_)
    obtain ⟨rfl, hP⟩ := hv
    have hP : PX G A ad (fBook σ 3 (b9 + 1) (fOwn σ u (nI g9) vv)) qs nT nW H1 := hP
    refine lv_aload_n hx hb dX5_sell_57 rfl (lv_at hl 2 rfl) ?_
    refine lv_iload_n hx hb dX5_sell_58 rfl (lv_at hl 3 rfl) ?_
    refine kcallV (n := 1) F (kX5_tillAt0 l G (fun q => H1.size ≤ q) A ad (fBook σ 3 (b9 + 1) (fOwn σ u (nI g9) vv)) qs nT nW (nI g9) (g9 + 1) (by omega) (nI_1 _)) wML_X5_42 wIM_X5_tillAt wSE_X5_X5_tillAt wIN_X5 wCO_X5_tillAt (by decide) rfl ⟨by decide, by decide⟩ (frec F (hP.main rfl) _ rfl) hS (fun q h => hA q (Nat.le_trans hS.1 h)) (fun q h => h) hP rfl hl.1 (Nat.le_of_ble_eq_true rfl) dX5_sell_59 ⟨by decide, by decide⟩ (fun E ce q9 H1 locs1 hx9 _ _ _ _ _ => hx9.elim) (fun v H1 locs1 hv hk hS => ?_)
    have hP := hP.old hk
    subst hv
    refine lv_iload_n hx hb dX5_sell_62 rfl (lv_at hl 5 rfl) ?_
    refine lv_iload hx hb dX5_sell_63 (lv_at hl 0 rfl) ?_
    refine lv_isub hx hb dX5_sell_65 ?_
    refine kcallV (n := 1) F (kX3_bookSale l G A ad (fBook σ 3 (b9 + 1) (fOwn σ u (nI g9) vv)) qs nT nW (g9 + 1) (by omega) (vv - (fOwn σ u (nI g9) vv))) wML_X5_217 wIM_X3_bookSale wSE_X3_X3_bookSale wIN_X3 wCO_X3_bookSale (by decide) rfl ⟨by decide, by decide⟩ (frec F (hP.till (by omega)) _ rfl) hS (fun _ h => h) (fun q h => hA q (Nat.le_trans hS.1 h)) hP rfl hl.1 (Nat.le_of_ble_eq_true rfl) dX5_sell_66 ⟨by decide, by decide⟩ (fun E ce q9 H1 locs1 hx9 _ _ _ _ _ => hx9.elim) (fun v H1 locs1 hv hk hS => ?_)
    obtain ⟨rfl, hP⟩ := hv
    have hP : PX G A ad (fBook (fBook σ 3 (b9 + 1) (fOwn σ u (nI g9) vv)) 3 (g9 + 1) (vv - (fOwn σ u (nI g9) vv))) qs nT nW H1 := hP
    refine lv_aload_n hx hb dX5_sell_69 rfl (lv_at hl 2 rfl) ?_
    refine lv_dup hx hb dX5_sell_70 rfl ?_
    refine gX5 F (hP.main rfl) 7 (by decide) wFL_X5_113 (fun _ h9 => h9) (v := .int (σ 27 0)) rfl dX5_sell_71 ?_
    refine lv_iload_n hx hb dX5_sell_74 rfl (lv_at hl 5 rfl) ?_
    refine lv_iadd hx hb dX5_sell_75 ?_
    refine pX5 F hS (hP.main rfl) (hP.omain rfl) 7 (by decide) wFL_X5_113 (fun _ h9 => h9) rfl rfl rfl (by simp) dX5_sell_76 (fun H1 locs1 he1 z1 oq1 hS => ?_)
    have hP := hP.p27 rfl he1 oq1
    refine lv_iload_n hx hb dX5_sell_79 rfl (lv_at hl 5 rfl) ?_
    refine lv_iload hx hb dX5_sell_80 (lv_at hl 0 rfl) ?_
    refine lv_isub hx hb dX5_sell_82 ?_
    exact kiret hx hb hr hlocks hS (by decide) (by decide) dX5_sell_83 (⟨g9, u, b9, hg9, rfl, hu, rfl, ⟨h1, h2⟩, hb9, eb9, rfl, hP⟩)
  · refine lv_iconst (v := 0) hx hb dX5_sell_27 (by decide) ?_
    refine lv_goto (tgt := 41) hx hb dX5_sell_28 (by decide) ?_
    refine W.eq (g2 := F0 m 41 ls [.int (fOwn σ u (nI g9) vv)]) (congrArg (fun z => F0 m 41 ls [.int z]) (by simp [fOwn, c_24_1])) ?_
    obtain ⟨b9, hb9, eb9⟩ := hW0 u hu
    refine lv_istore (lv' := [(5, .int (fOwn σ u (nI g9) vv)), (4, .ref (ad 9 u)), (0, .ref (ad 0 0)), (1, .int (nI g9)), (2, .int (nI u)), (3, .int vv)]) hx hb dX5_sell_41 hl (by decide) rfl (fun ls hl => ?_)
    refine lv_aload_n hx hb dX5_sell_43 rfl (lv_at hl 2 rfl) ?_
    refine lv_aload hx hb dX5_sell_44 (lv_at hl 1 rfl) ?_
    refine gX4 F (hP.work hu) 1 (by decide) wFL_X5_199 (fun _ h9 => h9) (v := .int (σ 18 u)) rfl dX5_sell_46 ?_
    refine kcallV (n := 1) F (kX5_tillAt0 l G (fun q => H1.size ≤ q) A ad σ qs nT nW (σ 18 u) (b9 + 1) (by omega) (by rw [eb9]; exact nI_1 _)) wML_X5_42 wIM_X5_tillAt wSE_X5_X5_tillAt wIN_X5 wCO_X5_tillAt (by decide) rfl ⟨by decide, by decide⟩ (frec F (hP.main rfl) _ rfl) hS (fun q h => hA q (Nat.le_trans hS.1 h)) (fun q h => h) hP rfl hl.1 (Nat.le_of_ble_eq_true rfl) dX5_sell_49 ⟨by decide, by decide⟩ (fun E ce q9 H1 locs1 hx9 _ _ _ _ _ => hx9.elim) (fun v H1 locs1 hv hk hS => ?_)
    have hP := hP.old hk
    subst hv
    refine lv_iload hx hb dX5_sell_52 (lv_at hl 0 rfl) ?_
    refine kcallV (n := 1) F (kX3_bookSale l G A ad σ qs nT nW (b9 + 1) (by omega) (fOwn σ u (nI g9) vv)) wML_X5_217 wIM_X3_bookSale wSE_X3_X3_bookSale wIN_X3 wCO_X3_bookSale (by decide) rfl ⟨by decide, by decide⟩ (frec F (hP.till (by omega)) _ rfl) hS (fun _ h => h) (fun q h => hA q (Nat.le_trans hS.1 h)) hP rfl hl.1 (Nat.le_of_ble_eq_true rfl) dX5_sell_54 ⟨by decide, by decide⟩ (fun E ce q9 H1 locs1 hx9 _ _ _ _ _ => hx9.elim) (fun v H1 locs1 hv hk hS => ?_)
    obtain ⟨rfl, hP⟩ := hv
    have hP : PX G A ad (fBook σ 3 (b9 + 1) (fOwn σ u (nI g9) vv)) qs nT nW H1 := hP
    refine lv_aload_n hx hb dX5_sell_57 rfl (lv_at hl 2 rfl) ?_
    refine lv_iload_n hx hb dX5_sell_58 rfl (lv_at hl 3 rfl) ?_
    refine kcallV (n := 1) F (kX5_tillAt0 l G (fun q => H1.size ≤ q) A ad (fBook σ 3 (b9 + 1) (fOwn σ u (nI g9) vv)) qs nT nW (nI g9) (g9 + 1) (by omega) (nI_1 _)) wML_X5_42 wIM_X5_tillAt wSE_X5_X5_tillAt wIN_X5 wCO_X5_tillAt (by decide) rfl ⟨by decide, by decide⟩ (frec F (hP.main rfl) _ rfl) hS (fun q h => hA q (Nat.le_trans hS.1 h)) (fun q h => h) hP rfl hl.1 (Nat.le_of_ble_eq_true rfl) dX5_sell_59 ⟨by decide, by decide⟩ (fun E ce q9 H1 locs1 hx9 _ _ _ _ _ => hx9.elim) (fun v H1 locs1 hv hk hS => ?_)
    have hP := hP.old hk
    subst hv
    refine lv_iload_n hx hb dX5_sell_62 rfl (lv_at hl 5 rfl) ?_
    refine lv_iload hx hb dX5_sell_63 (lv_at hl 0 rfl) ?_
    refine lv_isub hx hb dX5_sell_65 ?_
    refine kcallV (n := 1) F (kX3_bookSale l G A ad (fBook σ 3 (b9 + 1) (fOwn σ u (nI g9) vv)) qs nT nW (g9 + 1) (by omega) (vv - (fOwn σ u (nI g9) vv))) wML_X5_217 wIM_X3_bookSale wSE_X3_X3_bookSale wIN_X3 wCO_X3_bookSale (by decide) rfl ⟨by decide, by decide⟩ (frec F (hP.till (by omega)) _ rfl) hS (fun _ h => h) (fun q h => hA q (Nat.le_trans hS.1 h)) hP rfl hl.1 (Nat.le_of_ble_eq_true rfl) dX5_sell_66 ⟨by decide, by decide⟩ (fun E ce q9 H1 locs1 hx9 _ _ _ _ _ => hx9.elim) (fun v H1 locs1 hv hk hS => ?_)
    obtain ⟨rfl, hP⟩ := hv
    have hP : PX G A ad (fBook (fBook σ 3 (b9 + 1) (fOwn σ u (nI g9) vv)) 3 (g9 + 1) (vv - (fOwn σ u (nI g9) vv))) qs nT nW H1 := hP
    refine lv_aload_n hx hb dX5_sell_69 rfl (lv_at hl 2 rfl) ?_
    refine lv_dup hx hb dX5_sell_70 rfl ?_
    refine gX5 F (hP.main rfl) 7 (by decide) wFL_X5_113 (fun _ h9 => h9) (v := .int (σ 27 0)) rfl dX5_sell_71 ?_
    refine lv_iload_n hx hb dX5_sell_74 rfl (lv_at hl 5 rfl) ?_
    refine lv_iadd hx hb dX5_sell_75 ?_
    refine pX5 F hS (hP.main rfl) (hP.omain rfl) 7 (by decide) wFL_X5_113 (fun _ h9 => h9) rfl rfl rfl (by simp) dX5_sell_76 (fun H1 locs1 he1 z1 oq1 hS => ?_)
    have hP := hP.p27 rfl he1 oq1
    refine lv_iload_n hx hb dX5_sell_79 rfl (lv_at hl 5 rfl) ?_
    refine lv_iload hx hb dX5_sell_80 (lv_at hl 0 rfl) ?_
    refine lv_isub hx hb dX5_sell_82 ?_
    exact kiret hx hb hr hlocks hS (by decide) (by decide) dX5_sell_83 (⟨g9, u, b9, hg9, rfl, hu, rfl, ⟨h1, h2⟩, hb9, eb9, rfl, hP⟩)

set_option maxHeartbeats 4000000 in
set_option maxRecDepth 100000 in
theorem kP_give (l : Launch) (G : GE) (A : Nat → Prop) (ad : Nat → Nat → Nat) (σ : SG) (qs : Nat → List Nat) (nT nW : Nat) (hl9 : l.stackTraces = false) (vh vv vm : Int32) : KM l G A yX5_give cX5_give 6 (some .int) (rmL 6 4 24) [.ref (ad 0 0), .int vh, .int vv, .int vm] (PX G A ad σ qs nT nW) (fun v H => ∃ g9 gb, g9 < 4 ∧ vh = nI g9 ∧ ((vm = -1 ∧ gb = false) ∨ (vm ≠ -1 ∧ ∃ m, m < 6 ∧ vm = nI m ∧ gb = fBel (σ 9 m) (σ 25 0))) ∧ (¬ vv < 1 ∧ vv ≤ 100000) ∧ v = some (.int (vv + fTax gb vv)) ∧ PX G A ad (up (fBook (fBook σ 4 0 (-(fTax gb vv))) 4 (g9 + 1) (vv + fTax gb vv)) 27 0 (σ 27 0 + vv)) qs nT nW H) (fun E H => PX G A ad σ qs nT nW H ∧ ((E = xIO ∧ ¬ (∃ j, j < 4 ∧ vh = nI j)) ∨ (E = xIO ∧ (∃ j, j < 4 ∧ vh = nI j) ∧ ¬ (vm = -1 ∨ ∃ j, j < 6 ∧ vm = nI j)) ∨ (E = xIA ∧ (∃ j, j < 4 ∧ vh = nI j) ∧ (vm = -1 ∨ ∃ j, j < 6 ∧ vm = nI j) ∧ (vv < 1 ∨ ¬ vv ≤ 100000)))) := by
  refine KM.of (by decide) (Nat.le_of_ble_eq_true rfl) ?_
  intro p e s m args below meth c F hP ls hl
  have hx := F.1.1
  have hb := F.1.2.1
  have hown := F.1.2.2.2.1
  have hts := F.1.2.2.2.2
  have hr := F.2.1
  have hlocks := F.2.2.1
  have hE := F.2.2.2.2.2.1
  have hA := F.2.2.2.2.2.2
  have hS : va_S A s.heap s.heap [] := va_S.rf
  have hl : lv_has ls 6 [(0, .ref (ad 0 0)), (1, .int vh), (2, .int vv), (3, .int vm)] := hl
  have hP := hP
  refine lv_iload_n hx hb dX5_give_0 rfl (lv_at hl 1 rfl) ?_
  refine kcallS (n := 1) F (kX5_checkRealHouse l G (fun q => s.heap.size ≤ q) hl9 vh) wML_X5_213 wST_X5_checkRealHouse wIN_X5 wCO_X5_checkRealHouse (by decide) rfl ⟨by decide, by decide⟩ hS (fun q h => hA q (Nat.le_trans hS.1 h)) (fun q h => h) trivial rfl hl.1 (Nat.le_of_ble_eq_true rfl) dX5_give_1 ⟨by decide, by decide⟩ (fun E ce q9 H1 locs1 hx9 hk9 hS hc9 hv9 hf9 => kout (G := G) F.2.2.2.2.1 hlocks hS (by decide) (by decide) hc9 hv9 hf9 (⟨hP.old hk9, Or.inl (⟨hx9.1, hx9.2⟩)⟩)) (fun v H1 locs1 hv hk hS => ?_)
  obtain ⟨rfl, g9, hg9, rfl⟩ := hv
  have hP := hP.old hk
  refine lv_iload_n hx hb dX5_give_4 rfl (lv_at hl 3 rfl) ?_
  refine lv_iconst (v := (-1)) hx hb dX5_give_5 (by decide) ?_
  refine lv_icmp_eq (tgt := 28) hx hb dX5_give_6 (by decide) (fun c_6_1 => ?_) (fun c_6_1 => ?_)
  · refine lv_iconst (v := 0) hx hb dX5_give_28 (by decide) ?_
    obtain ⟨gb, hgb, egb⟩ : ∃ gb : Bool, ((vm = -1 ∧ gb = false) ∨ (vm ≠ -1 ∧ ∃ m9, m9 < 6 ∧ vm = nI m9 ∧ gb = fBel (σ 9 m9) (σ 25 0))) ∧ (0 : Int32) = b2i gb := ⟨false, Or.inl ⟨c_6_1, rfl⟩, rfl⟩
    refine W.eq (g2 := F0 m 29 ls [.int (b2i gb)]) (congrArg (fun z => F0 m 29 ls [.int z]) (egb)) ?_
    refine lv_istore (lv' := [(4, .int (b2i gb)), (0, .ref (ad 0 0)), (1, .int (nI g9)), (2, .int vv), (3, .int vm)]) hx hb dX5_give_29 hl (by decide) rfl (fun ls hl => ?_)
    refine lv_iload_n hx hb dX5_give_31 rfl (lv_at hl 3 rfl) ?_
    refine lv_iconst (v := 1) hx hb dX5_give_32 (by decide) ?_
    refine lv_ldc (v := 100000) hx hb hown (hts _ wCN_X5_216) dX5_give_33 ?_
    refine kcallS (n := 3) F (kX5_checkRange l G (fun q => H1.size ≤ q) hl9 vv 1 100000) wML_X5_46 wST_X5_checkRange wIN_X5 wCO_X5_checkRange (by decide) rfl ⟨by decide, by decide⟩ hS (fun q h => hA q (Nat.le_trans hS.1 h)) (fun q h => h) trivial rfl hl.1 (Nat.le_of_ble_eq_true rfl) dX5_give_35 ⟨by decide, by decide⟩ (fun E ce q9 H1 locs1 hx9 hk9 hS hc9 hv9 hf9 => kout (G := G) F.2.2.2.2.1 hlocks hS (by decide) (by decide) hc9 hv9 hf9 (⟨hP.old hk9, Or.inr (Or.inr (⟨hx9.1, ⟨⟨g9, hg9, rfl⟩, Or.inl c_6_1, hx9.2⟩⟩))⟩)) (fun v H1 locs1 hv hk hS => ?_)
    obtain ⟨rfl, h1, h2⟩ := hv
    have hP := hP.old hk
    refine lv_iload hx hb dX5_give_38 (lv_at hl 0 rfl) ?_
    refine lv_if_eq (tgt := 49) hx hb dX5_give_40 (by decide) (fun c_40_2 => ?_) (fun c_40_2 => ?_)
    · refine lv_iconst (v := 0) hx hb dX5_give_49 (by decide) ?_
      refine W.eq (g2 := F0 m 50 ls [.int (fTax gb vv)]) (congrArg (fun z => F0 m 50 ls [.int z]) (by simp [fTax, b2i_0.mp c_40_2])) ?_
      refine lv_istore (lv' := [(5, .int (fTax gb vv)), (4, .int (b2i gb)), (0, .ref (ad 0 0)), (1, .int (nI g9)), (2, .int vv), (3, .int vm)]) hx hb dX5_give_50 hl (by decide) rfl (fun ls hl => ?_)
      refine lv_aload_n hx hb dX5_give_52 rfl (lv_at hl 2 rfl) ?_
      refine lv_iconst (v := (-1)) hx hb dX5_give_53 (by decide) ?_
      refine kcallV (n := 1) F (kX5_tillAt0 l G (fun q => H1.size ≤ q) A ad σ qs nT nW (-1) 0 (by decide) rfl) wML_X5_42 wIM_X5_tillAt wSE_X5_X5_tillAt wIN_X5 wCO_X5_tillAt (by decide) rfl ⟨by decide, by decide⟩ (frec F (hP.main rfl) _ rfl) hS (fun q h => hA q (Nat.le_trans hS.1 h)) (fun q h => h) hP rfl hl.1 (Nat.le_of_ble_eq_true rfl) dX5_give_54 ⟨by decide, by decide⟩ (fun E ce q9 H1 locs1 hx9 _ _ _ _ _ => hx9.elim) (fun v H1 locs1 hv hk hS => ?_)
      have hP := hP.old hk
      subst hv
      refine lv_iload hx hb dX5_give_57 (lv_at hl 0 rfl) ?_
      refine lv_ineg hx hb dX5_give_59 ?_
      refine kcallV (n := 1) F (kX3_bookGift l G A ad σ qs nT nW 0 (by decide) (-(fTax gb vv))) wML_X5_220 wIM_X3_bookGift wSE_X3_X3_bookGift wIN_X3 wCO_X3_bookGift (by decide) rfl ⟨by decide, by decide⟩ (frec F (hP.till (by decide)) _ rfl) hS (fun _ h => h) (fun q h => hA q (Nat.le_trans hS.1 h)) hP rfl hl.1 (Nat.le_of_ble_eq_true rfl) dX5_give_60 ⟨by decide, by decide⟩ (fun E ce q9 H1 locs1 hx9 _ _ _ _ _ => hx9.elim) (fun v H1 locs1 hv hk hS => ?_)
      obtain ⟨rfl, hP⟩ := hv
      have hP : PX G A ad (fBook σ 4 0 (-(fTax gb vv))) qs nT nW H1 := hP
      refine lv_aload_n hx hb dX5_give_63 rfl (lv_at hl 2 rfl) ?_
      refine lv_iload_n hx hb dX5_give_64 rfl (lv_at hl 3 rfl) ?_
      refine kcallV (n := 1) F (kX5_tillAt0 l G (fun q => H1.size ≤ q) A ad (fBook σ 4 0 (-(fTax gb vv))) qs nT nW (nI g9) (g9 + 1) (by omega) (nI_1 _)) wML_X5_42 wIM_X5_tillAt wSE_X5_X5_tillAt wIN_X5 wCO_X5_tillAt (by decide) rfl ⟨by decide, by decide⟩ (frec F (hP.main rfl) _ rfl) hS (fun q h => hA q (Nat.le_trans hS.1 h)) (fun q h => h) hP rfl hl.1 (Nat.le_of_ble_eq_true rfl) dX5_give_65 ⟨by decide, by decide⟩ (fun E ce q9 H1 locs1 hx9 _ _ _ _ _ => hx9.elim) (fun v H1 locs1 hv hk hS => ?_)
      have hP := hP.old hk
      subst hv
      refine lv_iload_n hx hb dX5_give_68 rfl (lv_at hl 4 rfl) ?_
      refine lv_iload hx hb dX5_give_69 (lv_at hl 0 rfl) ?_
      refine lv_iadd hx hb dX5_give_71 ?_
      refine kcallV (n := 1) F (kX3_bookGift l G A ad (fBook σ 4 0 (-(fTax gb vv))) qs nT nW (g9 + 1) (by omega) (vv + (fTax gb vv))) wML_X5_220 wIM_X3_bookGift wSE_X3_X3_bookGift wIN_X3 wCO_X3_bookGift (by decide) rfl ⟨by decide, by decide⟩ (frec F (hP.till (by omega)) _ rfl) hS (fun _ h => h) (fun q h => hA q (Nat.le_trans hS.1 h)) hP rfl hl.1 (Nat.le_of_ble_eq_true rfl) dX5_give_72 ⟨by decide, by decide⟩ (fun E ce q9 H1 locs1 hx9 _ _ _ _ _ => hx9.elim) (fun v H1 locs1 hv hk hS => ?_)
      obtain ⟨rfl, hP⟩ := hv
      have hP : PX G A ad (fBook (fBook σ 4 0 (-(fTax gb vv))) 4 (g9 + 1) (vv + (fTax gb vv))) qs nT nW H1 := hP
      refine lv_aload_n hx hb dX5_give_75 rfl (lv_at hl 2 rfl) ?_
      refine lv_dup hx hb dX5_give_76 rfl ?_
      refine gX5 F (hP.main rfl) 7 (by decide) wFL_X5_113 (fun _ h9 => h9) (v := .int (σ 27 0)) rfl dX5_give_77 ?_
      refine lv_iload_n hx hb dX5_give_80 rfl (lv_at hl 4 rfl) ?_
      refine lv_iadd hx hb dX5_give_81 ?_
      refine pX5 F hS (hP.main rfl) (hP.omain rfl) 7 (by decide) wFL_X5_113 (fun _ h9 => h9) rfl rfl rfl (by simp) dX5_give_82 (fun H1 locs1 he1 z1 oq1 hS => ?_)
      have hP := hP.p27 rfl he1 oq1
      refine lv_iload_n hx hb dX5_give_85 rfl (lv_at hl 4 rfl) ?_
      refine lv_iload hx hb dX5_give_86 (lv_at hl 0 rfl) ?_
      refine lv_iadd hx hb dX5_give_88 ?_
      exact kiret hx hb hr hlocks hS (by decide) (by decide) dX5_give_89 (⟨g9, gb, hg9, rfl, hgb, ⟨h1, h2⟩, rfl, hP⟩)
    · refine lv_iload_n hx hb dX5_give_43 rfl (lv_at hl 3 rfl) ?_
      refine lv_iconst (v := 4) hx hb dX5_give_44 (by decide) ?_
      refine lv_idiv hx hb dX5_give_45 (by decide) ?_
      refine lv_goto (tgt := 50) hx hb dX5_give_46 (by decide) ?_
      refine W.eq (g2 := F0 m 50 ls [.int (fTax gb vv)]) (congrArg (fun z => F0 m 50 ls [.int z]) (by simp [fTax, b2i_1.mp c_40_2])) ?_
      refine lv_istore (lv' := [(5, .int (fTax gb vv)), (4, .int (b2i gb)), (0, .ref (ad 0 0)), (1, .int (nI g9)), (2, .int vv), (3, .int vm)]) hx hb dX5_give_50 hl (by decide) rfl (fun ls hl => ?_)
      refine lv_aload_n hx hb dX5_give_52 rfl (lv_at hl 2 rfl) ?_
      refine lv_iconst (v := (-1)) hx hb dX5_give_53 (by decide) ?_
      refine kcallV (n := 1) F (kX5_tillAt0 l G (fun q => H1.size ≤ q) A ad σ qs nT nW (-1) 0 (by decide) rfl) wML_X5_42 wIM_X5_tillAt wSE_X5_X5_tillAt wIN_X5 wCO_X5_tillAt (by decide) rfl ⟨by decide, by decide⟩ (frec F (hP.main rfl) _ rfl) hS (fun q h => hA q (Nat.le_trans hS.1 h)) (fun q h => h) hP rfl hl.1 (Nat.le_of_ble_eq_true rfl) dX5_give_54 ⟨by decide, by decide⟩ (fun E ce q9 H1 locs1 hx9 _ _ _ _ _ => hx9.elim) (fun v H1 locs1 hv hk hS => ?_)
      have hP := hP.old hk
      subst hv
      refine lv_iload hx hb dX5_give_57 (lv_at hl 0 rfl) ?_
      refine lv_ineg hx hb dX5_give_59 ?_
      refine kcallV (n := 1) F (kX3_bookGift l G A ad σ qs nT nW 0 (by decide) (-(fTax gb vv))) wML_X5_220 wIM_X3_bookGift wSE_X3_X3_bookGift wIN_X3 wCO_X3_bookGift (by decide) rfl ⟨by decide, by decide⟩ (frec F (hP.till (by decide)) _ rfl) hS (fun _ h => h) (fun q h => hA q (Nat.le_trans hS.1 h)) hP rfl hl.1 (Nat.le_of_ble_eq_true rfl) dX5_give_60 ⟨by decide, by decide⟩ (fun E ce q9 H1 locs1 hx9 _ _ _ _ _ => hx9.elim) (fun v H1 locs1 hv hk hS => ?_)
      obtain ⟨rfl, hP⟩ := hv
      have hP : PX G A ad (fBook σ 4 0 (-(fTax gb vv))) qs nT nW H1 := hP
      refine lv_aload_n hx hb dX5_give_63 rfl (lv_at hl 2 rfl) ?_
      refine lv_iload_n hx hb dX5_give_64 rfl (lv_at hl 3 rfl) ?_
      refine kcallV (n := 1) F (kX5_tillAt0 l G (fun q => H1.size ≤ q) A ad (fBook σ 4 0 (-(fTax gb vv))) qs nT nW (nI g9) (g9 + 1) (by omega) (nI_1 _)) wML_X5_42 wIM_X5_tillAt wSE_X5_X5_tillAt wIN_X5 wCO_X5_tillAt (by decide) rfl ⟨by decide, by decide⟩ (frec F (hP.main rfl) _ rfl) hS (fun q h => hA q (Nat.le_trans hS.1 h)) (fun q h => h) hP rfl hl.1 (Nat.le_of_ble_eq_true rfl) dX5_give_65 ⟨by decide, by decide⟩ (fun E ce q9 H1 locs1 hx9 _ _ _ _ _ => hx9.elim) (fun v H1 locs1 hv hk hS => ?_)
      have hP := hP.old hk
      subst hv
      refine lv_iload_n hx hb dX5_give_68 rfl (lv_at hl 4 rfl) ?_
      refine lv_iload hx hb dX5_give_69 (lv_at hl 0 rfl) ?_
      refine lv_iadd hx hb dX5_give_71 ?_
      refine kcallV (n := 1) F (kX3_bookGift l G A ad (fBook σ 4 0 (-(fTax gb vv))) qs nT nW (g9 + 1) (by omega) (vv + (fTax gb vv))) wML_X5_220 wIM_X3_bookGift wSE_X3_X3_bookGift wIN_X3 wCO_X3_bookGift (by decide) rfl ⟨by decide, by decide⟩ (frec F (hP.till (by omega)) _ rfl) hS (fun _ h => h) (fun q h => hA q (Nat.le_trans hS.1 h)) hP rfl hl.1 (Nat.le_of_ble_eq_true rfl) dX5_give_72 ⟨by decide, by decide⟩ (fun E ce q9 H1 locs1 hx9 _ _ _ _ _ => hx9.elim) (fun v H1 locs1 hv hk hS => ?_)
      obtain ⟨rfl, hP⟩ := hv
      have hP : PX G A ad (fBook (fBook σ 4 0 (-(fTax gb vv))) 4 (g9 + 1) (vv + (fTax gb vv))) qs nT nW H1 := hP
      refine lv_aload_n hx hb dX5_give_75 rfl (lv_at hl 2 rfl) ?_
      refine lv_dup hx hb dX5_give_76 rfl ?_
      refine gX5 F (hP.main rfl) 7 (by decide) wFL_X5_113 (fun _ h9 => h9) (v := .int (σ 27 0)) rfl dX5_give_77 ?_
      refine lv_iload_n hx hb dX5_give_80 rfl (lv_at hl 4 rfl) ?_
      refine lv_iadd hx hb dX5_give_81 ?_
      refine pX5 F hS (hP.main rfl) (hP.omain rfl) 7 (by decide) wFL_X5_113 (fun _ h9 => h9) rfl rfl rfl (by simp) dX5_give_82 (fun H1 locs1 he1 z1 oq1 hS => ?_)
      have hP := hP.p27 rfl he1 oq1
      refine lv_iload_n hx hb dX5_give_85 rfl (lv_at hl 4 rfl) ?_
      refine lv_iload hx hb dX5_give_86 (lv_at hl 0 rfl) ?_
      refine lv_iadd hx hb dX5_give_88 ?_
      exact kiret hx hb hr hlocks hS (by decide) (by decide) dX5_give_89 (⟨g9, gb, hg9, rfl, hgb, ⟨h1, h2⟩, rfl, hP⟩)
  · refine lv_aload_n hx hb dX5_give_9 rfl (lv_at hl 0 rfl) ?_
    refine lv_iload_n hx hb dX5_give_10 rfl (lv_at hl 3 rfl) ?_
    refine kcallV (n := 1) F (kX5_memberAt l G (fun q => H1.size ≤ q) A ad σ qs nT nW hl9 vm) wML_X5_61 wIM_X5_memberAt wSE_X5_X5_memberAt wIN_X5 wCO_X5_memberAt (by decide) rfl ⟨by decide, by decide⟩ (frec F (hP.main rfl) _ rfl) hS (fun q h => hA q (Nat.le_trans hS.1 h)) (fun q h => h) hP rfl hl.1 (Nat.le_of_ble_eq_true rfl) dX5_give_11 ⟨by decide, by decide⟩ (fun E ce q9 H1 locs1 hx9 hk9 hS hc9 hv9 hf9 => kout (G := G) F.2.2.2.2.1 hlocks hS (by decide) (by decide) hc9 hv9 hf9 (⟨hP.old hk9, Or.inr (Or.inl (⟨hx9.1, ⟨⟨g9, hg9, rfl⟩, fun z => z.elim c_6_1 hx9.2⟩⟩))⟩)) (fun v H1 locs1 hv hk hS => ?_)
    have hP := hP.old hk
    obtain ⟨m8, hm8, rfl, rfl⟩ := hv
    refine lv_aload_n hx hb dX5_give_14 rfl (lv_at hl 0 rfl) ?_
    refine gX5 F (hP.main rfl) 5 (by decide) wFL_X5_65 (fun _ h9 => h9) (v := .int (σ 25 0)) rfl dX5_give_15 ?_
    refine kcallV (n := 1) F (kX0_belongs l G (fun q => H1.size ≤ q) A ad σ qs nT nW m8 hm8 (σ 25 0)) wML_X5_68 wIM_X0_belongs wSE_X0_X0_belongs wIN_X0 wCO_X0_belongs (by decide) rfl ⟨by decide, by decide⟩ (frec F (hP.member hm8) _ rfl) hS (fun q h => hA q (Nat.le_trans hS.1 h)) (fun q h => h) hP rfl hl.1 (Nat.le_of_ble_eq_true rfl) dX5_give_18 ⟨by decide, by decide⟩ (fun E ce q9 H1 locs1 hx9 _ _ _ _ _ => hx9.elim) (fun v H1 locs1 hv hk hS => ?_)
    have hP := hP.old hk
    subst hv
    refine lv_if_eq (tgt := 28) hx hb dX5_give_21 (by decide) (fun c_21_3 => ?_) (fun c_21_3 => ?_)
    · refine lv_iconst (v := 0) hx hb dX5_give_28 (by decide) ?_
      obtain ⟨gb, hgb, egb⟩ : ∃ gb : Bool, ((nI m8 = -1 ∧ gb = false) ∨ (nI m8 ≠ -1 ∧ ∃ m9, m9 < 6 ∧ nI m8 = nI m9 ∧ gb = fBel (σ 9 m9) (σ 25 0))) ∧ (0 : Int32) = b2i gb := ⟨false, Or.inr ⟨c_6_1, m8, hm8, rfl, (b2i_0.mp c_21_3).symm⟩, rfl⟩
      refine W.eq (g2 := F0 m 29 ls [.int (b2i gb)]) (congrArg (fun z => F0 m 29 ls [.int z]) (egb)) ?_
      refine lv_istore (lv' := [(4, .int (b2i gb)), (0, .ref (ad 0 0)), (1, .int (nI g9)), (2, .int vv), (3, .int (nI m8))]) hx hb dX5_give_29 hl (by decide) rfl (fun ls hl => ?_)
      refine lv_iload_n hx hb dX5_give_31 rfl (lv_at hl 3 rfl) ?_
      refine lv_iconst (v := 1) hx hb dX5_give_32 (by decide) ?_
      refine lv_ldc (v := 100000) hx hb hown (hts _ wCN_X5_216) dX5_give_33 ?_
      refine kcallS (n := 3) F (kX5_checkRange l G (fun q => H1.size ≤ q) hl9 vv 1 100000) wML_X5_46 wST_X5_checkRange wIN_X5 wCO_X5_checkRange (by decide) rfl ⟨by decide, by decide⟩ hS (fun q h => hA q (Nat.le_trans hS.1 h)) (fun q h => h) trivial rfl hl.1 (Nat.le_of_ble_eq_true rfl) dX5_give_35 ⟨by decide, by decide⟩ (fun E ce q9 H1 locs1 hx9 hk9 hS hc9 hv9 hf9 => kout (G := G) F.2.2.2.2.1 hlocks hS (by decide) (by decide) hc9 hv9 hf9 (⟨hP.old hk9, Or.inr (Or.inr (⟨hx9.1, ⟨⟨g9, hg9, rfl⟩, Or.inr ⟨m8, hm8, rfl⟩, hx9.2⟩⟩))⟩)) (fun v H1 locs1 hv hk hS => ?_)
      obtain ⟨rfl, h1, h2⟩ := hv
      have hP := hP.old hk
      refine lv_iload hx hb dX5_give_38 (lv_at hl 0 rfl) ?_
      refine lv_if_eq (tgt := 49) hx hb dX5_give_40 (by decide) (fun c_40_4 => ?_) (fun c_40_4 => ?_)
      · refine lv_iconst (v := 0) hx hb dX5_give_49 (by decide) ?_
        refine W.eq (g2 := F0 m 50 ls [.int (fTax gb vv)]) (congrArg (fun z => F0 m 50 ls [.int z]) (by simp [fTax, b2i_0.mp c_40_4])) ?_
        refine lv_istore (lv' := [(5, .int (fTax gb vv)), (4, .int (b2i gb)), (0, .ref (ad 0 0)), (1, .int (nI g9)), (2, .int vv), (3, .int (nI m8))]) hx hb dX5_give_50 hl (by decide) rfl (fun ls hl => ?_)
        refine lv_aload_n hx hb dX5_give_52 rfl (lv_at hl 2 rfl) ?_
        refine lv_iconst (v := (-1)) hx hb dX5_give_53 (by decide) ?_
        refine kcallV (n := 1) F (kX5_tillAt0 l G (fun q => H1.size ≤ q) A ad σ qs nT nW (-1) 0 (by decide) rfl) wML_X5_42 wIM_X5_tillAt wSE_X5_X5_tillAt wIN_X5 wCO_X5_tillAt (by decide) rfl ⟨by decide, by decide⟩ (frec F (hP.main rfl) _ rfl) hS (fun q h => hA q (Nat.le_trans hS.1 h)) (fun q h => h) hP rfl hl.1 (Nat.le_of_ble_eq_true rfl) dX5_give_54 ⟨by decide, by decide⟩ (fun E ce q9 H1 locs1 hx9 _ _ _ _ _ => hx9.elim) (fun v H1 locs1 hv hk hS => ?_)
        have hP := hP.old hk
        subst hv
        refine lv_iload hx hb dX5_give_57 (lv_at hl 0 rfl) ?_
        refine lv_ineg hx hb dX5_give_59 ?_
        refine kcallV (n := 1) F (kX3_bookGift l G A ad σ qs nT nW 0 (by decide) (-(fTax gb vv))) wML_X5_220 wIM_X3_bookGift wSE_X3_X3_bookGift wIN_X3 wCO_X3_bookGift (by decide) rfl ⟨by decide, by decide⟩ (frec F (hP.till (by decide)) _ rfl) hS (fun _ h => h) (fun q h => hA q (Nat.le_trans hS.1 h)) hP rfl hl.1 (Nat.le_of_ble_eq_true rfl) dX5_give_60 ⟨by decide, by decide⟩ (fun E ce q9 H1 locs1 hx9 _ _ _ _ _ => hx9.elim) (fun v H1 locs1 hv hk hS => ?_)
        obtain ⟨rfl, hP⟩ := hv
        have hP : PX G A ad (fBook σ 4 0 (-(fTax gb vv))) qs nT nW H1 := hP
        refine lv_aload_n hx hb dX5_give_63 rfl (lv_at hl 2 rfl) ?_
        refine lv_iload_n hx hb dX5_give_64 rfl (lv_at hl 3 rfl) ?_
        refine kcallV (n := 1) F (kX5_tillAt0 l G (fun q => H1.size ≤ q) A ad (fBook σ 4 0 (-(fTax gb vv))) qs nT nW (nI g9) (g9 + 1) (by omega) (nI_1 _)) wML_X5_42 wIM_X5_tillAt wSE_X5_X5_tillAt wIN_X5 wCO_X5_tillAt (by decide) rfl ⟨by decide, by decide⟩ (frec F (hP.main rfl) _ rfl) hS (fun q h => hA q (Nat.le_trans hS.1 h)) (fun q h => h) hP rfl hl.1 (Nat.le_of_ble_eq_true rfl) dX5_give_65 ⟨by decide, by decide⟩ (fun E ce q9 H1 locs1 hx9 _ _ _ _ _ => hx9.elim) (fun v H1 locs1 hv hk hS => ?_)
        have hP := hP.old hk
        subst hv
        refine lv_iload_n hx hb dX5_give_68 rfl (lv_at hl 4 rfl) ?_
        refine lv_iload hx hb dX5_give_69 (lv_at hl 0 rfl) ?_
        refine lv_iadd hx hb dX5_give_71 ?_
        refine kcallV (n := 1) F (kX3_bookGift l G A ad (fBook σ 4 0 (-(fTax gb vv))) qs nT nW (g9 + 1) (by omega) (vv + (fTax gb vv))) wML_X5_220 wIM_X3_bookGift wSE_X3_X3_bookGift wIN_X3 wCO_X3_bookGift (by decide) rfl ⟨by decide, by decide⟩ (frec F (hP.till (by omega)) _ rfl) hS (fun _ h => h) (fun q h => hA q (Nat.le_trans hS.1 h)) hP rfl hl.1 (Nat.le_of_ble_eq_true rfl) dX5_give_72 ⟨by decide, by decide⟩ (fun E ce q9 H1 locs1 hx9 _ _ _ _ _ => hx9.elim) (fun v H1 locs1 hv hk hS => ?_)
        obtain ⟨rfl, hP⟩ := hv
        have hP : PX G A ad (fBook (fBook σ 4 0 (-(fTax gb vv))) 4 (g9 + 1) (vv + (fTax gb vv))) qs nT nW H1 := hP
        refine lv_aload_n hx hb dX5_give_75 rfl (lv_at hl 2 rfl) ?_
        refine lv_dup hx hb dX5_give_76 rfl ?_
        refine gX5 F (hP.main rfl) 7 (by decide) wFL_X5_113 (fun _ h9 => h9) (v := .int (σ 27 0)) rfl dX5_give_77 ?_
        refine lv_iload_n hx hb dX5_give_80 rfl (lv_at hl 4 rfl) ?_
        refine lv_iadd hx hb dX5_give_81 ?_
        refine pX5 F hS (hP.main rfl) (hP.omain rfl) 7 (by decide) wFL_X5_113 (fun _ h9 => h9) rfl rfl rfl (by simp) dX5_give_82 (fun H1 locs1 he1 z1 oq1 hS => ?_)
        have hP := hP.p27 rfl he1 oq1
        refine lv_iload_n hx hb dX5_give_85 rfl (lv_at hl 4 rfl) ?_
        refine lv_iload hx hb dX5_give_86 (lv_at hl 0 rfl) ?_
        refine lv_iadd hx hb dX5_give_88 ?_
        exact kiret hx hb hr hlocks hS (by decide) (by decide) dX5_give_89 (⟨g9, gb, hg9, rfl, hgb, ⟨h1, h2⟩, rfl, hP⟩)
      · refine lv_iload_n hx hb dX5_give_43 rfl (lv_at hl 3 rfl) ?_
        refine lv_iconst (v := 4) hx hb dX5_give_44 (by decide) ?_
        refine lv_idiv hx hb dX5_give_45 (by decide) ?_
        refine lv_goto (tgt := 50) hx hb dX5_give_46 (by decide) ?_
        refine W.eq (g2 := F0 m 50 ls [.int (fTax gb vv)]) (congrArg (fun z => F0 m 50 ls [.int z]) (by simp [fTax, b2i_1.mp c_40_4])) ?_
        refine lv_istore (lv' := [(5, .int (fTax gb vv)), (4, .int (b2i gb)), (0, .ref (ad 0 0)), (1, .int (nI g9)), (2, .int vv), (3, .int (nI m8))]) hx hb dX5_give_50 hl (by decide) rfl (fun ls hl => ?_)
        refine lv_aload_n hx hb dX5_give_52 rfl (lv_at hl 2 rfl) ?_
        refine lv_iconst (v := (-1)) hx hb dX5_give_53 (by decide) ?_
        refine kcallV (n := 1) F (kX5_tillAt0 l G (fun q => H1.size ≤ q) A ad σ qs nT nW (-1) 0 (by decide) rfl) wML_X5_42 wIM_X5_tillAt wSE_X5_X5_tillAt wIN_X5 wCO_X5_tillAt (by decide) rfl ⟨by decide, by decide⟩ (frec F (hP.main rfl) _ rfl) hS (fun q h => hA q (Nat.le_trans hS.1 h)) (fun q h => h) hP rfl hl.1 (Nat.le_of_ble_eq_true rfl) dX5_give_54 ⟨by decide, by decide⟩ (fun E ce q9 H1 locs1 hx9 _ _ _ _ _ => hx9.elim) (fun v H1 locs1 hv hk hS => ?_)
        have hP := hP.old hk
        subst hv
        refine lv_iload hx hb dX5_give_57 (lv_at hl 0 rfl) ?_
        refine lv_ineg hx hb dX5_give_59 ?_
        refine kcallV (n := 1) F (kX3_bookGift l G A ad σ qs nT nW 0 (by decide) (-(fTax gb vv))) wML_X5_220 wIM_X3_bookGift wSE_X3_X3_bookGift wIN_X3 wCO_X3_bookGift (by decide) rfl ⟨by decide, by decide⟩ (frec F (hP.till (by decide)) _ rfl) hS (fun _ h => h) (fun q h => hA q (Nat.le_trans hS.1 h)) hP rfl hl.1 (Nat.le_of_ble_eq_true rfl) dX5_give_60 ⟨by decide, by decide⟩ (fun E ce q9 H1 locs1 hx9 _ _ _ _ _ => hx9.elim) (fun v H1 locs1 hv hk hS => ?_)
        obtain ⟨rfl, hP⟩ := hv
        have hP : PX G A ad (fBook σ 4 0 (-(fTax gb vv))) qs nT nW H1 := hP
        refine lv_aload_n hx hb dX5_give_63 rfl (lv_at hl 2 rfl) ?_
        refine lv_iload_n hx hb dX5_give_64 rfl (lv_at hl 3 rfl) ?_
        refine kcallV (n := 1) F (kX5_tillAt0 l G (fun q => H1.size ≤ q) A ad (fBook σ 4 0 (-(fTax gb vv))) qs nT nW (nI g9) (g9 + 1) (by omega) (nI_1 _)) wML_X5_42 wIM_X5_tillAt wSE_X5_X5_tillAt wIN_X5 wCO_X5_tillAt (by decide) rfl ⟨by decide, by decide⟩ (frec F (hP.main rfl) _ rfl) hS (fun q h => hA q (Nat.le_trans hS.1 h)) (fun q h => h) hP rfl hl.1 (Nat.le_of_ble_eq_true rfl) dX5_give_65 ⟨by decide, by decide⟩ (fun E ce q9 H1 locs1 hx9 _ _ _ _ _ => hx9.elim) (fun v H1 locs1 hv hk hS => ?_)
        have hP := hP.old hk
        subst hv
        refine lv_iload_n hx hb dX5_give_68 rfl (lv_at hl 4 rfl) ?_
        refine lv_iload hx hb dX5_give_69 (lv_at hl 0 rfl) ?_
        refine lv_iadd hx hb dX5_give_71 ?_
        refine kcallV (n := 1) F (kX3_bookGift l G A ad (fBook σ 4 0 (-(fTax gb vv))) qs nT nW (g9 + 1) (by omega) (vv + (fTax gb vv))) wML_X5_220 wIM_X3_bookGift wSE_X3_X3_bookGift wIN_X3 wCO_X3_bookGift (by decide) rfl ⟨by decide, by decide⟩ (frec F (hP.till (by omega)) _ rfl) hS (fun _ h => h) (fun q h => hA q (Nat.le_trans hS.1 h)) hP rfl hl.1 (Nat.le_of_ble_eq_true rfl) dX5_give_72 ⟨by decide, by decide⟩ (fun E ce q9 H1 locs1 hx9 _ _ _ _ _ => hx9.elim) (fun v H1 locs1 hv hk hS => ?_)
        obtain ⟨rfl, hP⟩ := hv
        have hP : PX G A ad (fBook (fBook σ 4 0 (-(fTax gb vv))) 4 (g9 + 1) (vv + (fTax gb vv))) qs nT nW H1 := hP
        refine lv_aload_n hx hb dX5_give_75 rfl (lv_at hl 2 rfl) ?_
        refine lv_dup hx hb dX5_give_76 rfl ?_
        refine gX5 F (hP.main rfl) 7 (by decide) wFL_X5_113 (fun _ h9 => h9) (v := .int (σ 27 0)) rfl dX5_give_77 ?_
        refine lv_iload_n hx hb dX5_give_80 rfl (lv_at hl 4 rfl) ?_
        refine lv_iadd hx hb dX5_give_81 ?_
        refine pX5 F hS (hP.main rfl) (hP.omain rfl) 7 (by decide) wFL_X5_113 (fun _ h9 => h9) rfl rfl rfl (by simp) dX5_give_82 (fun H1 locs1 he1 z1 oq1 hS => ?_)
        have hP := hP.p27 rfl he1 oq1
        refine lv_iload_n hx hb dX5_give_85 rfl (lv_at hl 4 rfl) ?_
        refine lv_iload hx hb dX5_give_86 (lv_at hl 0 rfl) ?_
        refine lv_iadd hx hb dX5_give_88 ?_
        exact kiret hx hb hr hlocks hS (by decide) (by decide) dX5_give_89 (⟨g9, gb, hg9, rfl, hgb, ⟨h1, h2⟩, rfl, hP⟩)
    · refine lv_iconst (v := 1) hx hb dX5_give_24 (by decide) ?_
      refine lv_goto (tgt := 29) hx hb dX5_give_25 (by decide) ?_
      obtain ⟨gb, hgb, egb⟩ : ∃ gb : Bool, ((nI m8 = -1 ∧ gb = false) ∨ (nI m8 ≠ -1 ∧ ∃ m9, m9 < 6 ∧ nI m8 = nI m9 ∧ gb = fBel (σ 9 m9) (σ 25 0))) ∧ (1 : Int32) = b2i gb := ⟨true, Or.inr ⟨c_6_1, m8, hm8, rfl, (b2i_1.mp c_21_3).symm⟩, rfl⟩
      refine W.eq (g2 := F0 m 29 ls [.int (b2i gb)]) (congrArg (fun z => F0 m 29 ls [.int z]) (egb)) ?_
      refine lv_istore (lv' := [(4, .int (b2i gb)), (0, .ref (ad 0 0)), (1, .int (nI g9)), (2, .int vv), (3, .int (nI m8))]) hx hb dX5_give_29 hl (by decide) rfl (fun ls hl => ?_)
      refine lv_iload_n hx hb dX5_give_31 rfl (lv_at hl 3 rfl) ?_
      refine lv_iconst (v := 1) hx hb dX5_give_32 (by decide) ?_
      refine lv_ldc (v := 100000) hx hb hown (hts _ wCN_X5_216) dX5_give_33 ?_
      refine kcallS (n := 3) F (kX5_checkRange l G (fun q => H1.size ≤ q) hl9 vv 1 100000) wML_X5_46 wST_X5_checkRange wIN_X5 wCO_X5_checkRange (by decide) rfl ⟨by decide, by decide⟩ hS (fun q h => hA q (Nat.le_trans hS.1 h)) (fun q h => h) trivial rfl hl.1 (Nat.le_of_ble_eq_true rfl) dX5_give_35 ⟨by decide, by decide⟩ (fun E ce q9 H1 locs1 hx9 hk9 hS hc9 hv9 hf9 => kout (G := G) F.2.2.2.2.1 hlocks hS (by decide) (by decide) hc9 hv9 hf9 (⟨hP.old hk9, Or.inr (Or.inr (⟨hx9.1, ⟨⟨g9, hg9, rfl⟩, Or.inr ⟨m8, hm8, rfl⟩, hx9.2⟩⟩))⟩)) (fun v H1 locs1 hv hk hS => ?_)
      obtain ⟨rfl, h1, h2⟩ := hv
      have hP := hP.old hk
      refine lv_iload hx hb dX5_give_38 (lv_at hl 0 rfl) ?_
      refine lv_if_eq (tgt := 49) hx hb dX5_give_40 (by decide) (fun c_40_5 => ?_) (fun c_40_5 => ?_)
      · refine lv_iconst (v := 0) hx hb dX5_give_49 (by decide) ?_
        refine W.eq (g2 := F0 m 50 ls [.int (fTax gb vv)]) (congrArg (fun z => F0 m 50 ls [.int z]) (by simp [fTax, b2i_0.mp c_40_5])) ?_
        refine lv_istore (lv' := [(5, .int (fTax gb vv)), (4, .int (b2i gb)), (0, .ref (ad 0 0)), (1, .int (nI g9)), (2, .int vv), (3, .int (nI m8))]) hx hb dX5_give_50 hl (by decide) rfl (fun ls hl => ?_)
        refine lv_aload_n hx hb dX5_give_52 rfl (lv_at hl 2 rfl) ?_
        refine lv_iconst (v := (-1)) hx hb dX5_give_53 (by decide) ?_
        refine kcallV (n := 1) F (kX5_tillAt0 l G (fun q => H1.size ≤ q) A ad σ qs nT nW (-1) 0 (by decide) rfl) wML_X5_42 wIM_X5_tillAt wSE_X5_X5_tillAt wIN_X5 wCO_X5_tillAt (by decide) rfl ⟨by decide, by decide⟩ (frec F (hP.main rfl) _ rfl) hS (fun q h => hA q (Nat.le_trans hS.1 h)) (fun q h => h) hP rfl hl.1 (Nat.le_of_ble_eq_true rfl) dX5_give_54 ⟨by decide, by decide⟩ (fun E ce q9 H1 locs1 hx9 _ _ _ _ _ => hx9.elim) (fun v H1 locs1 hv hk hS => ?_)
        have hP := hP.old hk
        subst hv
        refine lv_iload hx hb dX5_give_57 (lv_at hl 0 rfl) ?_
        refine lv_ineg hx hb dX5_give_59 ?_
        refine kcallV (n := 1) F (kX3_bookGift l G A ad σ qs nT nW 0 (by decide) (-(fTax gb vv))) wML_X5_220 wIM_X3_bookGift wSE_X3_X3_bookGift wIN_X3 wCO_X3_bookGift (by decide) rfl ⟨by decide, by decide⟩ (frec F (hP.till (by decide)) _ rfl) hS (fun _ h => h) (fun q h => hA q (Nat.le_trans hS.1 h)) hP rfl hl.1 (Nat.le_of_ble_eq_true rfl) dX5_give_60 ⟨by decide, by decide⟩ (fun E ce q9 H1 locs1 hx9 _ _ _ _ _ => hx9.elim) (fun v H1 locs1 hv hk hS => ?_)
        obtain ⟨rfl, hP⟩ := hv
        have hP : PX G A ad (fBook σ 4 0 (-(fTax gb vv))) qs nT nW H1 := hP
        refine lv_aload_n hx hb dX5_give_63 rfl (lv_at hl 2 rfl) ?_
        refine lv_iload_n hx hb dX5_give_64 rfl (lv_at hl 3 rfl) ?_
        refine kcallV (n := 1) F (kX5_tillAt0 l G (fun q => H1.size ≤ q) A ad (fBook σ 4 0 (-(fTax gb vv))) qs nT nW (nI g9) (g9 + 1) (by omega) (nI_1 _)) wML_X5_42 wIM_X5_tillAt wSE_X5_X5_tillAt wIN_X5 wCO_X5_tillAt (by decide) rfl ⟨by decide, by decide⟩ (frec F (hP.main rfl) _ rfl) hS (fun q h => hA q (Nat.le_trans hS.1 h)) (fun q h => h) hP rfl hl.1 (Nat.le_of_ble_eq_true rfl) dX5_give_65 ⟨by decide, by decide⟩ (fun E ce q9 H1 locs1 hx9 _ _ _ _ _ => hx9.elim) (fun v H1 locs1 hv hk hS => ?_)
        have hP := hP.old hk
        subst hv
        refine lv_iload_n hx hb dX5_give_68 rfl (lv_at hl 4 rfl) ?_
        refine lv_iload hx hb dX5_give_69 (lv_at hl 0 rfl) ?_
        refine lv_iadd hx hb dX5_give_71 ?_
        refine kcallV (n := 1) F (kX3_bookGift l G A ad (fBook σ 4 0 (-(fTax gb vv))) qs nT nW (g9 + 1) (by omega) (vv + (fTax gb vv))) wML_X5_220 wIM_X3_bookGift wSE_X3_X3_bookGift wIN_X3 wCO_X3_bookGift (by decide) rfl ⟨by decide, by decide⟩ (frec F (hP.till (by omega)) _ rfl) hS (fun _ h => h) (fun q h => hA q (Nat.le_trans hS.1 h)) hP rfl hl.1 (Nat.le_of_ble_eq_true rfl) dX5_give_72 ⟨by decide, by decide⟩ (fun E ce q9 H1 locs1 hx9 _ _ _ _ _ => hx9.elim) (fun v H1 locs1 hv hk hS => ?_)
        obtain ⟨rfl, hP⟩ := hv
        have hP : PX G A ad (fBook (fBook σ 4 0 (-(fTax gb vv))) 4 (g9 + 1) (vv + (fTax gb vv))) qs nT nW H1 := hP
        refine lv_aload_n hx hb dX5_give_75 rfl (lv_at hl 2 rfl) ?_
        refine lv_dup hx hb dX5_give_76 rfl ?_
        refine gX5 F (hP.main rfl) 7 (by decide) wFL_X5_113 (fun _ h9 => h9) (v := .int (σ 27 0)) rfl dX5_give_77 ?_
        refine lv_iload_n hx hb dX5_give_80 rfl (lv_at hl 4 rfl) ?_
        refine lv_iadd hx hb dX5_give_81 ?_
        refine pX5 F hS (hP.main rfl) (hP.omain rfl) 7 (by decide) wFL_X5_113 (fun _ h9 => h9) rfl rfl rfl (by simp) dX5_give_82 (fun H1 locs1 he1 z1 oq1 hS => ?_)
        have hP := hP.p27 rfl he1 oq1
        refine lv_iload_n hx hb dX5_give_85 rfl (lv_at hl 4 rfl) ?_
        refine lv_iload hx hb dX5_give_86 (lv_at hl 0 rfl) ?_
        refine lv_iadd hx hb dX5_give_88 ?_
        exact kiret hx hb hr hlocks hS (by decide) (by decide) dX5_give_89 (⟨g9, gb, hg9, rfl, hgb, ⟨h1, h2⟩, rfl, hP⟩)
      · refine lv_iload_n hx hb dX5_give_43 rfl (lv_at hl 3 rfl) ?_
        refine lv_iconst (v := 4) hx hb dX5_give_44 (by decide) ?_
        refine lv_idiv hx hb dX5_give_45 (by decide) ?_
        refine lv_goto (tgt := 50) hx hb dX5_give_46 (by decide) ?_
        refine W.eq (g2 := F0 m 50 ls [.int (fTax gb vv)]) (congrArg (fun z => F0 m 50 ls [.int z]) (by simp [fTax, b2i_1.mp c_40_5])) ?_
        refine lv_istore (lv' := [(5, .int (fTax gb vv)), (4, .int (b2i gb)), (0, .ref (ad 0 0)), (1, .int (nI g9)), (2, .int vv), (3, .int (nI m8))]) hx hb dX5_give_50 hl (by decide) rfl (fun ls hl => ?_)
        refine lv_aload_n hx hb dX5_give_52 rfl (lv_at hl 2 rfl) ?_
        refine lv_iconst (v := (-1)) hx hb dX5_give_53 (by decide) ?_
        refine kcallV (n := 1) F (kX5_tillAt0 l G (fun q => H1.size ≤ q) A ad σ qs nT nW (-1) 0 (by decide) rfl) wML_X5_42 wIM_X5_tillAt wSE_X5_X5_tillAt wIN_X5 wCO_X5_tillAt (by decide) rfl ⟨by decide, by decide⟩ (frec F (hP.main rfl) _ rfl) hS (fun q h => hA q (Nat.le_trans hS.1 h)) (fun q h => h) hP rfl hl.1 (Nat.le_of_ble_eq_true rfl) dX5_give_54 ⟨by decide, by decide⟩ (fun E ce q9 H1 locs1 hx9 _ _ _ _ _ => hx9.elim) (fun v H1 locs1 hv hk hS => ?_)
        have hP := hP.old hk
        subst hv
        refine lv_iload hx hb dX5_give_57 (lv_at hl 0 rfl) ?_
        refine lv_ineg hx hb dX5_give_59 ?_
        refine kcallV (n := 1) F (kX3_bookGift l G A ad σ qs nT nW 0 (by decide) (-(fTax gb vv))) wML_X5_220 wIM_X3_bookGift wSE_X3_X3_bookGift wIN_X3 wCO_X3_bookGift (by decide) rfl ⟨by decide, by decide⟩ (frec F (hP.till (by decide)) _ rfl) hS (fun _ h => h) (fun q h => hA q (Nat.le_trans hS.1 h)) hP rfl hl.1 (Nat.le_of_ble_eq_true rfl) dX5_give_60 ⟨by decide, by decide⟩ (fun E ce q9 H1 locs1 hx9 _ _ _ _ _ => hx9.elim) (fun v H1 locs1 hv hk hS => ?_)
        obtain ⟨rfl, hP⟩ := hv
        have hP : PX G A ad (fBook σ 4 0 (-(fTax gb vv))) qs nT nW H1 := hP
        refine lv_aload_n hx hb dX5_give_63 rfl (lv_at hl 2 rfl) ?_
        refine lv_iload_n hx hb dX5_give_64 rfl (lv_at hl 3 rfl) ?_
        refine kcallV (n := 1) F (kX5_tillAt0 l G (fun q => H1.size ≤ q) A ad (fBook σ 4 0 (-(fTax gb vv))) qs nT nW (nI g9) (g9 + 1) (by omega) (nI_1 _)) wML_X5_42 wIM_X5_tillAt wSE_X5_X5_tillAt wIN_X5 wCO_X5_tillAt (by decide) rfl ⟨by decide, by decide⟩ (frec F (hP.main rfl) _ rfl) hS (fun q h => hA q (Nat.le_trans hS.1 h)) (fun q h => h) hP rfl hl.1 (Nat.le_of_ble_eq_true rfl) dX5_give_65 ⟨by decide, by decide⟩ (fun E ce q9 H1 locs1 hx9 _ _ _ _ _ => hx9.elim) (fun v H1 locs1 hv hk hS => ?_)
        have hP := hP.old hk
        subst hv
        refine lv_iload_n hx hb dX5_give_68 rfl (lv_at hl 4 rfl) ?_
        refine lv_iload hx hb dX5_give_69 (lv_at hl 0 rfl) ?_
        refine lv_iadd hx hb dX5_give_71 ?_
        refine kcallV (n := 1) F (kX3_bookGift l G A ad (fBook σ 4 0 (-(fTax gb vv))) qs nT nW (g9 + 1) (by omega) (vv + (fTax gb vv))) wML_X5_220 wIM_X3_bookGift wSE_X3_X3_bookGift wIN_X3 wCO_X3_bookGift (by decide) rfl ⟨by decide, by decide⟩ (frec F (hP.till (by omega)) _ rfl) hS (fun _ h => h) (fun q h => hA q (Nat.le_trans hS.1 h)) hP rfl hl.1 (Nat.le_of_ble_eq_true rfl) dX5_give_72 ⟨by decide, by decide⟩ (fun E ce q9 H1 locs1 hx9 _ _ _ _ _ => hx9.elim) (fun v H1 locs1 hv hk hS => ?_)
        obtain ⟨rfl, hP⟩ := hv
        have hP : PX G A ad (fBook (fBook σ 4 0 (-(fTax gb vv))) 4 (g9 + 1) (vv + (fTax gb vv))) qs nT nW H1 := hP
        refine lv_aload_n hx hb dX5_give_75 rfl (lv_at hl 2 rfl) ?_
        refine lv_dup hx hb dX5_give_76 rfl ?_
        refine gX5 F (hP.main rfl) 7 (by decide) wFL_X5_113 (fun _ h9 => h9) (v := .int (σ 27 0)) rfl dX5_give_77 ?_
        refine lv_iload_n hx hb dX5_give_80 rfl (lv_at hl 4 rfl) ?_
        refine lv_iadd hx hb dX5_give_81 ?_
        refine pX5 F hS (hP.main rfl) (hP.omain rfl) 7 (by decide) wFL_X5_113 (fun _ h9 => h9) rfl rfl rfl (by simp) dX5_give_82 (fun H1 locs1 he1 z1 oq1 hS => ?_)
        have hP := hP.p27 rfl he1 oq1
        refine lv_iload_n hx hb dX5_give_85 rfl (lv_at hl 4 rfl) ?_
        refine lv_iload hx hb dX5_give_86 (lv_at hl 0 rfl) ?_
        refine lv_iadd hx hb dX5_give_88 ?_
        exact kiret hx hb hr hlocks hS (by decide) (by decide) dX5_give_89 (⟨g9, gb, hg9, rfl, hgb, ⟨h1, h2⟩, rfl, hP⟩)

set_option maxHeartbeats 4000000 in
set_option maxRecDepth 100000 in
theorem kP_queued (l : Launch) (G : GE) (A1 A : Nat → Prop) (ad : Nat → Nat → Nat) (σ : SG) (qs : Nat → List Nat) (nT nW : Nat) (hl9 : l.stackTraces = false) (vr vp : Int32) (hQ0 : ∀ r, r < 12 → (qs r).length ≤ 80) : KM l G A1 yX5_queued cX5_queued 4 (some .int) (rmL 6 2 12) [.ref (ad 0 0), .int vr, .int vp] (PX G A ad σ qs nT nW) (fun v _ => ∃ r, r < 12 ∧ vr = nI r ∧ 0 ≤ vp ∧ ((∃ i u, vp = nI i ∧ (qs r)[i]? = some u ∧ v = some (.int (nI u))) ∨ (nI (qs r).length ≤ vp ∧ v = some (.int (-1))))) (fun E _ => (E = xIO ∧ ¬ (∃ j, j < 12 ∧ vr = nI j)) ∨ (E = xIO ∧ ¬ 0 ≤ vp)) := by
  refine KM.of (by decide) (Nat.le_of_ble_eq_true rfl) ?_
  intro p e s m args below meth c F hP ls hl
  have hx := F.1.1
  have hb := F.1.2.1
  have hown := F.1.2.2.2.1
  have hts := F.1.2.2.2.2
  have hr := F.2.1
  have hlocks := F.2.2.1
  have hE := F.2.2.2.2.2.1
  have hA := F.2.2.2.2.2.2
  have hS : va_S A1 s.heap s.heap [] := va_S.rf
  have hl : lv_has ls 4 [(0, .ref (ad 0 0)), (1, .int vr), (2, .int vp)] := hl
  have hP := hP
  refine lv_aload_n hx hb dX5_queued_0 rfl (lv_at hl 0 rfl) ?_
  refine lv_iload_n hx hb dX5_queued_1 rfl (lv_at hl 1 rfl) ?_
  refine kcallV (n := 1) F (kX5_roomAt l G (fun q => s.heap.size ≤ q) A ad σ qs nT nW hl9 vr) wML_X5_127 wIM_X5_roomAt wSE_X5_X5_roomAt wIN_X5 wCO_X5_roomAt (by decide) rfl ⟨by decide, by decide⟩ (frec F (hP.main rfl) _ rfl) hS (fun q h => hA q (Nat.le_trans hS.1 h)) (fun q h => h) hP rfl hl.1 (Nat.le_of_ble_eq_true rfl) dX5_queued_2 ⟨by decide, by decide⟩ (fun E ce q9 H1 locs1 hx9 hk9 hS hc9 hv9 hf9 => kout (G := G) F.2.2.2.2.1 hlocks hS (by decide) (by decide) hc9 hv9 hf9 (Or.inl (⟨hx9.1, hx9.2⟩))) (fun v H1 locs1 hv hk hS => ?_)
  have hP := hP.old hk
  obtain ⟨r, hr9, rfl, rfl⟩ := hv
  have hQr := hQ0 r hr9
  refine gX1 F (hP.room hr9) 5 (by decide) wFL_X5_228 (fun _ h9 => h9) (v := .ref (ad 7 r)) rfl dX5_queued_5 ?_
  refine lv_astore_n (lv' := [(3, .ref (ad 7 r)), (0, .ref (ad 0 0)), (1, .int (nI r)), (2, .int vp)]) hx hb dX5_queued_8 rfl hl (by decide) rfl (fun ls hl => ?_)
  refine lv_iload_n hx hb dX5_queued_9 rfl (lv_at hl 3 rfl) ?_
  refine kcallS (n := 1) F (kX5_checkPlace l G (fun q => H1.size ≤ q) hl9 vp) wML_X5_231 wST_X5_checkPlace wIN_X5 wCO_X5_checkPlace (by decide) rfl ⟨by decide, by decide⟩ hS (fun q h => hA q (Nat.le_trans hS.1 h)) (fun q h => h) trivial rfl hl.1 (Nat.le_of_ble_eq_true rfl) dX5_queued_10 ⟨by decide, by decide⟩ (fun E ce q9 H1 locs1 hx9 hk9 hS hc9 hv9 hf9 => kout (G := G) F.2.2.2.2.1 hlocks hS (by decide) (by decide) hc9 hv9 hf9 (Or.inr (⟨hx9.1, hx9.2⟩))) (fun v H1 locs1 hv hk hS => ?_)
  obtain ⟨rfl, hp⟩ := hv
  have hP := hP.old hk
  refine lv_iload_n hx hb dX5_queued_13 rfl (lv_at hl 3 rfl) ?_
  refine lv_aload_n hx hb dX5_queued_14 rfl (lv_at hl 0 rfl) ?_
  refine kcallV (n := 0) F (cQ_size l G (fun q => H1.size ≤ q) A ad σ qs nT nW r (by omega)) wML_X5_173 wIM_Jx4a65c_size_8abf5 wSE_Jx4a65c_Jx4a65c_size_8abf5 wIN_Jx4a65c wCO_Jx4a65c_size_8abf5 (by decide) rfl ⟨by decide, by decide⟩ (by obtain ⟨_, _, h⟩ := hP.lobj (i := r) (by omega); exact frec F h _ rfl) hS (fun q h => hA q (Nat.le_trans hS.1 h)) (fun q h => h) hP rfl hl.1 (Nat.le_of_ble_eq_true rfl) dX5_queued_15 ⟨by decide, by decide⟩ (fun E ce q9 H1 locs1 hx9 _ _ _ _ _ => hx9.elim) (fun v H1 locs1 hv hk hS => ?_)
  have hP := hP.old hk
  rw [lsX_q _ _ _ _ hr9, List.length_map] at hv
  subst hv
  refine lv_icmp_ge (tgt := 35) hx hb dX5_queued_18 (by decide) (fun c_18_1 => ?_) (fun c_18_1 => ?_)
  · refine lv_iconst (v := (-1)) hx hb dX5_queued_35 (by decide) ?_
    exact kiret hx hb hr hlocks hS (by decide) (by decide) dX5_queued_36 (⟨r, hr9, rfl, hp, Or.inr ⟨c_18_1, rfl⟩⟩)
  · obtain ⟨i, hi, rfl⟩ := ix_of (n := (qs r).length) (by omega) (Int32.not_lt.mpr hp) (Int32.not_le.mp c_18_1)
    obtain ⟨u, hu⟩ : ∃ u, (qs r)[i]? = some u := ⟨_, List.getElem?_eq_getElem hi⟩
    have hun := hP.qlt hr9 (List.mem_of_getElem? hu)
    refine lv_aload_n hx hb dX5_queued_21 rfl (lv_at hl 0 rfl) ?_
    refine lv_iload_n hx hb dX5_queued_22 rfl (lv_at hl 3 rfl) ?_
    refine kcallV (n := 1) F (cQ_get l G (fun q => H1.size ≤ q) A ad σ qs nT nW r i (ad 10 u) (by omega) (by rw [lsX_q _ _ _ _ hr9, List.getElem?_map, hu]; rfl)) wML_X5_234 wIM_Jx4a65c_get_915e3 wSE_Jx4a65c_Jx4a65c_get_915e3 wIN_Jx4a65c wCO_Jx4a65c_get_915e3 (by decide) rfl ⟨by decide, by decide⟩ (by obtain ⟨_, _, h⟩ := hP.lobj (i := r) (by omega); exact frec F h _ rfl) hS (fun q h => hA q (Nat.le_trans hS.1 h)) (fun q h => h) hP rfl hl.1 (Nat.le_of_ble_eq_true rfl) dX5_queued_23 ⟨by decide, by decide⟩ (fun E ce q9 H1 locs1 hx9 _ _ _ _ _ => hx9.elim) (fun v H1 locs1 hv hk hS => ?_)
    have hP := hP.old hk
    subst hv
    refine va_castS hx hb hown (hts _ wCL_X5_96) (hE.1.1.1 4 _ rfl).2 (frec F (hP.tick hun) _ rfl) dX5_queued_26 ?_
    refine gX2 F (hP.tick hun) 0 (by decide) wFL_X5_238 (fun _ h9 => h9) (v := .int (nI u)) rfl dX5_queued_29 ?_
    refine lv_goto (tgt := 36) hx hb dX5_queued_32 (by decide) ?_
    exact kiret hx hb hr hlocks hS (by decide) (by decide) dX5_queued_36 (⟨r, hr9, rfl, hp, Or.inl ⟨i, u, rfl, hu, rfl⟩⟩)

set_option maxHeartbeats 4000000 in
set_option maxRecDepth 100000 in
theorem kP_moneyBySeen (l : Launch) (G : GE) (A1 A : Nat → Prop) (ad : Nat → Nat → Nat) (σ : SG) (qs : Nat → List Nat) (nT nW : Nat) (hl9 : l.stackTraces = false) (hh : Int32) (f : Nat) (hf : σ 26 0 = nI f) (hfn : f ≤ nT) (hnT : nT ≤ 80) : KM l G A1 yX5_moneyBySeen cX5_moneyBySeen 3 (some .int) (rmL 6 2 12) [.ref (ad 0 0), .int hh] (PX G A ad σ qs nT nW) (fun v _ => ∃ j, j < 5 ∧ hh + 1 = nI j ∧ v = some (.int (σ 2 j + σ 3 j + σ 4 j + fBrT σ hh f + fBrM σ hh f))) (fun E _ => (E = xIO ∧ ¬ (∃ j, j < 5 ∧ hh + 1 = nI j))) := by
  refine KM.of (by decide) (Nat.le_of_ble_eq_true rfl) ?_
  intro p e s m args below meth c F hP ls hl
  have hx := F.1.1
  have hb := F.1.2.1
  have hown := F.1.2.2.2.1
  have hts := F.1.2.2.2.2
  have hr := F.2.1
  have hlocks := F.2.2.1
  have hE := F.2.2.2.2.2.1
  have hA := F.2.2.2.2.2.2
  have hS : va_S A1 s.heap s.heap [] := va_S.rf
  have hl : lv_has ls 3 [(0, .ref (ad 0 0)), (1, .int hh)] := hl
  have hP := hP
  refine lv_aload_n hx hb dX5_moneyBySeen_0 rfl (lv_at hl 0 rfl) ?_
  refine lv_iload_n hx hb dX5_moneyBySeen_1 rfl (lv_at hl 1 rfl) ?_
  refine kcallV (n := 1) F (kX5_tillAt l G (fun q => s.heap.size ≤ q) A ad σ qs nT nW hl9 hh) wML_X5_42 wIM_X5_tillAt wSE_X5_X5_tillAt wIN_X5 wCO_X5_tillAt (by decide) rfl ⟨by decide, by decide⟩ (frec F (hP.main rfl) _ rfl) hS (fun q h => hA q (Nat.le_trans hS.1 h)) (fun q h => h) hP rfl hl.1 (Nat.le_of_ble_eq_true rfl) dX5_moneyBySeen_2 ⟨by decide, by decide⟩ (fun E ce q9 H1 locs1 hx9 hk9 hS hc9 hv9 hf9 => kout (G := G) F.2.2.2.2.1 hlocks hS (by decide) (by decide) hc9 hv9 hf9 (⟨hx9.1, hx9.2⟩)) (fun v H1 locs1 hv hk hS => ?_)
  have hP := hP.old hk
  obtain ⟨j, hj, ej, rfl⟩ := hv
  refine lv_astore_n (lv' := [(2, .ref (ad 4 j)), (0, .ref (ad 0 0)), (1, .int hh)]) hx hb dX5_moneyBySeen_5 rfl hl (by decide) rfl (fun ls hl => ?_)
  refine lv_aload_n hx hb dX5_moneyBySeen_6 rfl (lv_at hl 0 rfl) ?_
  refine gX3 F (hP.till hj) 2 (by decide) wFL_X5_262 (fun _ h9 => h9) (v := .int (σ 2 j)) rfl dX5_moneyBySeen_7 ?_
  refine lv_aload_n hx hb dX5_moneyBySeen_10 rfl (lv_at hl 0 rfl) ?_
  refine gX3 F (hP.till hj) 3 (by decide) wFL_X5_265 (fun _ h9 => h9) (v := .int (σ 3 j)) rfl dX5_moneyBySeen_11 ?_
  refine lv_iadd hx hb dX5_moneyBySeen_14 ?_
  refine lv_aload_n hx hb dX5_moneyBySeen_15 rfl (lv_at hl 0 rfl) ?_
  refine gX3 F (hP.till hj) 4 (by decide) wFL_X5_268 (fun _ h9 => h9) (v := .int (σ 4 j)) rfl dX5_moneyBySeen_16 ?_
  refine lv_iadd hx hb dX5_moneyBySeen_19 ?_
  refine lv_aload_n hx hb dX5_moneyBySeen_20 rfl (lv_at hl 1 rfl) ?_
  refine lv_iload_n hx hb dX5_moneyBySeen_21 rfl (lv_at hl 2 rfl) ?_
  refine kcallV (n := 1) F (kX5_broughtByTickets l G (fun q => H1.size ≤ q) A ad σ qs nT nW hh f hf hfn hnT) wML_X5_271 wIM_X5_broughtByTickets wSE_X5_X5_broughtByTickets wIN_X5 wCO_X5_broughtByTickets (by decide) rfl ⟨by decide, by decide⟩ (frec F (hP.main rfl) _ rfl) hS (fun q h => hA q (Nat.le_trans hS.1 h)) (fun q h => h) hP rfl hl.1 (Nat.le_of_ble_eq_true rfl) dX5_moneyBySeen_22 ⟨by decide, by decide⟩ (fun E ce q9 H1 locs1 hx9 _ _ _ _ _ => hx9.elim) (fun v H1 locs1 hv hk hS => ?_)
  have hP := hP.old hk
  subst hv
  refine lv_iadd hx hb dX5_moneyBySeen_25 ?_
  refine lv_aload_n hx hb dX5_moneyBySeen_26 rfl (lv_at hl 1 rfl) ?_
  refine lv_iload_n hx hb dX5_moneyBySeen_27 rfl (lv_at hl 2 rfl) ?_
  refine kcallV (n := 1) F (kX5_broughtByMemberships l G (fun q => H1.size ≤ q) A ad σ qs nT nW hh f hf hfn hnT) wML_X5_275 wIM_X5_broughtByMemberships wSE_X5_X5_broughtByMemberships wIN_X5 wCO_X5_broughtByMemberships (by decide) rfl ⟨by decide, by decide⟩ (frec F (hP.main rfl) _ rfl) hS (fun q h => hA q (Nat.le_trans hS.1 h)) (fun q h => h) hP rfl hl.1 (Nat.le_of_ble_eq_true rfl) dX5_moneyBySeen_28 ⟨by decide, by decide⟩ (fun E ce q9 H1 locs1 hx9 _ _ _ _ _ => hx9.elim) (fun v H1 locs1 hv hk hS => ?_)
  have hP := hP.old hk
  subst hv
  refine lv_iadd hx hb dX5_moneyBySeen_31 ?_
  exact kiret hx hb hr hlocks hS (by decide) (by decide) dX5_moneyBySeen_32 (⟨j, hj, ej, rfl⟩)

set_option maxHeartbeats 4000000 in
set_option maxRecDepth 100000 in
theorem kP_advance (l : Launch) (G : GE) (A : Nat → Prop) (ad : Nat → Nat → Nat) (σ : SG) (qs : Nat → List Nat) (nT nW : Nat) (hl9 : l.stackTraces = false) (vd : Int32) (f : Nat) (hf : σ 26 0 = nI f) (hfn : f ≤ nT) (hnT : nT ≤ 80) : KM l G A yX5_advance cX5_advance 3 (some .int) (rmL 8 2 12) [.ref (ad 0 0), .int vd] (PX G A ad σ qs nT nW) (fun v H => ∃ d9, d9 ≠ 0 ∧ d9 ≤ 60 ∧ vd = nI d9 ∧ σ 25 0 + nI d9 ≤ 2000 ∧ v = some (.int ((fDays nT f d9 σ) 25 0)) ∧ PX G A ad (fDays nT f d9 σ) (eQ qs) nT nW H) (fun E H => PX G A ad σ qs nT nW H ∧ ((E = xIA ∧ (vd < 1 ∨ ¬ vd ≤ 60)) ∨ (E = xIS ∧ ∃ d9, d9 ≠ 0 ∧ d9 ≤ 60 ∧ vd = nI d9 ∧ ¬ σ 25 0 + nI d9 ≤ 2000))) := by
  refine KM.of (by decide) (Nat.le_of_ble_eq_true rfl) ?_
  intro p e s m args below meth c F hP ls hl
  have hx := F.1.1
  have hb := F.1.2.1
  have hown := F.1.2.2.2.1
  have hts := F.1.2.2.2.2
  have hr := F.2.1
  have hlocks := F.2.2.1
  have hE := F.2.2.2.2.2.1
  have hA := F.2.2.2.2.2.2
  have hS : va_S A s.heap s.heap [] := va_S.rf
  have hl : lv_has ls 3 [(0, .ref (ad 0 0)), (1, .int vd)] := hl
  have hP := hP
  refine lv_iload_n hx hb dX5_advance_0 rfl (lv_at hl 1 rfl) ?_
  refine lv_iconst (v := 1) hx hb dX5_advance_1 (by decide) ?_
  refine lv_bipush (v := 60) hx hb dX5_advance_2 (by decide) ?_
  refine kcallS (n := 3) F (kX5_checkRange l G (fun q => s.heap.size ≤ q) hl9 vd 1 60) wML_X5_46 wST_X5_checkRange wIN_X5 wCO_X5_checkRange (by decide) rfl ⟨by decide, by decide⟩ hS (fun q h => hA q (Nat.le_trans hS.1 h)) (fun q h => h) trivial rfl hl.1 (Nat.le_of_ble_eq_true rfl) dX5_advance_4 ⟨by decide, by decide⟩ (fun E ce q9 H1 locs1 hx9 hk9 hS hc9 hv9 hf9 => kout (G := G) F.2.2.2.2.1 hlocks hS (by decide) (by decide) hc9 hv9 hf9 (⟨hP.old hk9, Or.inl (⟨hx9.1, hx9.2⟩)⟩)) (fun v H1 locs1 hv hk hS => ?_)
  obtain ⟨rfl, h1, h2⟩ := hv
  have hP := hP.old hk
  obtain ⟨d8, hd8, rfl⟩ := rg_of (n := 60) (by decide) (i32_1 h1) (show _ ≤ nI 60 from h2)
  have hd1 : d8 ≠ 0 := fun z => h1 (by rw [z]; decide)
  refine lv_aload_n hx hb dX5_advance_7 rfl (lv_at hl 0 rfl) ?_
  refine gX5 F (hP.main rfl) 5 (by decide) wFL_X5_65 (fun _ h9 => h9) (v := .int (σ 25 0)) rfl dX5_advance_8 ?_
  refine lv_iload_n hx hb dX5_advance_11 rfl (lv_at hl 1 rfl) ?_
  refine lv_iadd hx hb dX5_advance_12 ?_
  refine lv_sipush (v := 2000) hx hb dX5_advance_13 (by decide) ?_
  refine lv_icmp_le (tgt := 29) hx hb dX5_advance_16 (by decide) (fun c_16_1 => ?_) (fun c_16_1 => ?_)
  · have hle := c_16_1
    refine lv_iconst (v := 0) hx hb dX5_advance_29 (by decide) ?_
    refine lv_istore_n (lv' := [(2, .int 0), (0, .ref (ad 0 0)), (1, .int (nI d8))]) hx hb dX5_advance_30 rfl hl (by decide) rfl (fun ls hl => ?_)
    have L31 : ∀ (n9 : Nat) (σ1 : SG) (qs1 : Nat → List Nat) (f1 i : Nat) (h3 : i ≤ d8) (h4 : d8 < i + n9) (hT : fDays nT f1 (d8 - i) σ1 = fDays nT f d8 σ) (hf1 : σ1 26 0 = nI f1) (hfn1 : f1 ≤ nT) (hq1 : eQ qs1 = eQ qs) (hq2 : i ≠ 0 → qs1 = eQ qs) (H : Heap) (locs : List Loc) (ls : Array Slot), va_S A s.heap H locs → PX G A ad σ1 qs1 nT nW H → lv_has ls 3 [(2, .int (nI i)), (0, .ref (ad 0 0)), (1, .int (nI d8))] → W p l e (rmL 8 2 12) s m args below meth c H locs (0 + (rmL 1 1 6).cells) (0 + (rmL 1 1 6).slots) (KE below A (fun v H => ∃ d9, d9 ≠ 0 ∧ d9 ≤ 60 ∧ nI d8 = nI d9 ∧ σ 25 0 + nI d9 ≤ 2000 ∧ v = some (.int ((fDays nT f d9 σ) 25 0)) ∧ PX G A ad (fDays nT f d9 σ) (eQ qs) nT nW H) (fun E H => PX G A ad σ qs nT nW H ∧ ((E = xIA ∧ (nI d8 < 1 ∨ ¬ nI d8 ≤ 60)) ∨ (E = xIS ∧ ∃ d9, d9 ≠ 0 ∧ d9 ≤ 60 ∧ nI d8 = nI d9 ∧ ¬ σ 25 0 + nI d9 ≤ 2000))) args s (rmL 8 2 12)) (F0 m 31 ls []) := by
      intro n9
      induction n9 with
      | zero =>
        intro σ1 qs1 f1 i h3 h4 hT hf1 hfn1 hq1 hq2 H locs ls hS hP hl
        exact absurd True.intro (by omega)
      | succ n9 ih31 =>
        intro σ1 qs1 f1 i h3 h4 hT hf1 hfn1 hq1 hq2 H locs ls hS hP hl
        refine lv_iload_n hx hb dX5_advance_31 rfl (lv_at hl 0 rfl) ?_
        refine lv_iload_n hx hb dX5_advance_32 rfl (lv_at hl 2 rfl) ?_
        refine lv_icmp_ge (tgt := 46) hx hb dX5_advance_33 (by decide) (fun c_33_2 => ?_) (fun c_33_2 => ?_)
        · have ei := nI_eqle (n := d8) h3 (by omega) c_33_2
          rw [ei, Nat.sub_self] at hT
          have hT : σ1 = fDays nT f d8 σ := hT
          rw [hq2 (by rw [ei]; exact hd1), hT] at hP
          refine lv_aload_n hx hb dX5_advance_46 rfl (lv_at hl 1 rfl) ?_
          refine gX5 F (hP.main rfl) 5 (by decide) wFL_X5_65 (fun _ h9 => h9) (v := .int ((fDays nT f d8 σ) 25 0)) rfl dX5_advance_47 ?_
          exact kiret hx hb hr hlocks hS (by decide) (by decide) dX5_advance_50 (⟨d8, hd1, hd8, rfl, hle, rfl, hP⟩)
        · have hi := nI_lt' (n := d8) h3 (by omega) c_33_2
          refine lv_aload_n hx hb dX5_advance_36 rfl (lv_at hl 1 rfl) ?_
          refine kcallV (n := 0) F (kX5_endDay l G A ad σ1 qs1 nT nW f1 hf1 hfn1 hnT) wML_X5_225 wIM_X5_endDay wSE_X5_X5_endDay wIN_X5 wCO_X5_endDay (by decide) rfl ⟨by decide, by decide⟩ (frec F (hP.main rfl) _ rfl) hS (fun _ h => h) (fun q h => hA q (Nat.le_trans hS.1 h)) hP rfl hl.1 (Nat.le_of_ble_eq_true rfl) dX5_advance_37 ⟨by decide, by decide⟩ (fun E ce q9 H1 locs1 hx9 _ _ _ _ _ => hx9.elim) (fun v H1 locs1 hv hk hS => ?_)
          obtain ⟨rfl, hP⟩ := hv
          refine lv_iinc (v := (nI (i + 1))) (lv' := [(2, .int (nI (i + 1))), (0, .ref (ad 0 0)), (1, .int (nI d8))]) hx hb dX5_advance_40 hl (k := 0) rfl (nI_1 _) (by decide) rfl (fun ls hl => ?_)
          refine lv_goto (tgt := 31) hx hb dX5_advance_43 (by decide) ?_
          exact ih31 (fEnd f1 nT σ1) (eQ qs1) nT (i + 1) (by omega) (by omega) (by rw [← hT, show d8 - i = d8 - (i + 1) + 1 by omega]; rfl) fEnd_26 (Nat.le_refl _) (by rw [eQ_eQ, hq1]) (fun _ => hq1) _ _ _ hS hP (lv_sub hl [0, 1, 2] rfl)
    exact L31 (d8 + 1) σ qs f 0 (by omega) (by omega) rfl hf hfn rfl (fun z => absurd rfl z) _ _ _ hS hP (lv_sub hl [0, 1, 2] rfl)
  · exact kthrow F hl9 hS hl.1 (cls := xIS) (text := "beyond the last day") (ik := 72) (is := 223) (ic := 76) (by decide +kernel) wCL_X5_72 wIN_java_lang_IllegalStateException tx_223 (by simp [nwCast]) is_good is_bad is_ot dX5_advance_19 dX5_advance_22 dX5_advance_23 dX5_advance_25 dX5_advance_28 (by decide) (Nat.le_of_ble_eq_true rfl) (by decide) (by decide) (by decide) (by decide) (fun H1 hz hq => ⟨hP.old ⟨hz, fun q h _ => hq q h⟩, Or.inr (⟨rfl, d8, hd1, hd8, rfl, c_16_1⟩)⟩)

set_option maxHeartbeats 4000000 in
set_option maxRecDepth 100000 in
theorem kP_held (l : Launch) (G : GE) (A1 A : Nat → Prop) (ad : Nat → Nat → Nat) (σ : SG) (qs : Nat → List Nat) (nT nW : Nat) (hl9 : l.stackTraces = false) (f : Nat) (hf : σ 26 0 = nI f) (hfn : f ≤ nT) (hnT : nT ≤ 80) : KM l G A1 yX5_held cX5_held 4 (some .int) (rmL 4 0 0) [.ref (ad 0 0)] (PX G A ad σ qs nT nW) (fun v _ => v = some (.int (fHeld σ f nT))) (fun _ _ => False) := by
  refine KM.of (by decide) (Nat.le_of_ble_eq_true rfl) ?_
  intro p e s m args below meth c F hP ls hl
  have hx := F.1.1
  have hb := F.1.2.1
  have hown := F.1.2.2.2.1
  have hts := F.1.2.2.2.2
  have hr := F.2.1
  have hlocks := F.2.2.1
  have hE := F.2.2.2.2.2.1
  have hA := F.2.2.2.2.2.2
  have hS : va_S A1 s.heap s.heap [] := va_S.rf
  have hl : lv_has ls 4 [(0, .ref (ad 0 0))] := hl
  have hP := hP
  refine lv_iconst (v := 0) hx hb dX5_held_0 (by decide) ?_
  refine lv_istore_n (lv' := [(1, .int 0), (0, .ref (ad 0 0))]) hx hb dX5_held_1 rfl hl (by decide) rfl (fun ls hl => ?_)
  refine lv_aload_n hx hb dX5_held_2 rfl (lv_at hl 1 rfl) ?_
  refine gX5 F (hP.main rfl) 6 (by decide) wFL_X5_278 (fun _ h9 => h9) (v := .int (σ 26 0)) rfl dX5_held_3 ?_
  refine W.eq (g2 := F0 m 6 ls [.int (nI f)]) (congrArg (fun z => F0 m 6 ls [.int z]) (hf)) ?_
  refine lv_istore_n (lv' := [(2, .int (nI f)), (1, .int 0), (0, .ref (ad 0 0))]) hx hb dX5_held_6 rfl hl (by decide) rfl (fun ls hl => ?_)
  have L7 : ∀ (n9 : Nat) (x1 : Int32) (i : Nat) (h1 : i ≤ nT) (h2 : nT < i + n9) (hT : itr (fHT1 σ) i (nT - i) x1 = fHT σ f nT) (H : Heap) (locs : List Loc) (ls : Array Slot), va_S A1 s.heap H locs → PX G A ad σ qs nT nW H → lv_has ls 4 [(2, .int (nI i)), (1, .int x1), (0, .ref (ad 0 0))] → W p l e (rmL 4 0 0) s m args below meth c H locs 0 0 (KE below A1 (fun v _ => v = some (.int (fHeld σ f nT))) (fun _ _ => False) args s (rmL 4 0 0)) (F0 m 7 ls []) := by
    intro n9
    induction n9 with
    | zero =>
      intro x1 i h1 h2 hT H locs ls hS hP hl
      exact absurd True.intro (by omega)
    | succ n9 ih7 =>
      intro x1 i h1 h2 hT H locs ls hS hP hl
      refine lv_iload_n hx hb dX5_held_7 rfl (lv_at hl 0 rfl) ?_
      refine lv_aload_n hx hb dX5_held_8 rfl (lv_at hl 2 rfl) ?_
      refine gX5 F (hP.main rfl) 3 (by decide) wFL_X5_30 (fun _ h9 => h9) (v := .ref (ad 7 12)) rfl dX5_held_9 ?_
      refine kcallV (n := 0) F (cQ_size l G (fun q => H.size ≤ q) A ad σ qs nT nW 12 (by decide)) wML_X5_173 wIM_Jx4a65c_size_8abf5 wSE_Jx4a65c_Jx4a65c_size_8abf5 wIN_Jx4a65c wCO_Jx4a65c_size_8abf5 (by decide) rfl ⟨by decide, by decide⟩ (by obtain ⟨_, _, h⟩ := hP.lobj (i := 12) (by decide); exact frec F h _ rfl) hS (fun q h => hA q (Nat.le_trans hS.1 h)) (fun q h => h) hP rfl hl.1 (Nat.le_of_ble_eq_true rfl) dX5_held_12 ⟨by decide, by decide⟩ (fun E ce q9 H1 locs1 hx9 _ _ _ _ _ => hx9.elim) (fun v H1 locs1 hv hk hS => ?_)
      have hP := hP.old hk
      rw [lsX_12, List.length_map, List.length_range] at hv
      subst hv
      refine lv_icmp_ge (tgt := 54) hx hb dX5_held_15 (by decide) (fun c_15_1 => ?_) (fun c_15_1 => ?_)
      · have ei := nI_eqle (n := nT) h1 (by omega) c_15_1
        rw [ei, itr_end] at hT
        subst hT
        refine lv_iconst (v := 0) hx hb dX5_held_54 (by decide) ?_
        refine lv_istore_n (lv' := [(2, .int 0), (1, .int (fHT σ f nT)), (0, .ref (ad 0 0))]) hx hb dX5_held_55 rfl hl (by decide) rfl (fun ls hl => ?_)
        have L56 : ∀ (n9 : Nat) (x1 : Int32) (i : Nat) (h1 : i ≤ 6) (h2 : 6 < i + n9) (hT : itr (fHM1 σ) i (6 - i) x1 = fHeld σ f nT) (H : Heap) (locs : List Loc) (ls : Array Slot), va_S A1 s.heap H locs → PX G A ad σ qs nT nW H → lv_has ls 4 [(2, .int (nI i)), (1, .int x1), (0, .ref (ad 0 0))] → W p l e (rmL 4 0 0) s m args below meth c H locs 0 0 (KE below A1 (fun v _ => v = some (.int (fHeld σ f nT))) (fun _ _ => False) args s (rmL 4 0 0)) (F0 m 56 ls []) := by
          intro n9
          induction n9 with
          | zero =>
            intro x1 i h1 h2 hT H locs ls hS hP hl
            exact absurd True.intro (by omega)
          | succ n9 ih56 =>
            intro x1 i h1 h2 hT H locs ls hS hP hl
            refine lv_iload_n hx hb dX5_held_56 rfl (lv_at hl 0 rfl) ?_
            refine lv_aload_n hx hb dX5_held_57 rfl (lv_at hl 2 rfl) ?_
            refine gX5 F (hP.main rfl) 2 (by decide) wFL_X5_23 (fun _ h9 => h9) (v := .ref (ad 3 0)) rfl dX5_held_58 ?_
            refine xalen hx hb hE.1.1 hP.members 2 rfl dX5_held_61 ?_
            refine lv_icmp_ge (tgt := 91) hx hb dX5_held_62 (by decide) (fun c_62_2 => ?_) (fun c_62_2 => ?_)
            · have ei := nI_eqle (n := 6) h1 (by decide) c_62_2
              rw [ei, itr_end] at hT
              refine lv_iload_n hx hb dX5_held_91 rfl (lv_at hl 1 rfl) ?_
              exact kiret hx hb hr hlocks hS (by decide) (by decide) dX5_held_92 (by rw [hT])
            · have hi := nI_lt' (n := 6) h1 (by decide) c_62_2
              refine lv_iload_n hx hb dX5_held_65 rfl (lv_at hl 1 rfl) ?_
              refine lv_aload_n hx hb dX5_held_66 rfl (lv_at hl 2 rfl) ?_
              refine gX5 F (hP.main rfl) 2 (by decide) wFL_X5_23 (fun _ h9 => h9) (v := .ref (ad 3 0)) rfl dX5_held_67 ?_
              refine lv_iload_n hx hb dX5_held_70 rfl (lv_at hl 0 rfl) ?_
              refine xaald hx hb hE.1.1 hP.members 2 rfl rfl hi (by decide) (rfs_at hi) dX5_held_71 ?_
              refine lv_aload_n hx hb dX5_held_72 rfl (lv_at hl 2 rfl) ?_
              refine gX5 F (hP.main rfl) 5 (by decide) wFL_X5_65 (fun _ h9 => h9) (v := .int (σ 25 0)) rfl dX5_held_73 ?_
              refine kcallV (n := 1) F (kX0_daysLeft l G (fun q => H.size ≤ q) A ad σ qs nT nW i hi (σ 25 0)) wML_X5_281 wIM_X0_daysLeft wSE_X0_X0_daysLeft wIN_X0 wCO_X0_daysLeft (by decide) rfl ⟨by decide, by decide⟩ (frec F (hP.member hi) _ rfl) hS (fun q h => hA q (Nat.le_trans hS.1 h)) (fun q h => h) hP rfl hl.1 (Nat.le_of_ble_eq_true rfl) dX5_held_76 ⟨by decide, by decide⟩ (fun E ce q9 H1 locs1 hx9 _ _ _ _ _ => hx9.elim) (fun v H1 locs1 hv hk hS => ?_)
              have hP := hP.old hk
              subst hv
              refine lv_sipush (v := 200) hx hb dX5_held_79 (by decide) ?_
              refine lv_imul hx hb dX5_held_82 ?_
              refine lv_iadd hx hb dX5_held_83 ?_
              refine lv_istore_n (lv' := [(1, .int (x1 + ((fLeft (σ 9 i) (σ 25 0)) * 200))), (2, .int (nI i)), (0, .ref (ad 0 0))]) hx hb dX5_held_84 rfl hl (by decide) rfl (fun ls hl => ?_)
              refine lv_iinc (v := (nI (i + 1))) (lv' := [(2, .int (nI (i + 1))), (1, .int (x1 + ((fLeft (σ 9 i) (σ 25 0)) * 200))), (0, .ref (ad 0 0))]) hx hb dX5_held_85 hl (k := 1) rfl (nI_1 _) (by decide) rfl (fun ls hl => ?_)
              refine lv_goto (tgt := 56) hx hb dX5_held_88 (by decide) ?_
              exact ih56 (x1 + fLeft (σ 9 i) (σ 25 0) * 200) (i + 1) (by omega) (by omega) (by rw [itr_step hi] at hT; exact hT) _ _ _ hS hP (lv_sub hl [0, 1, 2] rfl)
        exact L56 7 (fHT σ f nT) 0 (by omega) (by omega) rfl _ _ _ hS hP (lv_sub hl [0, 1, 2] rfl)
      · have hi := nI_lt' (n := nT) h1 (by omega) c_15_1
        refine lv_aload_n hx hb dX5_held_18 rfl (lv_at hl 2 rfl) ?_
        refine gX5 F (hP.main rfl) 3 (by decide) wFL_X5_30 (fun _ h9 => h9) (v := .ref (ad 7 12)) rfl dX5_held_19 ?_
        refine lv_iload_n hx hb dX5_held_22 rfl (lv_at hl 0 rfl) ?_
        refine kcallV (n := 1) F (cQ_get l G (fun q => H1.size ≤ q) A ad σ qs nT nW 12 i (ad 10 i) (by decide) (by rw [lsX_12, List.getElem?_map, List.getElem?_range hi]; rfl)) wML_X5_234 wIM_Jx4a65c_get_915e3 wSE_Jx4a65c_Jx4a65c_get_915e3 wIN_Jx4a65c wCO_Jx4a65c_get_915e3 (by decide) rfl ⟨by decide, by decide⟩ (by obtain ⟨_, _, h⟩ := hP.lobj (i := 12) (by decide); exact frec F h _ rfl) hS (fun q h => hA q (Nat.le_trans hS.1 h)) (fun q h => h) hP rfl hl.1 (Nat.le_of_ble_eq_true rfl) dX5_held_23 ⟨by decide, by decide⟩ (fun E ce q9 H1 locs1 hx9 _ _ _ _ _ => hx9.elim) (fun v H1 locs1 hv hk hS => ?_)
        have hP := hP.old hk
        subst hv
        refine va_castS hx hb hown (hts _ wCL_X5_96) (hE.1.1.1 4 _ rfl).2 (frec F (hP.tick hi) _ rfl) dX5_held_26 ?_
        refine lv_astore_n (lv' := [(3, .ref (ad 10 i)), (2, .int (nI i)), (1, .int x1), (0, .ref (ad 0 0))]) hx hb dX5_held_29 rfl hl (by decide) rfl (fun ls hl => ?_)
        refine lv_iload_n hx hb dX5_held_30 rfl (lv_at hl 2 rfl) ?_
        refine lv_aload_n hx hb dX5_held_31 rfl (lv_at hl 0 rfl) ?_
        refine gX2 F (hP.tick hi) 5 (by decide) wFL_X5_110 (fun _ h9 => h9) (v := .int (σ 14 i)) rfl dX5_held_32 ?_
        refine lv_if_eq (tgt := 42) hx hb dX5_held_35 (by decide) (fun c_35_3 => ?_) (fun c_35_3 => ?_)
        · refine lv_aload_n hx hb dX5_held_42 rfl (lv_at hl 0 rfl) ?_
          refine gX2 F (hP.tick hi) 4 (by decide) wFL_X5_116 (fun _ h9 => h9) (v := .int (σ 13 i)) rfl dX5_held_43 ?_
          refine lv_iadd hx hb dX5_held_46 ?_
          refine lv_istore_n (lv' := [(1, .int (x1 + (σ 13 i))), (3, .ref (ad 10 i)), (2, .int (nI i)), (0, .ref (ad 0 0))]) hx hb dX5_held_47 rfl hl (by decide) rfl (fun ls hl => ?_)
          refine lv_iinc (v := (nI (i + 1))) (lv' := [(2, .int (nI (i + 1))), (1, .int (x1 + (σ 13 i))), (3, .ref (ad 10 i)), (0, .ref (ad 0 0))]) hx hb dX5_held_48 hl (k := 2) rfl (nI_1 _) (by decide) rfl (fun ls hl => ?_)
          refine lv_goto (tgt := 7) hx hb dX5_held_51 (by decide) ?_
          exact ih7 (x1 + σ 13 i) (i + 1) (by omega) (by omega) (by rw [itr_step hi, show fHT1 σ i x1 = x1 + σ 13 i from if_pos c_35_3] at hT; exact hT) _ _ _ hS hP (lv_sub hl [0, 1, 3] rfl)
        · refine lv_iconst (v := 0) hx hb dX5_held_38 (by decide) ?_
          refine lv_goto (tgt := 46) hx hb dX5_held_39 (by decide) ?_
          refine lv_iadd hx hb dX5_held_46 ?_
          refine lv_istore_n (lv' := [(1, .int (x1 + 0)), (3, .ref (ad 10 i)), (2, .int (nI i)), (0, .ref (ad 0 0))]) hx hb dX5_held_47 rfl hl (by decide) rfl (fun ls hl => ?_)
          refine lv_iinc (v := (nI (i + 1))) (lv' := [(2, .int (nI (i + 1))), (1, .int (x1 + 0)), (3, .ref (ad 10 i)), (0, .ref (ad 0 0))]) hx hb dX5_held_48 hl (k := 2) rfl (nI_1 _) (by decide) rfl (fun ls hl => ?_)
          refine lv_goto (tgt := 7) hx hb dX5_held_51 (by decide) ?_
          exact ih7 (x1 + 0) (i + 1) (by omega) (by omega) (by rw [itr_step hi, show fHT1 σ i x1 = x1 + 0 from if_neg c_35_3] at hT; exact hT) _ _ _ hS hP (lv_sub hl [0, 1, 3] rfl)
  exact L7 (nT + 1) 0 f hfn (by omega) rfl _ _ _ hS hP (lv_sub hl [0, 1, 2] rfl)

