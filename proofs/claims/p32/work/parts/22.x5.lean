set_option maxHeartbeats 4000000 in
set_option maxRecDepth 100000 in
theorem kX5_showRoom (l : Launch) (G : GE) (A : Nat → Prop) (ad : Nat → Nat → Nat) (σ : SG) (qs : Nat → List Nat) (nT nW : Nat) (t r : Nat) (ht : t < nT) (hr9 : r < 12) (hnW : nW ≤ 12) (hW0 : WFw σ nW) : KM l G A yX5_showRoom cX5_showRoom 6 none (rmL 6 0 0) [.ref (ad 0 0), .ref (ad 10 t), .ref (ad 5 r)] (PX G A ad σ qs nT nW) (fun v H => v = none ∧ PX G A ad (fShow nW t r σ) qs nT nW H) (fun _ _ => False) := by
  refine KM.of (by decide) (Nat.le_of_ble_eq_true rfl) ?_
  intro p e s m args below meth c F hP ls hl
  have hx := F.1.1
  have hb := F.1.2.1
  have hown := F.1.2.2.2.1
  have hts := F.1.2.2.2.2
  have hr := F.2.1
  have hlocks := F.2.2.1
  have hE := F.2.2.2.2.2.1
  have hA := F.2.2.2.2.2.2
  have hS : va_S A s.heap s.heap [] := va_S.rf
  have hl : lv_has ls 6 [(0, .ref (ad 0 0)), (1, .ref (ad 10 t)), (2, .ref (ad 5 r))] := hl
  have hP := hP
  refine lv_iconst (v := 1) hx hb dX5_showRoom_0 (by decide) ?_
  refine lv_aload_n hx hb dX5_showRoom_1 rfl (lv_at hl 2 rfl) ?_
  refine gX1 F (hP.room hr9) 0 (by decide) wFL_X5_170 (fun _ h9 => h9) (v := .int (nI r)) rfl dX5_showRoom_2 ?_
  refine lv_ishl hx hb dX5_showRoom_5 ?_
  refine W.eq (g2 := F0 m 6 ls [.int (rbit r)]) (congrArg (fun z => F0 m 6 ls [.int z]) (rfl)) ?_
  refine lv_istore_n (lv' := [(3, .int (rbit r)), (0, .ref (ad 0 0)), (1, .ref (ad 10 t)), (2, .ref (ad 5 r))]) hx hb dX5_showRoom_6 rfl hl (by decide) rfl (fun ls hl => ?_)
  refine lv_aload_n hx hb dX5_showRoom_7 rfl (lv_at hl 2 rfl) ?_
  refine gX2 F (hP.tick ht) 6 (by decide) wFL_X5_95 (fun _ h9 => h9) (v := .int (σ 15 t)) rfl dX5_showRoom_8 ?_
  refine lv_iload_n hx hb dX5_showRoom_11 rfl (lv_at hl 0 rfl) ?_
  refine lv_iand hx hb dX5_showRoom_12 ?_
  refine lv_if_eq (tgt := 17) hx hb dX5_showRoom_13 (by decide) (fun c_13_1 => ?_) (fun c_13_1 => ?_)
  · refine lv_aload_n hx hb dX5_showRoom_17 rfl (lv_at hl 2 rfl) ?_
    refine lv_dup hx hb dX5_showRoom_18 rfl ?_
    refine gX2 F (hP.tick ht) 6 (by decide) wFL_X5_95 (fun _ h9 => h9) (v := .int (σ 15 t)) rfl dX5_showRoom_19 ?_
    refine lv_iload_n hx hb dX5_showRoom_22 rfl (lv_at hl 0 rfl) ?_
    refine lv_ior hx hb dX5_showRoom_23 ?_
    refine pX2 F hS (hP.tick ht) (hP.otick ht) 6 (by decide) wFL_X5_95 (fun _ h9 => h9) rfl rfl rfl (by simp) dX5_showRoom_24 (fun H1 locs1 he1 z1 oq1 hS => ?_)
    have hP := hP.p15 ht he1 oq1
    refine lv_iconst (v := 0) hx hb dX5_showRoom_27 (by decide) ?_
    refine lv_istore (lv' := [(4, .int 0), (3, .int (rbit r)), (0, .ref (ad 0 0)), (1, .ref (ad 10 t)), (2, .ref (ad 5 r))]) hx hb dX5_showRoom_28 hl (by decide) rfl (fun ls hl => ?_)
    have L30 : ∀ (n9 : Nat) (σ1 : SG) (i : Nat) (h1 : i ≤ nW) (h2 : nW < i + n9) (hT : itr (fView r) i (nW - i) σ1 = itr (fView r) 0 nW (up σ 15 t (σ 15 t ||| rbit r))) (hW : WFw σ1 nW) (H : Heap) (locs : List Loc) (ls : Array Slot), va_S A s.heap H locs → PX G A ad σ1 qs nT nW H → lv_has ls 6 [(4, .int (nI i)), (3, .int (rbit r)), (0, .ref (ad 0 0)), (1, .ref (ad 10 t)), (2, .ref (ad 5 r))] → W p l e (rmL 6 0 0) s m args below meth c H locs 0 0 (KE below A (fun v H => v = none ∧ PX G A ad (fShow nW t r σ) qs nT nW H) (fun _ _ => False) args s (rmL 6 0 0)) (F0 m 30 ls []) := by
      intro n9
      induction n9 with
      | zero =>
        intro σ1 i h1 h2 hT hW H locs ls hS hP hl
        exact absurd True.intro (by omega)
      | succ n9 ih30 =>
        intro σ1 i h1 h2 hT hW H locs ls hS hP hl
        refine lv_iload hx hb dX5_showRoom_30 (lv_at hl 0 rfl) ?_
        refine lv_aload_n hx hb dX5_showRoom_32 rfl (lv_at hl 2 rfl) ?_
        refine gX5 F (hP.main rfl) 4 (by decide) wFL_X5_34 (fun _ h9 => h9) (v := .ref (ad 7 13)) rfl dX5_showRoom_33 ?_
        refine kcallV (n := 0) F (cQ_size l G (fun q => H.size ≤ q) A ad σ1 qs nT nW 13 (by decide)) wML_X5_173 wIM_Jx4a65c_size_8abf5 wSE_Jx4a65c_Jx4a65c_size_8abf5 wIN_Jx4a65c wCO_Jx4a65c_size_8abf5 (by decide) rfl ⟨by decide, by decide⟩ (by obtain ⟨_, _, h⟩ := hP.lobj (i := 13) (by decide); exact frec F h _ rfl) hS (fun q h => hA q (Nat.le_trans hS.1 h)) (fun q h => h) hP rfl hl.1 (Nat.le_of_ble_eq_true rfl) dX5_showRoom_36 ⟨by decide, by decide⟩ (fun E ce q9 H1 locs1 hx9 _ _ _ _ _ => hx9.elim) (fun v H1 locs1 hv hk hS => ?_)
        have hP := hP.old hk
        rw [lsX_13, List.length_map, List.length_range] at hv
        subst hv
        refine lv_icmp_ge (tgt := 92) hx hb dX5_showRoom_39 (by decide) (fun c_39_2 => ?_) (fun c_39_2 => ?_)
        · have ei := nI_eqle (n := nW) h1 (by omega) c_39_2
          exact kvret hx hb hr hlocks hS (by decide) (by decide) dX5_showRoom_92 (⟨rfl, by rw [show fShow nW t r σ = itr (fView r) 0 nW (up σ 15 t (σ 15 t ||| rbit r)) from if_pos c_13_1, ← hT, ei, itr_end]; exact hP⟩)
        · have hi := nI_lt' (n := nW) h1 (by omega) c_39_2
          refine lv_aload_n hx hb dX5_showRoom_42 rfl (lv_at hl 2 rfl) ?_
          refine gX5 F (hP.main rfl) 4 (by decide) wFL_X5_34 (fun _ h9 => h9) (v := .ref (ad 7 13)) rfl dX5_showRoom_43 ?_
          refine lv_iload hx hb dX5_showRoom_46 (lv_at hl 0 rfl) ?_
          refine kcallV (n := 1) F (cQ_get l G (fun q => H1.size ≤ q) A ad σ1 qs nT nW 13 i (ad 9 i) (by decide) (by rw [lsX_13, List.getElem?_map, List.getElem?_range hi]; rfl)) wML_X5_234 wIM_Jx4a65c_get_915e3 wSE_Jx4a65c_Jx4a65c_get_915e3 wIN_Jx4a65c wCO_Jx4a65c_get_915e3 (by decide) rfl ⟨by decide, by decide⟩ (by obtain ⟨_, _, h⟩ := hP.lobj (i := 13) (by decide); exact frec F h _ rfl) hS (fun q h => hA q (Nat.le_trans hS.1 h)) (fun q h => h) hP rfl hl.1 (Nat.le_of_ble_eq_true rfl) dX5_showRoom_48 ⟨by decide, by decide⟩ (fun E ce q9 H1 locs1 hx9 _ _ _ _ _ => hx9.elim) (fun v H1 locs1 hv hk hS => ?_)
          have hP := hP.old hk
          subst hv
          refine va_castS hx hb hown (hts _ wCL_X5_179) (hE.1.1.1 6 _ rfl).2 (frec F (hP.work hi) _ rfl) dX5_showRoom_51 ?_
          refine lv_astore (lv' := [(5, .ref (ad 9 i)), (4, .int (nI i)), (3, .int (rbit r)), (0, .ref (ad 0 0)), (1, .ref (ad 10 t)), (2, .ref (ad 5 r))]) hx hb dX5_showRoom_54 hl (by decide) rfl (fun ls hl => ?_)
          refine lv_aload hx hb dX5_showRoom_56 (lv_at hl 0 rfl) ?_
          refine gX4 F (hP.work hi) 2 (by decide) wFL_X5_193 (fun _ h9 => h9) (v := .int (σ1 19 i)) rfl dX5_showRoom_58 ?_
          refine lv_aload_n hx hb dX5_showRoom_61 rfl (lv_at hl 5 rfl) ?_
          refine gX1 F (hP.room hr9) 0 (by decide) wFL_X5_170 (fun _ h9 => h9) (v := .int (nI r)) rfl dX5_showRoom_62 ?_
          refine lv_icmp_ne (tgt := 86) hx hb dX5_showRoom_65 (by decide) (fun c_65_3 => ?_) (fun c_65_3 => ?_)
          · refine lv_iinc (v := (nI (i + 1))) (lv' := [(4, .int (nI (i + 1))), (5, .ref (ad 9 i)), (3, .int (rbit r)), (0, .ref (ad 0 0)), (1, .ref (ad 10 t)), (2, .ref (ad 5 r))]) hx hb dX5_showRoom_86 hl (k := 1) rfl (nI_1 _) (by decide) rfl (fun ls hl => ?_)
            refine lv_goto (tgt := 30) hx hb dX5_showRoom_89 (by decide) ?_
            exact ih30 σ1 (i + 1) (by omega) (by omega) (by rw [itr_step hi, (show fView r i σ1 = σ1 from if_neg c_65_3)] at hT; exact hT) (by have := hW.view (r := r) (w := i); rw [(show fView r i σ1 = σ1 from if_neg c_65_3)] at this; exact this) _ _ _ hS hP (lv_sub hl [0, 2, 3, 4, 5] rfl)
          · refine lv_aload hx hb dX5_showRoom_68 (lv_at hl 0 rfl) ?_
            refine lv_dup hx hb dX5_showRoom_70 rfl ?_
            refine gX4 F (hP.work hi) 7 (by decide) wFL_X5_239 (fun _ h9 => h9) (v := .int (σ1 24 i)) rfl dX5_showRoom_71 ?_
            refine lv_iconst (v := 1) hx hb dX5_showRoom_74 (by decide) ?_
            refine lv_iadd hx hb dX5_showRoom_75 ?_
            refine pX4 F hS (hP.work hi) (hP.owork hi) 7 (by decide) wFL_X5_239 (fun _ h9 => h9) rfl rfl rfl (by simp) dX5_showRoom_76 (fun H1 locs1 he1 z1 oq1 hS => ?_)
            have hP := hP.p24 hi he1 oq1
            refine lv_aload_n hx hb dX5_showRoom_79 rfl (lv_at hl 3 rfl) ?_
            refine lv_aload hx hb dX5_showRoom_80 (lv_at hl 0 rfl) ?_
            refine lv_aload_n hx hb dX5_showRoom_82 rfl (lv_at hl 5 rfl) ?_
            obtain ⟨h9, hh9, eh9⟩ := hW i hi
            refine kcallV (n := 2) F (kX5_payFee l G A ad (up σ1 24 i ((σ1 24 i) + 1)) qs nT nW i r h9 hi hr9 hh9 eh9) wML_X5_326 wIM_X5_payFee wSE_X5_X5_payFee wIN_X5 wCO_X5_payFee (by decide) rfl ⟨by decide, by decide⟩ (frec F (hP.main rfl) _ rfl) hS (fun _ h => h) (fun q h => hA q (Nat.le_trans hS.1 h)) hP rfl hl.1 (Nat.le_of_ble_eq_true rfl) dX5_showRoom_83 ⟨by decide, by decide⟩ (fun E ce q9 H1 locs1 hx9 _ _ _ _ _ => hx9.elim) (fun v H1 locs1 hv hk hS => ?_)
            obtain ⟨rfl, hP⟩ := hv
            refine lv_iinc (v := (nI (i + 1))) (lv' := [(4, .int (nI (i + 1))), (5, .ref (ad 9 i)), (3, .int (rbit r)), (0, .ref (ad 0 0)), (1, .ref (ad 10 t)), (2, .ref (ad 5 r))]) hx hb dX5_showRoom_86 hl (k := 1) rfl (nI_1 _) (by decide) rfl (fun ls hl => ?_)
            refine lv_goto (tgt := 30) hx hb dX5_showRoom_89 (by decide) ?_
            exact ih30 (fPay (up σ1 24 i ((σ1 24 i) + 1)) i r) (i + 1) (by omega) (by omega) (by rw [itr_step hi, (show fView r i σ1 = (fPay (up σ1 24 i ((σ1 24 i) + 1)) i r) from if_pos c_65_3)] at hT; exact hT) (by have := hW.view (r := r) (w := i); rw [(show fView r i σ1 = (fPay (up σ1 24 i ((σ1 24 i) + 1)) i r) from if_pos c_65_3)] at this; exact this) _ _ _ hS hP (lv_sub hl [0, 2, 3, 4, 5] rfl)
    exact L30 (nW + 1) (up σ 15 t (σ 15 t ||| rbit r)) 0 (Nat.zero_le _) (by omega) rfl (fun w hw => by obtain ⟨h, h1, h2⟩ := hW0 w hw; exact ⟨h, h1, h2⟩) _ _ _ hS hP (lv_sub hl [0, 1, 2, 3, 4] rfl)
  · exact kvret hx hb hr hlocks hS (by decide) (by decide) dX5_showRoom_16 (⟨rfl, by rw [show fShow nW t r σ = σ from if_neg c_13_1]; exact hP⟩)

/-- the first ones of a queue enter while there is room for n -/
def fLet (nW r : Nat) : Nat → SG → (Nat → List Nat) → SG × (Nat → List Nat)
  | 0, σ, qs => (σ, qs)
  | n + 1, σ, qs => match qs r with
    | [] => (σ, qs)
    | t :: q => fLet nW r n (fShow nW t r (up (up σ 17 t 0) 7 r (σ 7 r + 1))) (sq qs r q)
theorem fLet_nil {nW r n : Nat} {σ : SG} {qs : Nat → List Nat} (h : qs r = []) : fLet nW r n σ qs = (σ, qs) := by
  cases n with
  | zero => rfl
  | succ n => simp only [fLet]; rw [h]
theorem fLet_cons {nW r n t : Nat} {σ : SG} {qs : Nat → List Nat} {q : List Nat} (h : qs r = t :: q) : fLet nW r (n + 1) σ qs = fLet nW r n (fShow nW t r (up (up σ 17 t 0) 7 r (σ 7 r + 1))) (sq qs r q) := by
  simp only [fLet]; rw [h]
theorem itrView_ne {r g j : Nat} (h : g ≠ 1 ∧ g ≠ 2 ∧ g ≠ 22 ∧ g ≠ 24) : ∀ (n a : Nat) (σ : SG), itr (fView r) a n σ g j = σ g j
  | 0, _, _ => rfl
  | n + 1, a, σ => by rw [itr, itrView_ne h n (a + 1), fView_ne h]
theorem fShow_ne {nW t r g j : Nat} {σ : SG} (h : g ≠ 1 ∧ g ≠ 2 ∧ g ≠ 22 ∧ g ≠ 24 ∧ g ≠ 15) : fShow nW t r σ g j = σ g j := by
  unfold fShow
  split
  · rw [itrView_ne ⟨h.1, h.2.1, h.2.2.1, h.2.2.2.1⟩, up_f h.2.2.2.2]
  · rfl
theorem fLet_ne {nW r g j : Nat} (h : g ≠ 1 ∧ g ≠ 2 ∧ g ≠ 22 ∧ g ≠ 24 ∧ g ≠ 15 ∧ g ≠ 17 ∧ g ≠ 7) : ∀ (n : Nat) (σ : SG) (qs : Nat → List Nat), (fLet nW r n σ qs).1 g j = σ g j
  | 0, _, _ => rfl
  | n + 1, σ, qs => by
    cases hq : qs r with
    | nil => rw [fLet_nil hq]
    | cons t q =>
      rw [fLet_cons hq, fLet_ne h n, fShow_ne ⟨h.1, h.2.1, h.2.2.1, h.2.2.2.1, h.2.2.2.2.1⟩, up_f h.2.2.2.2.2.2, up_f h.2.2.2.2.2.1]
theorem free0 {a b : Nat} (ha : a < 2 ^ 30) (hb : b < 2 ^ 30) (h : a ≤ b) : ¬ (0 : Int32) < nI a - nI b := by
  intro z
  have t := Int32.lt_iff_toInt_lt.mp z
  rw [pk_sub_toInt ha hb] at t
  have e : (0 : Int32).toInt = 0 := by decide
  rw [e] at t
  omega
def freeN (σ : SG) (r c v : Nat) : Prop := σ 5 r = nI c ∧ σ 7 r = nI v ∧ c ≤ 1000 ∧ v ≤ 1000
set_option maxHeartbeats 4000000 in
set_option maxRecDepth 100000 in
theorem kX5_letQueueIn (l : Launch) (G : GE) (A : Nat → Prop) (ad : Nat → Nat → Nat) (σ : SG) (qs : Nat → List Nat) (nT nW : Nat) (r c9 v9 : Nat) (hr9 : r < 12) (hnW : nW ≤ 12) (hW0 : WFw σ nW) (hfr : freeN σ r c9 v9) (hQ0 : (qs r).length ≤ 1000) : KM l G A yX5_letQueueIn cX5_letQueueIn 4 none (rmL 7 0 0) [.ref (ad 0 0), .ref (ad 5 r)] (PX G A ad σ qs nT nW) (fun v H => v = none ∧ PX G A ad (fLet nW r (c9 - v9) σ qs).1 (fLet nW r (c9 - v9) σ qs).2 nT nW H) (fun _ _ => False) := by
  refine KM.of (by decide) (Nat.le_of_ble_eq_true rfl) ?_
  intro p e s m args below meth c F hP ls hl
  have hx := F.1.1
  have hb := F.1.2.1
  have hown := F.1.2.2.2.1
  have hts := F.1.2.2.2.2
  have hr := F.2.1
  have hlocks := F.2.2.1
  have hE := F.2.2.2.2.2.1
  have hA := F.2.2.2.2.2.2
  have hS : va_S A s.heap s.heap [] := va_S.rf
  have hl : lv_has ls 4 [(0, .ref (ad 0 0)), (1, .ref (ad 5 r))] := hl
  have hP := hP
  obtain ⟨ec9, ev9, hc9, hv9⟩ := hfr
  refine lv_aload_n hx hb dX5_letQueueIn_0 rfl (lv_at hl 1 rfl) ?_
  refine gX1 F (hP.room hr9) 2 (by decide) wFL_X5_131 (fun _ h9 => h9) (v := .int (σ 5 r)) rfl dX5_letQueueIn_1 ?_
  refine W.eq (g2 := F0 m 4 ls [.int (nI c9)]) (congrArg (fun z => F0 m 4 ls [.int z]) (ec9)) ?_
  refine lv_aload_n hx hb dX5_letQueueIn_4 rfl (lv_at hl 1 rfl) ?_
  refine gX1 F (hP.room hr9) 4 (by decide) wFL_X5_138 (fun _ h9 => h9) (v := .int (σ 7 r)) rfl dX5_letQueueIn_5 ?_
  refine W.eq (g2 := F0 m 8 ls [.int (nI v9), .int (nI c9)]) (congrArg (fun z => F0 m 8 ls [.int z, .int (nI c9)]) (ev9)) ?_
  refine lv_isub hx hb dX5_letQueueIn_8 ?_
  refine lv_istore_n (lv' := [(2, .int ((nI c9) - (nI v9))), (0, .ref (ad 0 0)), (1, .ref (ad 5 r))]) hx hb dX5_letQueueIn_9 rfl hl (by decide) rfl (fun ls hl => ?_)
  have L10 : ∀ (n9 : Nat) (σ1 : SG) (qs1 : Nat → List Nat) (n8 : Nat) (x8 : Int32) (h1 : n8 < n9) (h3 : n8 ≤ 1000) (hT : fLet nW r n8 σ1 qs1 = (fLet nW r (c9 - v9) σ qs)) (h0 : n8 = 0 → ¬ 0 < x8) (hx8 : n8 ≠ 0 → x8 = nI n8) (hW : WFw σ1 nW) (hQ : (qs1 r).length ≤ 1000) (H : Heap) (locs : List Loc) (ls : Array Slot), va_S A s.heap H locs → PX G A ad σ1 qs1 nT nW H → lv_has ls 4 [(2, .int x8), (0, .ref (ad 0 0)), (1, .ref (ad 5 r))] → W p l e (rmL 7 0 0) s m args below meth c H locs 0 0 (KE below A (fun v H => v = none ∧ PX G A ad (fLet nW r (c9 - v9) σ qs).1 (fLet nW r (c9 - v9) σ qs).2 nT nW H) (fun _ _ => False) args s (rmL 7 0 0)) (F0 m 10 ls []) := by
    intro n9
    induction n9 with
    | zero =>
      intro σ1 qs1 n8 x8 h1 h3 hT h0 hx8 hW hQ H locs ls hS hP hl
      exact absurd True.intro (by omega)
    | succ n9 ih10 =>
      intro σ1 qs1 n8 x8 h1 h3 hT h0 hx8 hW hQ H locs ls hS hP hl
      refine lv_iload_n hx hb dX5_letQueueIn_10 rfl (lv_at hl 0 rfl) ?_
      refine lv_if_le (tgt := 63) hx hb dX5_letQueueIn_11 (by decide) (fun c_11_1 => ?_) (fun c_11_1 => ?_)
      · obtain rfl : n8 = 0 := by
          cases n8 with
          | zero => rfl
          | succ k => exact absurd c_11_1 (Int32.not_le.mpr (by rw [hx8 (by omega)]; exact nI_lt (a := 0) (by omega) (by omega)))
        exact kvret hx hb hr hlocks hS (by decide) (by decide) dX5_letQueueIn_63 (⟨rfl, by rw [← hT]; exact hP⟩)
      · obtain ⟨k8, rfl⟩ : ∃ k8, n8 = k8 + 1 := by
          cases n8 with
          | zero => exact absurd (Int32.not_lt.mp (h0 rfl)) c_11_1
          | succ k => exact ⟨k, rfl⟩
        have ex8 := hx8 (by omega)
        refine lv_aload_n hx hb dX5_letQueueIn_14 rfl (lv_at hl 2 rfl) ?_
        refine gX1 F (hP.room hr9) 5 (by decide) wFL_X5_228 (fun _ h9 => h9) (v := .ref (ad 7 r)) rfl dX5_letQueueIn_15 ?_
        refine kcallV (n := 0) F (cQ_isEmpty l G (fun q => H.size ≤ q) A ad σ1 qs1 nT nW r (by omega)) wML_X5_315 wIM_Jx4a65c_isEmpty_aae02 wSE_Jx4a65c_Jx4a65c_isEmpty_aae02 wIN_Jx4a65c wCO_Jx4a65c_isEmpty_aae02 (by decide) rfl ⟨by decide, by decide⟩ (by obtain ⟨_, _, h⟩ := hP.lobj (i := r) (by omega); exact frec F h _ rfl) hS (fun q h => hA q (Nat.le_trans hS.1 h)) (fun q h => h) hP rfl hl.1 (Nat.le_of_ble_eq_true rfl) dX5_letQueueIn_18 ⟨by decide, by decide⟩ (fun E ce q9 H1 locs1 hx9 _ _ _ _ _ => hx9.elim) (fun v H1 locs1 hv hk hS => ?_)
        have hP := hP.old hk
        subst hv
        refine lv_if_ne (tgt := 63) hx hb dX5_letQueueIn_21 (by decide) (fun c_21_2 => ?_) (fun c_21_2 => ?_)
        · have hq : qs1 r = [] := by
            have := b2i_1.mp c_21_2
            rw [lsX_q _ _ _ _ hr9, List.length_map] at this
            have h9 := (nI_eq (b := 0) (by have := hQ; omega) (by decide)).mp (of_decide_eq_true this)
            exact List.eq_nil_of_length_eq_zero h9
          exact kvret hx hb hr hlocks hS (by decide) (by decide) dX5_letQueueIn_63 (⟨rfl, by rw [← hT, fLet_nil hq]; exact hP⟩)
        · obtain ⟨t, q9, hq⟩ : ∃ t q9, qs1 r = t :: q9 := by
            cases e : qs1 r with
            | nil => exact absurd (b2i_0.mp c_21_2) (by rw [lsX_q _ _ _ _ hr9, e, List.map_nil]; decide)
            | cons t q9 => exact ⟨t, q9, rfl⟩
          have ht : t < nT := by
            obtain ⟨_, _, _, _, _, _, _, h⟩ := hP
            exact h r hr9 t (by rw [hq]; exact List.mem_cons_self)
          refine lv_aload_n hx hb dX5_letQueueIn_24 rfl (lv_at hl 2 rfl) ?_
          refine gX1 F (hP.room hr9) 5 (by decide) wFL_X5_228 (fun _ h9 => h9) (v := .ref (ad 7 r)) rfl dX5_letQueueIn_25 ?_
          refine lv_iconst (v := 0) hx hb dX5_letQueueIn_28 (by decide) ?_
          refine kcallV (n := 1) F (cQ_remove l G A ad σ1 qs1 nT nW r 0 t hr9 (by rw [hq]; rfl)) wML_X5_319 wIM_Jx4a65c_remove_915e3 wSE_Jx4a65c_Jx4a65c_remove_915e3 wIN_Jx4a65c wCO_Jx4a65c_remove_915e3 (by decide) rfl ⟨by decide, by decide⟩ (by obtain ⟨_, _, h⟩ := hP.lobj (i := r) (by omega); exact frec F h _ rfl) hS (fun _ h => h) (fun q h => hA q (Nat.le_trans hS.1 h)) hP rfl hl.1 (Nat.le_of_ble_eq_true rfl) dX5_letQueueIn_29 ⟨by decide, by decide⟩ (fun E ce q9 H1 locs1 hx9 _ _ _ _ _ => hx9.elim) (fun v H1 locs1 hv hk hS => ?_)
          obtain ⟨rfl, hP⟩ := hv
          rw [hq, List.eraseIdx_cons_zero] at hP
          refine va_castS hx hb hown (hts _ wCL_X5_96) (hE.1.1.1 4 _ rfl).2 (frec F (hP.tick ht) _ rfl) dX5_letQueueIn_32 ?_
          refine lv_astore_n (lv' := [(3, .ref (ad 10 t)), (2, .int x8), (0, .ref (ad 0 0)), (1, .ref (ad 5 r))]) hx hb dX5_letQueueIn_35 rfl hl (by decide) rfl (fun ls hl => ?_)
          refine lv_aload_n hx hb dX5_letQueueIn_36 rfl (lv_at hl 0 rfl) ?_
          refine lv_iconst (v := 0) hx hb dX5_letQueueIn_37 (by decide) ?_
          refine pX2 F hS (hP.tick ht) (hP.otick ht) 8 (by decide) wFL_X5_100 (fun _ h9 => h9) rfl rfl rfl (by simp) dX5_letQueueIn_38 (fun H1 locs1 he1 z1 oq1 hS => ?_)
          have hP := hP.p17 ht he1 oq1
          refine lv_aload_n hx hb dX5_letQueueIn_41 rfl (lv_at hl 3 rfl) ?_
          refine lv_dup hx hb dX5_letQueueIn_42 rfl ?_
          refine gX1 F (hP.room hr9) 4 (by decide) wFL_X5_138 (fun _ h9 => h9) (v := .int (σ1 7 r)) rfl dX5_letQueueIn_43 ?_
          refine lv_iconst (v := 1) hx hb dX5_letQueueIn_46 (by decide) ?_
          refine lv_iadd hx hb dX5_letQueueIn_47 ?_
          refine pX1 F hS (hP.room hr9) (hP.oroom hr9) 4 (by decide) wFL_X5_138 (fun _ h9 => h9) rfl rfl rfl (by simp) dX5_letQueueIn_48 (fun H1 locs1 he1 z1 oq1 hS => ?_)
          have hP := hP.p7 hr9 he1 oq1
          refine lv_aload_n hx hb dX5_letQueueIn_51 rfl (lv_at hl 2 rfl) ?_
          refine lv_aload_n hx hb dX5_letQueueIn_52 rfl (lv_at hl 0 rfl) ?_
          refine lv_aload_n hx hb dX5_letQueueIn_53 rfl (lv_at hl 3 rfl) ?_
          refine kcallV (n := 2) F (kX5_showRoom l G A ad (up (up σ1 17 t 0) 7 r ((σ1 7 r) + 1)) (sq qs1 r q9) nT nW t r ht hr9 hnW (fun w hw => by obtain ⟨h, h1, h2⟩ := hW w hw; exact ⟨h, h1, h2⟩)) wML_X5_322 wIM_X5_showRoom wSE_X5_X5_showRoom wIN_X5 wCO_X5_showRoom (by decide) rfl ⟨by decide, by decide⟩ (frec F (hP.main rfl) _ rfl) hS (fun _ h => h) (fun q h => hA q (Nat.le_trans hS.1 h)) hP rfl hl.1 (Nat.le_of_ble_eq_true rfl) dX5_letQueueIn_54 ⟨by decide, by decide⟩ (fun E ce q9 H1 locs1 hx9 _ _ _ _ _ => hx9.elim) (fun v H1 locs1 hv hk hS => ?_)
          obtain ⟨rfl, hP⟩ := hv
          refine lv_iinc (v := (x8 + Int32.ofInt (-1))) (lv' := [(2, .int (x8 + Int32.ofInt (-1))), (3, .ref (ad 10 t)), (0, .ref (ad 0 0)), (1, .ref (ad 5 r))]) hx hb dX5_letQueueIn_57 hl (k := 1) rfl rfl (by decide) rfl (fun ls hl => ?_)
          refine lv_goto (tgt := 10) hx hb dX5_letQueueIn_60 (by decide) ?_
          exact ih10 (fShow nW t r (up (up σ1 17 t 0) 7 r ((σ1 7 r) + 1))) (sq qs1 r q9) k8 (x8 + Int32.ofInt (-1)) (by omega) (by omega) (by rw [fLet_cons hq] at hT; exact hT) (fun e => by rw [ex8, e]; decide) (fun _ => by rw [ex8]; exact pk_m1 k8) (fun w hw => by obtain ⟨h, h1, h2⟩ := hW w hw; exact ⟨h, h1, by rw [fShow_ne (by decide)]; exact h2⟩) (by rw [sq_s]; rw [hq] at hQ; simp at hQ; omega) _ _ _ hS hP (lv_sub hl [0, 2, 3] rfl)
  exact L10 (c9 - v9 + 1) σ qs (c9 - v9) (nI c9 - nI v9) (by omega) (by omega) rfl (fun e => free0 (by omega) (by omega) (by omega)) (fun e => pk_sub (by omega)) hW0 hQ0 _ _ _ hS hP (lv_sub hl [0, 1, 2] rfl)

