/-! LOOPS of the class: what they leave -/
def itr {S : Type} (f : Nat → S → S) : Nat → Nat → S → S
  | _, 0, s => s
  | a, n + 1, s => itr f (a + 1) n (f a s)
theorem itr_step {S : Type} {f : Nat → S → S} {i n : Nat} {s : S} (h : i < n) : itr f i (n - i) s = itr f (i + 1) (n - (i + 1)) (f i s) := by
  obtain ⟨k, hk⟩ : ∃ k, n - i = k + 1 := ⟨n - i - 1, by omega⟩
  rw [hk, show n - (i + 1) = k by omega]
  rfl
theorem itr_end {S : Type} {f : Nat → S → S} {i : Nat} {s : S} : itr f i (i - i) s = s := by rw [Nat.sub_self]; rfl
def cntF (p : Nat → Bool) : Nat → Nat → Nat
  | _, 0 => 0
  | a, n + 1 => (if p a then 1 else 0) + cntF p (a + 1) n
theorem cnt_step {p : Nat → Bool} {i n : Nat} (h : i < n) : cntF p i (n - i) = (if p i then 1 else 0) + cntF p (i + 1) (n - (i + 1)) := by
  obtain ⟨k, hk⟩ : ∃ k, n - i = k + 1 := ⟨n - i - 1, by omega⟩
  rw [hk, show n - (i + 1) = k by omega]
  rfl
theorem cnt_end {p : Nat → Bool} {i : Nat} : cntF p i (i - i) = 0 := by rw [Nat.sub_self]; rfl
theorem cntF_le (p : Nat → Bool) : ∀ n a, cntF p a n ≤ n
  | 0, _ => Nat.le_refl _
  | n + 1, a => by
    have := cntF_le p n (a + 1)
    simp only [cntF]
    split <;> omega
theorem nI_eqle {i n : Nat} (hi : i ≤ n) (hn : n < 2 ^ 31) (h : nI n ≤ nI i) : i = n := by have := (nI_leI hn (by omega)).mp h; omega
theorem nI_lt' {i n : Nat} (hi : i ≤ n) (hn : n < 2 ^ 31) (h : ¬ nI n ≤ nI i) : i < n := by
  rcases Nat.lt_or_ge i n with q | q
  · exact q
  · exact absurd (nI_le q (by omega)) h
theorem PX.inj10 {G : GE} {A : Nat → Prop} {ad : Nat → Nat → Nat} {σ : SG} {qs : Nat → List Nat} {nT nW : Nat} {H : Heap} (h : PX G A ad σ qs nT nW H) {t u : Nat} (ht : t < nT) (hu : u < nT) (e : ad 10 t = ad 10 u) : t = u := by
  obtain ⟨ba, bc, bm, h, -⟩ := h
  have d : ∀ x, x < nT → dmX nT nW bc 10 x := fun x hx => by simp [dmX, dmO, hx]
  exact (h.2.1 10 t 10 u (d t ht) (d u hu) (by simpa [adB] using e)).2
def pOf (σ : SG) (mm ss : Int32) : Nat → Bool := fun t => fOf (σ 14 t) (σ 10 t) (σ 12 t) mm ss
def fClosed (σ : SG) (t : Nat) : Bool := (List.range 12).all fun r => !(fFor (σ 11 t) (nI (r / 3)) && decide (σ 6 r = 0))
theorem fClosed_iff {σ : SG} {t : Nat} : fClosed σ t = true ↔ ∀ r, r < 12 → ¬ (fFor (σ 11 t) (nI (r / 3)) = true ∧ σ 6 r = 0) := by
  unfold fClosed
  rw [List.all_eq_true]
  constructor
  · intro h r hr ⟨h1, h2⟩
    have := h r (List.mem_range.mpr hr)
    simp [h1, h2] at this
  · intro h r hr
    have := h r (List.mem_range.mp hr)
    cases h1 : fFor (σ 11 t) (nI (r / 3)) with
    | false => rfl
    | true =>
      have h2 : ¬ σ 6 r = 0 := fun z => this ⟨h1, z⟩
      simp [h2]
theorem fClosed_no {σ : SG} {t : Nat} (h : ¬ ∀ r, r < 12 → ¬ (fFor (σ 11 t) (nI (r / 3)) = true ∧ σ 6 r = 0)) : fClosed σ t = false := by
  cases c : fClosed σ t with
  | false => rfl
  | true => exact absurd (fClosed_iff.mp c) h
def fBook (σ : SG) (f i : Nat) (am : Int32) : SG := up (up σ f i (σ f i + am)) 1 i (σ 1 i + am)
def fPay (σ : SG) (w r : Nat) : SG := if σ 20 w = 0 then σ else fBook (fBook (up σ 22 w (σ 22 w + σ 21 w)) 2 (r / 3 + 1) (-(σ 21 w))) 2 ((σ 18 w).toNatClampNeg + 1) (σ 21 w)
def fView (r w : Nat) (σ : SG) : SG := if σ 19 w = nI r then fPay (up σ 24 w (σ 24 w + 1)) w r else σ
def rbit (r : Nat) : Int32 := (1 : Int32) <<< (nI r &&& 31)
def fShow (nW t r : Nat) (σ : SG) : SG := if σ 15 t &&& rbit r = 0 then itr (fView r) 0 nW (up σ 15 t (σ 15 t ||| rbit r)) else σ
def WFw (σ : SG) (nW : Nat) : Prop := ∀ w, w < nW → ∃ h, h < 4 ∧ σ 18 w = nI h
theorem fPay_ne {σ : SG} {w r g j : Nat} (h : g ≠ 1 ∧ g ≠ 2 ∧ g ≠ 22) : fPay σ w r g j = σ g j := by
  unfold fPay
  split
  · rfl
  · simp [fBook, up, h]
theorem fView_ne {σ : SG} {w r g j : Nat} (h : g ≠ 1 ∧ g ≠ 2 ∧ g ≠ 22 ∧ g ≠ 24) : fView r w σ g j = σ g j := by
  unfold fView
  split
  · rw [fPay_ne ⟨h.1, h.2.1, h.2.2.1⟩]
    simp [up, h]
  · rfl
theorem WFw.view {σ : SG} {nW r w : Nat} (h : WFw σ nW) : WFw (fView r w σ) nW := fun x hx => by
  rw [fView_ne (by decide)]
  exact h x hx
theorem fPay_eq {σ : SG} {w r h : Nat} (hh : h < 4) (eh : σ 18 w = nI h) (c : ¬ σ 20 w = 0) : fPay σ w r = fBook (fBook (up σ 22 w (σ 22 w + σ 21 w)) 2 (r / 3 + 1) (-(σ 21 w))) 2 (h + 1) (σ 21 w) := by
  unfold fPay
  rw [if_neg c, eh, nI_clamp (by omega)]
set_option maxHeartbeats 4000000 in
set_option maxRecDepth 100000 in
theorem kX5_countOfToday (l : Launch) (G : GE) (A1 A : Nat → Prop) (ad : Nat → Nat → Nat) (σ : SG) (qs : Nat → List Nat) (nT nW : Nat) (mm ss : Int32) (f : Nat) (hf : σ 26 0 = nI f) (hfn : f ≤ nT) (hnT : nT ≤ 80) : KM l G A1 yX5_countOfToday cX5_countOfToday 5 (some .int) (rmL 4 0 0) [.ref (ad 0 0), .int mm, .int ss] (PX G A ad σ qs nT nW) (fun v _ => v = some (.int (nI (cntF (pOf σ mm ss) f (nT - f))))) (fun _ _ => False) := by
  refine KM.of (by decide) (Nat.le_of_ble_eq_true rfl) ?_
  intro p e s m args below meth c F hP ls hl
  have hx := F.1.1
  have hb := F.1.2.1
  have hown := F.1.2.2.2.1
  have hts := F.1.2.2.2.2
  have hr := F.2.1
  have hlocks := F.2.2.1
  have hE := F.2.2.2.2.2.1
  have hA := F.2.2.2.2.2.2
  have hS : va_S A1 s.heap s.heap [] := va_S.rf
  have hl : lv_has ls 5 [(0, .ref (ad 0 0)), (1, .int mm), (2, .int ss)] := hl
  have hP := hP
  refine lv_iconst (v := 0) hx hb dX5_countOfToday_0 (by decide) ?_
  refine lv_istore_n (lv' := [(3, .int 0), (0, .ref (ad 0 0)), (1, .int mm), (2, .int ss)]) hx hb dX5_countOfToday_1 rfl hl (by decide) rfl (fun ls hl => ?_)
  refine lv_aload_n hx hb dX5_countOfToday_2 rfl (lv_at hl 1 rfl) ?_
  refine gX5 F (hP.main rfl) 6 (by decide) wFL_X5_278 (fun _ h9 => h9) (v := .int (σ 26 0)) rfl dX5_countOfToday_3 ?_
  refine W.eq (g2 := F0 m 6 ls [.int (nI f)]) (congrArg (fun z => F0 m 6 ls [.int z]) (hf)) ?_
  refine lv_istore (lv' := [(4, .int (nI f)), (3, .int 0), (0, .ref (ad 0 0)), (1, .int mm), (2, .int ss)]) hx hb dX5_countOfToday_6 hl (by decide) rfl (fun ls hl => ?_)
  have L8 : ∀ (n9 : Nat) (i cn : Nat) (h1 : i ≤ nT) (h2 : nT < i + n9) (hT : cn + cntF (pOf σ mm ss) i (nT - i) = cntF (pOf σ mm ss) f (nT - f)) (H : Heap) (locs : List Loc) (ls : Array Slot), va_S A1 s.heap H locs → PX G A ad σ qs nT nW H → lv_has ls 5 [(4, .int (nI i)), (3, .int (nI cn)), (0, .ref (ad 0 0)), (1, .int mm), (2, .int ss)] → W p l e (rmL 4 0 0) s m args below meth c H locs 0 0 (KE below A1 (fun v _ => v = some (.int (nI (cntF (pOf σ mm ss) f (nT - f))))) (fun _ _ => False) args s (rmL 4 0 0)) (F0 m 8 ls []) := by
    intro n9
    induction n9 with
    | zero =>
      intro i cn h1 h2 hT H locs ls hS hP hl
      exact absurd True.intro (by omega)
    | succ n9 ih8 =>
      intro i cn h1 h2 hT H locs ls hS hP hl
      refine lv_iload hx hb dX5_countOfToday_8 (lv_at hl 0 rfl) ?_
      refine lv_aload_n hx hb dX5_countOfToday_10 rfl (lv_at hl 2 rfl) ?_
      refine gX5 F (hP.main rfl) 3 (by decide) wFL_X5_30 (fun _ h9 => h9) (v := .ref (ad 7 12)) rfl dX5_countOfToday_11 ?_
      refine kcallV (n := 0) F (cQ_size l G (fun q => H.size ≤ q) A ad σ qs nT nW 12 (by decide)) wML_X5_173 wIM_Jx4a65c_size_8abf5 wSE_Jx4a65c_Jx4a65c_size_8abf5 wIN_Jx4a65c wCO_Jx4a65c_size_8abf5 (by decide) rfl ⟨by decide, by decide⟩ (by obtain ⟨_, _, h⟩ := hP.lobj (i := 12) (by decide); exact frec F h _ rfl) hS (fun q h => hA q (Nat.le_trans hS.1 h)) (fun q h => h) hP rfl hl.1 (Nat.le_of_ble_eq_true rfl) dX5_countOfToday_14 ⟨by decide, by decide⟩ (fun E ce q9 H1 locs1 hx9 _ _ _ _ _ => hx9.elim) (fun v H1 locs1 hv hk hS => ?_)
      have hP := hP.old hk
      rw [lsX_12, List.length_map, List.length_range] at hv
      subst hv
      refine lv_icmp_ge (tgt := 49) hx hb dX5_countOfToday_17 (by decide) (fun c_17_1 => ?_) (fun c_17_1 => ?_)
      · obtain rfl := nI_eqle h1 (by omega) c_17_1
        rw [cnt_end, Nat.add_zero] at hT
        refine lv_iload_n hx hb dX5_countOfToday_49 rfl (lv_at hl 1 rfl) ?_
        exact kiret hx hb hr hlocks hS (by decide) (by decide) dX5_countOfToday_50 (by rw [hT])
      · have hi := nI_lt' h1 (by omega) c_17_1
        refine lv_aload_n hx hb dX5_countOfToday_20 rfl (lv_at hl 2 rfl) ?_
        refine gX5 F (hP.main rfl) 3 (by decide) wFL_X5_30 (fun _ h9 => h9) (v := .ref (ad 7 12)) rfl dX5_countOfToday_21 ?_
        refine lv_iload hx hb dX5_countOfToday_24 (lv_at hl 0 rfl) ?_
        refine kcallV (n := 1) F (cQ_get l G (fun q => H1.size ≤ q) A ad σ qs nT nW 12 i (ad 10 i) (by decide) (by rw [lsX_12, List.getElem?_map, List.getElem?_range hi]; rfl)) wML_X5_234 wIM_Jx4a65c_get_915e3 wSE_Jx4a65c_Jx4a65c_get_915e3 wIN_Jx4a65c wCO_Jx4a65c_get_915e3 (by decide) rfl ⟨by decide, by decide⟩ (by obtain ⟨_, _, h⟩ := hP.lobj (i := 12) (by decide); exact frec F h _ rfl) hS (fun q h => hA q (Nat.le_trans hS.1 h)) (fun q h => h) hP rfl hl.1 (Nat.le_of_ble_eq_true rfl) dX5_countOfToday_26 ⟨by decide, by decide⟩ (fun E ce q9 H1 locs1 hx9 _ _ _ _ _ => hx9.elim) (fun v H1 locs1 hv hk hS => ?_)
        have hP := hP.old hk
        subst hv
        refine va_castS hx hb hown (hts _ wCL_X5_96) (hE.1.1.1 4 _ rfl).2 (frec F (hP.tick hi) _ rfl) dX5_countOfToday_29 ?_
        refine lv_iload_n hx hb dX5_countOfToday_32 rfl (lv_at hl 3 rfl) ?_
        refine lv_iload_n hx hb dX5_countOfToday_33 rfl (lv_at hl 4 rfl) ?_
        refine kcallV (n := 2) F (kX2_isOfMember l G (fun q => H1.size ≤ q) A ad σ qs nT nW i hi mm ss) wML_X5_311 wIM_X2_isOfMember wSE_X2_X2_isOfMember wIN_X2 wCO_X2_isOfMember (by decide) rfl ⟨by decide, by decide⟩ (frec F (hP.tick hi) _ rfl) hS (fun q h => hA q (Nat.le_trans hS.1 h)) (fun q h => h) hP rfl hl.1 (Nat.le_of_ble_eq_true rfl) dX5_countOfToday_34 ⟨by decide, by decide⟩ (fun E ce q9 H1 locs1 hx9 _ _ _ _ _ => hx9.elim) (fun v H1 locs1 hv hk hS => ?_)
        have hP := hP.old hk
        subst hv
        refine lv_if_eq (tgt := 43) hx hb dX5_countOfToday_37 (by decide) (fun c_37_2 => ?_) (fun c_37_2 => ?_)
        · refine lv_iinc (v := (nI (i + 1))) (lv' := [(4, .int (nI (i + 1))), (3, .int (nI cn)), (0, .ref (ad 0 0)), (1, .int mm), (2, .int ss)]) hx hb dX5_countOfToday_43 hl (k := 0) rfl (nI_1 _) (by decide) rfl (fun ls hl => ?_)
          refine lv_goto (tgt := 8) hx hb dX5_countOfToday_46 (by decide) ?_
          exact ih8 (i + 1) cn (by omega) (by omega) (by rw [cnt_step hi, if_neg (by rw [show pOf σ mm ss i = false from b2i_0.mp c_37_2]; decide)] at hT; omega) _ _ _ hS hP (lv_sub hl [0, 1, 2, 3, 4] rfl)
        · refine lv_iinc (v := (nI (cn + 1))) (lv' := [(3, .int (nI (cn + 1))), (4, .int (nI i)), (0, .ref (ad 0 0)), (1, .int mm), (2, .int ss)]) hx hb dX5_countOfToday_40 hl (k := 1) rfl (nI_1 _) (by decide) rfl (fun ls hl => ?_)
          refine lv_iinc (v := (nI (i + 1))) (lv' := [(4, .int (nI (i + 1))), (3, .int (nI (cn + 1))), (0, .ref (ad 0 0)), (1, .int mm), (2, .int ss)]) hx hb dX5_countOfToday_43 hl (k := 1) rfl (nI_1 _) (by decide) rfl (fun ls hl => ?_)
          refine lv_goto (tgt := 8) hx hb dX5_countOfToday_46 (by decide) ?_
          exact ih8 (i + 1) (cn + 1) (by omega) (by omega) (by rw [cnt_step hi, if_pos (show pOf σ mm ss i = true from b2i_1.mp c_37_2)] at hT; omega) _ _ _ hS hP (lv_sub hl [0, 1, 2, 3, 4] rfl)
  exact L8 (nT + 1) f 0 hfn (by omega) (Nat.zero_add _) _ _ _ hS hP (lv_sub hl [0, 1, 2, 3, 4] rfl)

set_option maxHeartbeats 4000000 in
set_option maxRecDepth 100000 in
theorem kX5_areClosedFor (l : Launch) (G : GE) (A1 A : Nat → Prop) (ad : Nat → Nat → Nat) (σ : SG) (qs : Nat → List Nat) (nT nW : Nat) (t : Nat) (ht : t < nT) : KM l G A1 yX5_areClosedFor cX5_areClosedFor 3 (some .boolean) (rmL 2 0 0) [.ref (ad 0 0), .ref (ad 10 t)] (PX G A ad σ qs nT nW) (fun v _ => v = some (.int (b2i (fClosed σ t)))) (fun _ _ => False) := by
  refine KM.of (by decide) (Nat.le_of_ble_eq_true rfl) ?_
  intro p e s m args below meth c F hP ls hl
  have hx := F.1.1
  have hb := F.1.2.1
  have hown := F.1.2.2.2.1
  have hts := F.1.2.2.2.2
  have hr := F.2.1
  have hlocks := F.2.2.1
  have hE := F.2.2.2.2.2.1
  have hA := F.2.2.2.2.2.2
  have hS : va_S A1 s.heap s.heap [] := va_S.rf
  have hl : lv_has ls 3 [(0, .ref (ad 0 0)), (1, .ref (ad 10 t))] := hl
  have hP := hP
  refine lv_iconst (v := 0) hx hb dX5_areClosedFor_0 (by decide) ?_
  refine lv_istore_n (lv' := [(2, .int 0), (0, .ref (ad 0 0)), (1, .ref (ad 10 t))]) hx hb dX5_areClosedFor_1 rfl hl (by decide) rfl (fun ls hl => ?_)
  have L2 : ∀ (n9 : Nat) (i : Nat) (h1 : i ≤ 12) (h2 : 12 < i + n9) (hT : ∀ r, r < i → ¬ (fFor (σ 11 t) (nI (r / 3)) = true ∧ σ 6 r = 0)) (H : Heap) (locs : List Loc) (ls : Array Slot), va_S A1 s.heap H locs → PX G A ad σ qs nT nW H → lv_has ls 3 [(2, .int (nI i)), (0, .ref (ad 0 0)), (1, .ref (ad 10 t))] → W p l e (rmL 2 0 0) s m args below meth c H locs 0 0 (KE below A1 (fun v _ => v = some (.int (b2i (fClosed σ t)))) (fun _ _ => False) args s (rmL 2 0 0)) (F0 m 2 ls []) := by
    intro n9
    induction n9 with
    | zero =>
      intro i h1 h2 hT H locs ls hS hP hl
      exact absurd True.intro (by omega)
    | succ n9 ih2 =>
      intro i h1 h2 hT H locs ls hS hP hl
      refine lv_iload_n hx hb dX5_areClosedFor_2 rfl (lv_at hl 0 rfl) ?_
      refine lv_aload_n hx hb dX5_areClosedFor_3 rfl (lv_at hl 1 rfl) ?_
      refine gX5 F (hP.main rfl) 1 (by decide) wFL_X5_17 (fun _ h9 => h9) (v := .ref (ad 2 0)) rfl dX5_areClosedFor_4 ?_
      refine xalen hx hb hE.1.1 hP.rooms 3 rfl dX5_areClosedFor_7 ?_
      refine lv_icmp_ge (tgt := 47) hx hb dX5_areClosedFor_8 (by decide) (fun c_8_1 => ?_) (fun c_8_1 => ?_)
      · obtain rfl := nI_eqle (n := 12) h1 (by decide) c_8_1
        refine lv_iconst (v := 1) hx hb dX5_areClosedFor_47 (by decide) ?_
        exact kzret hx hb hr hlocks hS (by decide) (by decide) (Or.inr rfl) dX5_areClosedFor_48 (by rw [show fClosed σ t = true from fClosed_iff.mpr hT]; rfl)
      · have hi := nI_lt' (n := 12) h1 (by decide) c_8_1
        refine lv_aload_n hx hb dX5_areClosedFor_11 rfl (lv_at hl 2 rfl) ?_
        refine lv_aload_n hx hb dX5_areClosedFor_12 rfl (lv_at hl 1 rfl) ?_
        refine gX5 F (hP.main rfl) 1 (by decide) wFL_X5_17 (fun _ h9 => h9) (v := .ref (ad 2 0)) rfl dX5_areClosedFor_13 ?_
        refine lv_iload_n hx hb dX5_areClosedFor_16 rfl (lv_at hl 0 rfl) ?_
        refine xaald hx hb hE.1.1 hP.rooms 3 rfl rfl hi (by decide) (rfs_at hi) dX5_areClosedFor_17 ?_
        refine gX1 F (hP.room hi) 1 (by decide) wFL_X5_148 (fun _ h9 => h9) (v := .int (nI (i / 3))) rfl dX5_areClosedFor_18 ?_
        refine kcallV (n := 1) F (kX2_isFor l G (fun q => H.size ≤ q) A ad σ qs nT nW t ht (nI (i / 3))) wML_X5_151 wIM_X2_isFor wSE_X2_X2_isFor wIN_X2 wCO_X2_isFor (by decide) rfl ⟨by decide, by decide⟩ (frec F (hP.tick ht) _ rfl) hS (fun q h => hA q (Nat.le_trans hS.1 h)) (fun q h => h) hP rfl hl.1 (Nat.le_of_ble_eq_true rfl) dX5_areClosedFor_21 ⟨by decide, by decide⟩ (fun E ce q9 H1 locs1 hx9 _ _ _ _ _ => hx9.elim) (fun v H1 locs1 hv hk hS => ?_)
        have hP := hP.old hk
        subst hv
        refine lv_if_eq (tgt := 41) hx hb dX5_areClosedFor_24 (by decide) (fun c_24_2 => ?_) (fun c_24_2 => ?_)
        · refine lv_iinc (v := (nI (i + 1))) (lv' := [(2, .int (nI (i + 1))), (0, .ref (ad 0 0)), (1, .ref (ad 10 t))]) hx hb dX5_areClosedFor_41 hl (k := 0) rfl (nI_1 _) (by decide) rfl (fun ls hl => ?_)
          refine lv_goto (tgt := 2) hx hb dX5_areClosedFor_44 (by decide) ?_
          exact ih2 (i + 1) (by omega) (by omega) (lt_s hT (fun z => by rw [b2i_0.mp c_24_2] at z; exact absurd z.1 (by decide))) _ _ _ hS hP (lv_sub hl [0, 1, 2] rfl)
        · refine lv_aload_n hx hb dX5_areClosedFor_27 rfl (lv_at hl 1 rfl) ?_
          refine gX5 F (hP.main rfl) 1 (by decide) wFL_X5_17 (fun _ h9 => h9) (v := .ref (ad 2 0)) rfl dX5_areClosedFor_28 ?_
          refine lv_iload_n hx hb dX5_areClosedFor_31 rfl (lv_at hl 0 rfl) ?_
          refine xaald hx hb hE.1.1 hP.rooms 3 rfl rfl hi (by decide) (rfs_at hi) dX5_areClosedFor_32 ?_
          refine gX1 F (hP.room hi) 3 (by decide) wFL_X5_141 (fun _ h9 => h9) (v := .int (σ 6 i)) rfl dX5_areClosedFor_33 ?_
          refine lv_if_ne (tgt := 41) hx hb dX5_areClosedFor_36 (by decide) (fun c_36_3 => ?_) (fun c_36_3 => ?_)
          · refine lv_iinc (v := (nI (i + 1))) (lv' := [(2, .int (nI (i + 1))), (0, .ref (ad 0 0)), (1, .ref (ad 10 t))]) hx hb dX5_areClosedFor_41 hl (k := 0) rfl (nI_1 _) (by decide) rfl (fun ls hl => ?_)
            refine lv_goto (tgt := 2) hx hb dX5_areClosedFor_44 (by decide) ?_
            exact ih2 (i + 1) (by omega) (by omega) (lt_s hT (fun z => c_36_3 z.2)) _ _ _ hS hP (lv_sub hl [0, 1, 2] rfl)
          · refine lv_iconst (v := 0) hx hb dX5_areClosedFor_39 (by decide) ?_
            exact kzret hx hb hr hlocks hS (by decide) (by decide) (Or.inl rfl) dX5_areClosedFor_40 (by rw [show fClosed σ t = false from fClosed_no (fun z => z i hi ⟨b2i_1.mp c_24_2, c_36_3⟩)]; rfl)
  exact L2 13 0 (by omega) (by omega) (fun r h => absurd h (Nat.not_lt_zero r)) _ _ _ hS hP (lv_sub hl [0, 1, 2] rfl)

set_option maxHeartbeats 4000000 in
set_option maxRecDepth 100000 in
theorem kX5_payFee (l : Launch) (G : GE) (A : Nat → Prop) (ad : Nat → Nat → Nat) (σ : SG) (qs : Nat → List Nat) (nT nW : Nat) (w r h : Nat) (hw : w < nW) (hr9 : r < 12) (hh : h < 4) (eh : σ 18 w = nI h) : KM l G A yX5_payFee cX5_payFee 3 none (rmL 5 0 0) [.ref (ad 0 0), .ref (ad 9 w), .ref (ad 5 r)] (PX G A ad σ qs nT nW) (fun v H => v = none ∧ PX G A ad (fPay σ w r) qs nT nW H) (fun _ _ => False) := by
  refine KM.of (by decide) (Nat.le_of_ble_eq_true rfl) ?_
  intro p e s m args below meth c F hP ls hl
  have hx := F.1.1
  have hb := F.1.2.1
  have hown := F.1.2.2.2.1
  have hts := F.1.2.2.2.2
  have hr := F.2.1
  have hlocks := F.2.2.1
  have hE := F.2.2.2.2.2.1
  have hA := F.2.2.2.2.2.2
  have hS : va_S A s.heap s.heap [] := va_S.rf
  have hl : lv_has ls 3 [(0, .ref (ad 0 0)), (1, .ref (ad 9 w)), (2, .ref (ad 5 r))] := hl
  have hP := hP
  refine lv_aload_n hx hb dX5_payFee_0 rfl (lv_at hl 1 rfl) ?_
  refine gX4 F (hP.work hw) 3 (by decide) wFL_X5_196 (fun _ h9 => h9) (v := .int (σ 20 w)) rfl dX5_payFee_1 ?_
  refine lv_if_eq (tgt := 51) hx hb dX5_payFee_4 (by decide) (fun c_4_1 => ?_) (fun c_4_1 => ?_)
  · exact kvret hx hb hr hlocks hS (by decide) (by decide) dX5_payFee_51 (⟨rfl, by rw [show fPay σ w r = σ from if_pos c_4_1]; exact hP⟩)
  · refine lv_aload_n hx hb dX5_payFee_7 rfl (lv_at hl 1 rfl) ?_
    refine lv_dup hx hb dX5_payFee_8 rfl ?_
    refine gX4 F (hP.work hw) 5 (by decide) wFL_X5_205 (fun _ h9 => h9) (v := .int (σ 22 w)) rfl dX5_payFee_9 ?_
    refine lv_aload_n hx hb dX5_payFee_12 rfl (lv_at hl 1 rfl) ?_
    refine gX4 F (hP.work hw) 4 (by decide) wFL_X5_202 (fun _ h9 => h9) (v := .int (σ 21 w)) rfl dX5_payFee_13 ?_
    refine lv_iadd hx hb dX5_payFee_16 ?_
    refine pX4 F hS (hP.work hw) (hP.owork hw) 5 (by decide) wFL_X5_205 (fun _ h9 => h9) rfl rfl rfl (by simp) dX5_payFee_17 (fun H1 locs1 he1 z1 oq1 hS => ?_)
    have hP := hP.p22 hw he1 oq1
    refine lv_aload_n hx hb dX5_payFee_20 rfl (lv_at hl 0 rfl) ?_
    refine lv_aload_n hx hb dX5_payFee_21 rfl (lv_at hl 2 rfl) ?_
    refine gX1 F (hP.room hr9) 1 (by decide) wFL_X5_148 (fun _ h9 => h9) (v := .int (nI (r / 3))) rfl dX5_payFee_22 ?_
    refine kcallV (n := 1) F (kX5_tillAt0 l G (fun q => H1.size ≤ q) A ad (up σ 22 w ((σ 22 w) + (σ 21 w))) qs nT nW (nI (r / 3)) (r / 3 + 1) (by omega) (nI_1 _)) wML_X5_42 wIM_X5_tillAt wSE_X5_X5_tillAt wIN_X5 wCO_X5_tillAt (by decide) rfl ⟨by decide, by decide⟩ (frec F (hP.main rfl) _ rfl) hS (fun q h => hA q (Nat.le_trans hS.1 h)) (fun q h => h) hP rfl hl.1 (Nat.le_of_ble_eq_true rfl) dX5_payFee_25 ⟨by decide, by decide⟩ (fun E ce q9 H1 locs1 hx9 _ _ _ _ _ => hx9.elim) (fun v H1 locs1 hv hk hS => ?_)
    have hP := hP.old hk
    subst hv
    refine lv_aload_n hx hb dX5_payFee_28 rfl (lv_at hl 1 rfl) ?_
    refine gX4 F (hP.work hw) 4 (by decide) wFL_X5_202 (fun _ h9 => h9) (v := .int (σ 21 w)) rfl dX5_payFee_29 ?_
    refine lv_ineg hx hb dX5_payFee_32 ?_
    refine kcallV (n := 1) F (kX3_bookFee l G A ad (up σ 22 w ((σ 22 w) + (σ 21 w))) qs nT nW (r / 3 + 1) (by omega) (-(σ 21 w))) wML_X5_330 wIM_X3_bookFee wSE_X3_X3_bookFee wIN_X3 wCO_X3_bookFee (by decide) rfl ⟨by decide, by decide⟩ (frec F (hP.till (by omega)) _ rfl) hS (fun _ h => h) (fun q h => hA q (Nat.le_trans hS.1 h)) hP rfl hl.1 (Nat.le_of_ble_eq_true rfl) dX5_payFee_33 ⟨by decide, by decide⟩ (fun E ce q9 H1 locs1 hx9 _ _ _ _ _ => hx9.elim) (fun v H1 locs1 hv hk hS => ?_)
    obtain ⟨rfl, hP⟩ := hv
    have hP : PX G A ad (fBook (up σ 22 w ((σ 22 w) + (σ 21 w))) 2 (r / 3 + 1) (-(σ 21 w))) qs nT nW H1 := hP
    refine lv_aload_n hx hb dX5_payFee_36 rfl (lv_at hl 0 rfl) ?_
    refine lv_aload_n hx hb dX5_payFee_37 rfl (lv_at hl 1 rfl) ?_
    refine gX4 F (hP.work hw) 1 (by decide) wFL_X5_199 (fun _ h9 => h9) (v := .int (σ 18 w)) rfl dX5_payFee_38 ?_
    refine W.eq (g2 := F0 m 41 ls [.int (nI h), .ref (ad 0 0)]) (congrArg (fun z => F0 m 41 ls [.int z, .ref (ad 0 0)]) (eh)) ?_
    refine kcallV (n := 1) F (kX5_tillAt0 l G (fun q => H1.size ≤ q) A ad (fBook (up σ 22 w ((σ 22 w) + (σ 21 w))) 2 (r / 3 + 1) (-(σ 21 w))) qs nT nW (nI h) (h + 1) (by omega) (nI_1 _)) wML_X5_42 wIM_X5_tillAt wSE_X5_X5_tillAt wIN_X5 wCO_X5_tillAt (by decide) rfl ⟨by decide, by decide⟩ (frec F (hP.main rfl) _ rfl) hS (fun q h => hA q (Nat.le_trans hS.1 h)) (fun q h => h) hP rfl hl.1 (Nat.le_of_ble_eq_true rfl) dX5_payFee_41 ⟨by decide, by decide⟩ (fun E ce q9 H1 locs1 hx9 _ _ _ _ _ => hx9.elim) (fun v H1 locs1 hv hk hS => ?_)
    have hP := hP.old hk
    subst hv
    refine lv_aload_n hx hb dX5_payFee_44 rfl (lv_at hl 1 rfl) ?_
    refine gX4 F (hP.work hw) 4 (by decide) wFL_X5_202 (fun _ h9 => h9) (v := .int (σ 21 w)) rfl dX5_payFee_45 ?_
    refine kcallV (n := 1) F (kX3_bookFee l G A ad (fBook (up σ 22 w ((σ 22 w) + (σ 21 w))) 2 (r / 3 + 1) (-(σ 21 w))) qs nT nW (h + 1) (by omega) (σ 21 w)) wML_X5_330 wIM_X3_bookFee wSE_X3_X3_bookFee wIN_X3 wCO_X3_bookFee (by decide) rfl ⟨by decide, by decide⟩ (frec F (hP.till (by omega)) _ rfl) hS (fun _ h => h) (fun q h => hA q (Nat.le_trans hS.1 h)) hP rfl hl.1 (Nat.le_of_ble_eq_true rfl) dX5_payFee_48 ⟨by decide, by decide⟩ (fun E ce q9 H1 locs1 hx9 _ _ _ _ _ => hx9.elim) (fun v H1 locs1 hv hk hS => ?_)
    obtain ⟨rfl, hP⟩ := hv
    have hP : PX G A ad (fBook (fBook (up σ 22 w ((σ 22 w) + (σ 21 w))) 2 (r / 3 + 1) (-(σ 21 w))) 2 (h + 1) (σ 21 w)) qs nT nW H1 := hP
    exact kvret hx hb hr hlocks hS (by decide) (by decide) dX5_payFee_51 (⟨rfl, by rw [fPay_eq hh eh c_4_1]; exact hP⟩)

