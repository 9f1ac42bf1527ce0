def qP_setPrice (G : GE) (A : Nat → Prop) (ad : Nat → Nat → Nat) (σ : SG) (qs : Nat → List Nat) (nT : Nat) (nW : Nat) (hh : Int32) (vv : Int32) (v : Option Value) (H : Heap) : Prop := ∃ j, j < 5 ∧ hh + 1 = nI j ∧ (¬ vv < 0 ∧ vv ≤ 10000) ∧ v = some (.int (σ 0 j)) ∧ PX G A ad (up σ 0 j vv) qs nT nW H
def xP_setPrice (G : GE) (A : Nat → Prop) (ad : Nat → Nat → Nat) (σ : SG) (qs : Nat → List Nat) (nT : Nat) (nW : Nat) (hh : Int32) (vv : Int32) (E : String) (H : Heap) : Prop := PX G A ad σ qs nT nW H ∧ ((E = xIO ∧ ¬ (∃ j, j < 5 ∧ hh + 1 = nI j)) ∨ (E = xIA ∧ (∃ j, j < 5 ∧ hh + 1 = nI j) ∧ (vv < 0 ∨ ¬ vv ≤ 10000)))
theorem wCW_L_setPrice : Cond.codeWith yL_setPrice cL_setPrice 5 (Option.some Jvm.ClassFile.FieldType.int) [(0, 10, 13, 13), (0, 10, 17, 15)] ∈ gTb := gm (List.mem_of_getElem? (i := 257) (by decide +kernel)) rfl
set_option maxHeartbeats 4000000 in
set_option maxRecDepth 100000 in
theorem hL_setPrice (l : Launch) (G : GE) (Ax A : Nat → Prop) (o : Nat) (hAx : ∀ q, Ax q → A q) (ho : A o) (hno : ¬ Ax o) (ad : Nat → Nat → Nat) (σ : SG) (qs : Nat → List Nat) (nT nW : Nat) (hl9 : l.stackTraces = false) (hh vv : Int32) : HM l G A yL_setPrice cL_setPrice 5 (some .int) [(0, 10, 13, 13), (0, 10, 17, 15)] (rmL 6 2 12) [.ref (ad 0 0), .int hh, .int vv, .ref o] (fun H => PX G Ax ad σ qs nT nW H ∧ (∃ y, va_at G.1 mcl (o, LO G y) H) ∧ ∀ q, H.size ≤ q → Ax q) (fun v H => (∃ (x : Int32) (H1 : Heap), v = some (.int 0) ∧ qP_setPrice G Ax ad σ qs nT nW hh vv (some (.int x)) H1 ∧ va_at G.1 mcl (o, LO G x.toInt64) H ∧ H.size = H1.size ∧ ∀ q, q ≠ o → H[q]? = H1[q]?) ∨ (∃ E, xP_setPrice G Ax ad σ qs nT nW hh vv E H ∧ ((E = xIO ∧ v = some (.int 1)) ∨ (E = xIA ∧ v = some (.int 2))) ∧ ∃ y, va_at G.1 mcl (o, LO G y) H)) := by
  refine HM.of (by decide) (Nat.le_of_ble_eq_true rfl) ?_
  intro p e s m args below meth c F hP ls hl
  obtain ⟨hP, ⟨y0, ho9⟩, hnew⟩ := hP
  have hx := F.1.1
  have hb := F.1.2.1
  have hown := F.1.2.2.2.1
  have hts := F.1.2.2.2.2
  have hr := F.2.1
  have hlocks := F.2.2.1
  have hE := F.2.2.2.2.1
  have hN := F.2.2.2.2.2.1
  have hA := F.2.2.2.2.2.2
  have hS : va_S A s.heap s.heap [] := va_S.rf
  have hl : lv_has ls 5 [(0, .ref (ad 0 0)), (1, .int hh), (2, .int vv), (3, .ref o)] := hl
  refine lv_aload_n hx hb dL_setPrice_0 rfl (lv_at hl 3 rfl) ?_
  refine lv_iconst (v := 0) hx hb dL_setPrice_1 (by decide) ?_
  refine lv_aload_n hx hb dL_setPrice_2 rfl (lv_at hl 0 rfl) ?_
  refine lv_iload_n hx hb dL_setPrice_3 rfl (lv_at hl 1 rfl) ?_
  refine lv_iload_n hx hb dL_setPrice_4 rfl (lv_at hl 2 rfl) ?_
  refine hcallV (n := 2) F.1 hE (kP_setPrice l G Ax ad σ qs nT nW hl9 hh vv) wML_L_7 wIM_X5_setPrice wSE_X5_X5_setPrice wIN_X5 wCO_X5_setPrice (by decide) rfl ⟨by decide, by decide⟩ (orec hE (hP.main rfl) (show mcl[7]? = some (RX5, TX5, 8) from rfl)) hS hAx hnew hP rfl hl.1 (Nat.le_of_ble_eq_true rfl) dL_setPrice_5 ⟨by decide, by decide⟩ (fun E ce q9 H1 locs1 hx9 hk hS hc9 hv9 hf9 => ?_) (fun v H1 locs1 hv hk hS => ?_)
  · have ho2 := ho9.kept (hk.2 _ ho9.lt hno)
    have hx9 : xP_setPrice G Ax ad σ qs nT nW hh vv E H1 := hx9
    have hEE : E = xIO ∨ E = xIA := by
      obtain ⟨-, (⟨hEE, -⟩ | ⟨hEE, ⟨_, ⟨-, -⟩⟩, (- | -)⟩)⟩ := hx9 <;> simp [hEE]
    rcases hEE with rfl | rfl
    · refine vx_catch (own := RL) (name := xIO) F.1.2.2.2.1 [] ⟨0, 10, 13, 13⟩ [⟨0, 10, 17, 15⟩] (by rw [F.2.2.2.1]; rfl) (fun z hz => absurd hz List.not_mem_nil) (by decide) (by decide) (hts _ wCL_L_13) (va_Nw.use rfl (hE.1.2.1 (xIO, xIO) (by simp [nwCast]))) hc9 hv9 hf9 ?_
      refine W.eq (g2 := F0 m 13 ls [.ref q9]) rfl ?_
      refine lv_astore (lv' := [(4, .ref q9), (0, .ref (ad 0 0)), (1, .int hh), (2, .int vv), (3, .ref o)]) hx hb dL_setPrice_13 hl (by decide) rfl (fun ls hl => ?_)
      refine lv_iconst (v := 1) hx hb dL_setPrice_15 (by decide) ?_
      exact kiret hx hb hr hlocks hS (by decide) (by decide) dL_setPrice_16 (Or.inr ⟨_, hx9, Or.inl (⟨rfl, rfl⟩), _, ho2⟩)
    · refine vx_catch (own := RL) (name := xIA) F.1.2.2.2.1 [⟨0, 10, 13, 13⟩] ⟨0, 10, 17, 15⟩ [] (by rw [F.2.2.2.1]; rfl) (fun z hz => by rw [List.mem_singleton] at hz; subst hz; exact Or.inr ⟨by decide, xIO, hts _ wCL_L_13, hN (xIA, xIO) (by simp [nwNot])⟩) (by decide) (by decide) (hts _ wCL_L_15) (va_Nw.use rfl (hE.1.2.1 (xIA, xIA) (by simp [nwCast]))) hc9 hv9 hf9 ?_
      refine W.eq (g2 := F0 m 17 ls [.ref q9]) rfl ?_
      refine lv_astore (lv' := [(4, .ref q9), (0, .ref (ad 0 0)), (1, .int hh), (2, .int vv), (3, .ref o)]) hx hb dL_setPrice_17 hl (by decide) rfl (fun ls hl => ?_)
      refine lv_iconst (v := 2) hx hb dL_setPrice_19 (by decide) ?_
      exact kiret hx hb hr hlocks hS (by decide) (by decide) dL_setPrice_20 (Or.inr ⟨_, hx9, Or.inr (⟨rfl, rfl⟩), _, ho2⟩)
  · have ho3 := ho9.kept (hk.2 _ ho9.lt hno)
    have hQ0 : qP_setPrice G Ax ad σ qs nT nW hh vv v H1 := hv
    obtain ⟨x, rfl⟩ : ∃ x, v = some (.int x) := by
      obtain ⟨_, ⟨-, -, ⟨-, -⟩, rfl, -⟩⟩ := hQ0 <;> exact ⟨_, rfl⟩
    have hQ := hQ0
    refine lv_i2l hx hb dL_setPrice_8 rfl ?_
    refine xlast hx hb hE.1.1 hS ho3 ho dL_setPrice_9 (fun H2 locs2 ho2 z2 oq2 hS => ?_)
    refine lv_goto (tgt := 21) hx hb dL_setPrice_10 (by decide) ?_
    refine lv_iconst (v := 0) hx hb dL_setPrice_21 (by decide) ?_
    exact kiret hx hb hr hlocks hS (by decide) (by decide) dL_setPrice_22 (Or.inl ⟨_, _, rfl, hQ, ho2, z2, oq2⟩)
def qP_buy (G : GE) (A : Nat → Prop) (ad : Nat → Nat → Nat) (σ : SG) (qs : Nat → List Nat) (nT : Nat) (nW : Nat) (hh : Int32) (v : Option Value) (H : Heap) : Prop := ∃ j, j < 5 ∧ hh + 1 = nI j ∧ nT < 80 ∧ v = some (.int (nI nT)) ∧ ∃ q, PX G A (adN ad 10 nT q) (up (fNew σ nT (b2i (decide (hh = -1))) hh (-1) (σ 0 j)) 27 0 (σ 27 0 + σ 0 j)) qs (nT + 1) nW H
def xP_buy (G : GE) (A : Nat → Prop) (ad : Nat → Nat → Nat) (σ : SG) (qs : Nat → List Nat) (nT : Nat) (nW : Nat) (hh : Int32) (E : String) (H : Heap) : Prop := PX G A ad σ qs nT nW H ∧ ((E = xIO ∧ ¬ (∃ j, j < 5 ∧ hh + 1 = nI j)) ∨ (E = xIS ∧ (∃ j, j < 5 ∧ hh + 1 = nI j) ∧ nT = 80))
theorem wCW_L_buy : Cond.codeWith yL_buy cL_buy 4 (Option.some Jvm.ClassFile.FieldType.int) [(0, 9, 12, 13), (0, 9, 15, 21)] ∈ gTb := gm (List.mem_of_getElem? (i := 357) (by decide +kernel)) rfl
set_option maxHeartbeats 4000000 in
set_option maxRecDepth 100000 in
theorem hL_buy (l : Launch) (G : GE) (Ax A : Nat → Prop) (o : Nat) (hAx : ∀ q, Ax q → A q) (ho : A o) (hno : ¬ Ax o) (ad : Nat → Nat → Nat) (σ : SG) (qs : Nat → List Nat) (nT nW : Nat) (hl9 : l.stackTraces = false) (hh : Int32) (hnT : nT ≤ 80) : HM l G A yL_buy cL_buy 4 (some .int) [(0, 9, 12, 13), (0, 9, 15, 21)] (rmL 10 6 250) [.ref (ad 0 0), .int hh, .ref o] (fun H => PX G Ax ad σ qs nT nW H ∧ (∃ y, va_at G.1 mcl (o, LO G y) H) ∧ ∀ q, H.size ≤ q → Ax q) (fun v H => (∃ (x : Int32) (H1 : Heap), v = some (.int 0) ∧ qP_buy G Ax ad σ qs nT nW hh (some (.int x)) H1 ∧ va_at G.1 mcl (o, LO G x.toInt64) H ∧ H.size = H1.size ∧ ∀ q, q ≠ o → H[q]? = H1[q]?) ∨ (∃ E, xP_buy G Ax ad σ qs nT nW hh E H ∧ ((E = xIO ∧ v = some (.int 1)) ∨ (E = xIS ∧ v = some (.int 2))) ∧ ∃ y, va_at G.1 mcl (o, LO G y) H)) := by
  refine HM.of (by decide) (Nat.le_of_ble_eq_true rfl) ?_
  intro p e s m args below meth c F hP ls hl
  obtain ⟨hP, ⟨y0, ho9⟩, hnew⟩ := hP
  have hx := F.1.1
  have hb := F.1.2.1
  have hown := F.1.2.2.2.1
  have hts := F.1.2.2.2.2
  have hr := F.2.1
  have hlocks := F.2.2.1
  have hE := F.2.2.2.2.1
  have hN := F.2.2.2.2.2.1
  have hA := F.2.2.2.2.2.2
  have hS : va_S A s.heap s.heap [] := va_S.rf
  have hl : lv_has ls 4 [(0, .ref (ad 0 0)), (1, .int hh), (2, .ref o)] := hl
  refine lv_aload_n hx hb dL_buy_0 rfl (lv_at hl 2 rfl) ?_
  refine lv_iconst (v := 0) hx hb dL_buy_1 (by decide) ?_
  refine lv_aload_n hx hb dL_buy_2 rfl (lv_at hl 0 rfl) ?_
  refine lv_iload_n hx hb dL_buy_3 rfl (lv_at hl 1 rfl) ?_
  refine hcallV (n := 1) F.1 hE (kP_buy l G Ax ad σ qs nT nW hl9 hh hnT) wML_L_17 wIM_X5_buy wSE_X5_X5_buy wIN_X5 wCO_X5_buy (by decide) rfl ⟨by decide, by decide⟩ (orec hE (hP.main rfl) (show mcl[7]? = some (RX5, TX5, 8) from rfl)) hS hAx hnew hP rfl hl.1 (Nat.le_of_ble_eq_true rfl) dL_buy_4 ⟨by decide, by decide⟩ (fun E ce q9 H1 locs1 hx9 hk hS hc9 hv9 hf9 => ?_) (fun v H1 locs1 hv hk hS => ?_)
  · have ho2 := ho9.kept (hk.2 _ ho9.lt hno)
    have hx9 : xP_buy G Ax ad σ qs nT nW hh E H1 := hx9
    have hEE : E = xIO ∨ E = xIS := by
      obtain ⟨-, (⟨hEE, -⟩ | ⟨hEE, ⟨_, ⟨-, -⟩⟩, -⟩)⟩ := hx9 <;> simp [hEE]
    rcases hEE with rfl | rfl
    · refine vx_catch (own := RL) (name := xIO) F.1.2.2.2.1 [] ⟨0, 9, 12, 13⟩ [⟨0, 9, 15, 21⟩] (by rw [F.2.2.2.1]; rfl) (fun z hz => absurd hz List.not_mem_nil) (by decide) (by decide) (hts _ wCL_L_13) (va_Nw.use rfl (hE.1.2.1 (xIO, xIO) (by simp [nwCast]))) hc9 hv9 hf9 ?_
      refine W.eq (g2 := F0 m 12 ls [.ref q9]) rfl ?_
      refine lv_astore_n (lv' := [(3, .ref q9), (0, .ref (ad 0 0)), (1, .int hh), (2, .ref o)]) hx hb dL_buy_12 rfl hl (by decide) rfl (fun ls hl => ?_)
      refine lv_iconst (v := 1) hx hb dL_buy_13 (by decide) ?_
      exact kiret hx hb hr hlocks hS (by decide) (by decide) dL_buy_14 (Or.inr ⟨_, hx9, Or.inl (⟨rfl, rfl⟩), _, ho2⟩)
    · refine vx_catch (own := RL) (name := xIS) F.1.2.2.2.1 [⟨0, 9, 12, 13⟩] ⟨0, 9, 15, 21⟩ [] (by rw [F.2.2.2.1]; rfl) (fun z hz => by rw [List.mem_singleton] at hz; subst hz; exact Or.inr ⟨by decide, xIO, hts _ wCL_L_13, hN (xIS, xIO) (by simp [nwNot])⟩) (by decide) (by decide) (hts _ wCL_L_21) (va_Nw.use rfl (hE.1.2.1 (xIS, xIS) (by simp [nwCast]))) hc9 hv9 hf9 ?_
      refine W.eq (g2 := F0 m 15 ls [.ref q9]) rfl ?_
      refine lv_astore_n (lv' := [(3, .ref q9), (0, .ref (ad 0 0)), (1, .int hh), (2, .ref o)]) hx hb dL_buy_15 rfl hl (by decide) rfl (fun ls hl => ?_)
      refine lv_iconst (v := 2) hx hb dL_buy_16 (by decide) ?_
      exact kiret hx hb hr hlocks hS (by decide) (by decide) dL_buy_17 (Or.inr ⟨_, hx9, Or.inr (⟨rfl, rfl⟩), _, ho2⟩)
  · have ho3 := ho9.kept (hk.2 _ ho9.lt hno)
    have hQ0 : qP_buy G Ax ad σ qs nT nW hh v H1 := hv
    obtain ⟨x, rfl⟩ : ∃ x, v = some (.int x) := by
      obtain ⟨_, ⟨-, -, -, rfl, ⟨_, -⟩⟩⟩ := hQ0 <;> exact ⟨_, rfl⟩
    have hQ := hQ0
    refine lv_i2l hx hb dL_buy_7 rfl ?_
    refine xlast hx hb hE.1.1 hS ho3 ho dL_buy_8 (fun H2 locs2 ho2 z2 oq2 hS => ?_)
    refine lv_goto (tgt := 18) hx hb dL_buy_9 (by decide) ?_
    refine lv_iconst (v := 0) hx hb dL_buy_18 (by decide) ?_
    exact kiret hx hb hr hlocks hS (by decide) (by decide) dL_buy_19 (Or.inl ⟨_, _, rfl, hQ, ho2, z2, oq2⟩)
def qP_admitM (G : GE) (A : Nat → Prop) (ad : Nat → Nat → Nat) (σ : SG) (qs : Nat → List Nat) (nT : Nat) (nW : Nat) (vm : Int32) (f : Nat) (v : Option Value) (H : Heap) : Prop := ∃ m, m < 6 ∧ vm = nI m ∧ fBel (σ 9 m) (σ 25 0) = true ∧ (cntF (pOf σ (nI m) 2) f (nT - f) = 0) ∧ nT < 80 ∧ v = some (.int (nI nT)) ∧ ∃ q, PX G A (adN ad 10 nT q) (up (fNew σ nT 2 (-1) (nI m) (0)) 27 0 (σ 27 0 + 0)) qs (nT + 1) nW H
def xP_admitM (G : GE) (A : Nat → Prop) (ad : Nat → Nat → Nat) (σ : SG) (qs : Nat → List Nat) (nT : Nat) (nW : Nat) (vm : Int32) (f : Nat) (E : String) (H : Heap) : Prop := PX G A ad σ qs nT nW H ∧ ((E = xIO ∧ ¬ (∃ j, j < 6 ∧ vm = nI j)) ∨ (E = xIS ∧ ∃ m, m < 6 ∧ vm = nI m ∧ fBel (σ 9 m) (σ 25 0) = false) ∨ (E = xIS ∧ ∃ m, m < 6 ∧ vm = nI m ∧ cntF (pOf σ (nI m) 2) f (nT - f) ≠ 0) ∨ (E = xIS ∧ (∃ j, j < 6 ∧ vm = nI j) ∧ nT = 80))
theorem wCW_L_admit : Cond.codeWith yL_admit cL_admit 5 (Option.some Jvm.ClassFile.FieldType.int) [(0, 10, 13, 13), (0, 10, 17, 21)] ∈ gTb := gm (List.mem_of_getElem? (i := 491) (by decide +kernel)) rfl
set_option maxHeartbeats 4000000 in
set_option maxRecDepth 100000 in
theorem hL_admitM (l : Launch) (G : GE) (Ax A : Nat → Prop) (o : Nat) (hAx : ∀ q, Ax q → A q) (ho : A o) (hno : ¬ Ax o) (ad : Nat → Nat → Nat) (σ : SG) (qs : Nat → List Nat) (nT nW : Nat) (hl9 : l.stackTraces = false) (vm : Int32) (f : Nat) (hf : σ 26 0 = nI f) (hfn : f ≤ nT) (hnT : nT ≤ 80) : HM l G A yL_admit cL_admit 5 (some .int) [(0, 10, 13, 13), (0, 10, 17, 21)] (rmL 10 6 250) [.ref (ad 0 0), .int vm, .int 0, .ref o] (fun H => PX G Ax ad σ qs nT nW H ∧ (∃ y, va_at G.1 mcl (o, LO G y) H) ∧ ∀ q, H.size ≤ q → Ax q) (fun v H => (∃ (x : Int32) (H1 : Heap), v = some (.int 0) ∧ qP_admitM G Ax ad σ qs nT nW vm f (some (.int x)) H1 ∧ va_at G.1 mcl (o, LO G x.toInt64) H ∧ H.size = H1.size ∧ ∀ q, q ≠ o → H[q]? = H1[q]?) ∨ (∃ E, xP_admitM G Ax ad σ qs nT nW vm f E H ∧ ((E = xIO ∧ v = some (.int 1)) ∨ (E = xIS ∧ v = some (.int 2))) ∧ ∃ y, va_at G.1 mcl (o, LO G y) H)) := by
  refine HM.of (by decide) (Nat.le_of_ble_eq_true rfl) ?_
  intro p e s m args below meth c F hP ls hl
  obtain ⟨hP, ⟨y0, ho9⟩, hnew⟩ := hP
  have hx := F.1.1
  have hb := F.1.2.1
  have hown := F.1.2.2.2.1
  have hts := F.1.2.2.2.2
  have hr := F.2.1
  have hlocks := F.2.2.1
  have hE := F.2.2.2.2.1
  have hN := F.2.2.2.2.2.1
  have hA := F.2.2.2.2.2.2
  have hS : va_S A s.heap s.heap [] := va_S.rf
  have hl : lv_has ls 5 [(0, .ref (ad 0 0)), (1, .int vm), (2, .int 0), (3, .ref o)] := hl
  refine lv_aload_n hx hb dL_admit_0 rfl (lv_at hl 3 rfl) ?_
  refine lv_iconst (v := 0) hx hb dL_admit_1 (by decide) ?_
  refine lv_aload_n hx hb dL_admit_2 rfl (lv_at hl 0 rfl) ?_
  refine lv_iload_n hx hb dL_admit_3 rfl (lv_at hl 1 rfl) ?_
  refine lv_iload_n hx hb dL_admit_4 rfl (lv_at hl 2 rfl) ?_
  refine hcallV (n := 2) F.1 hE (kP_admitM l G Ax ad σ qs nT nW hl9 vm f hf hfn hnT) wML_L_23 wIM_X5_admit wSE_X5_X5_admit wIN_X5 wCO_X5_admit (by decide) rfl ⟨by decide, by decide⟩ (orec hE (hP.main rfl) (show mcl[7]? = some (RX5, TX5, 8) from rfl)) hS hAx hnew hP rfl hl.1 (Nat.le_of_ble_eq_true rfl) dL_admit_5 ⟨by decide, by decide⟩ (fun E ce q9 H1 locs1 hx9 hk hS hc9 hv9 hf9 => ?_) (fun v H1 locs1 hv hk hS => ?_)
  · have ho2 := ho9.kept (hk.2 _ ho9.lt hno)
    have hx9 : xP_admitM G Ax ad σ qs nT nW vm f E H1 := hx9
    have hEE : E = xIO ∨ E = xIS := by
      obtain ⟨-, (⟨hEE, -⟩ | ⟨hEE, ⟨_, ⟨-, -, -⟩⟩⟩ | ⟨hEE, ⟨_, ⟨-, -, -⟩⟩⟩ | ⟨hEE, ⟨_, ⟨-, -⟩⟩, -⟩)⟩ := hx9 <;> simp [hEE]
    rcases hEE with rfl | rfl
    · refine vx_catch (own := RL) (name := xIO) F.1.2.2.2.1 [] ⟨0, 10, 13, 13⟩ [⟨0, 10, 17, 21⟩] (by rw [F.2.2.2.1]; rfl) (fun z hz => absurd hz List.not_mem_nil) (by decide) (by decide) (hts _ wCL_L_13) (va_Nw.use rfl (hE.1.2.1 (xIO, xIO) (by simp [nwCast]))) hc9 hv9 hf9 ?_
      refine W.eq (g2 := F0 m 13 ls [.ref q9]) rfl ?_
      refine lv_astore (lv' := [(4, .ref q9), (0, .ref (ad 0 0)), (1, .int vm), (2, .int 0), (3, .ref o)]) hx hb dL_admit_13 hl (by decide) rfl (fun ls hl => ?_)
      refine lv_iconst (v := 1) hx hb dL_admit_15 (by decide) ?_
      exact kiret hx hb hr hlocks hS (by decide) (by decide) dL_admit_16 (Or.inr ⟨_, hx9, Or.inl (⟨rfl, rfl⟩), _, ho2⟩)
    · refine vx_catch (own := RL) (name := xIS) F.1.2.2.2.1 [⟨0, 10, 13, 13⟩] ⟨0, 10, 17, 21⟩ [] (by rw [F.2.2.2.1]; rfl) (fun z hz => by rw [List.mem_singleton] at hz; subst hz; exact Or.inr ⟨by decide, xIO, hts _ wCL_L_13, hN (xIS, xIO) (by simp [nwNot])⟩) (by decide) (by decide) (hts _ wCL_L_21) (va_Nw.use rfl (hE.1.2.1 (xIS, xIS) (by simp [nwCast]))) hc9 hv9 hf9 ?_
      refine W.eq (g2 := F0 m 17 ls [.ref q9]) rfl ?_
      refine lv_astore (lv' := [(4, .ref q9), (0, .ref (ad 0 0)), (1, .int vm), (2, .int 0), (3, .ref o)]) hx hb dL_admit_17 hl (by decide) rfl (fun ls hl => ?_)
      refine lv_iconst (v := 2) hx hb dL_admit_19 (by decide) ?_
      exact kiret hx hb hr hlocks hS (by decide) (by decide) dL_admit_20 (Or.inr ⟨_, hx9, Or.inr (⟨rfl, rfl⟩), _, ho2⟩)
  · have ho3 := ho9.kept (hk.2 _ ho9.lt hno)
    have hQ0 : qP_admitM G Ax ad σ qs nT nW vm f v H1 := hv
    obtain ⟨x, rfl⟩ : ∃ x, v = some (.int x) := by
      obtain ⟨_, ⟨-, -, -, -, -, rfl, ⟨_, -⟩⟩⟩ := hQ0 <;> exact ⟨_, rfl⟩
    have hQ := hQ0
    refine lv_i2l hx hb dL_admit_8 rfl ?_
    refine xlast hx hb hE.1.1 hS ho3 ho dL_admit_9 (fun H2 locs2 ho2 z2 oq2 hS => ?_)
    refine lv_goto (tgt := 21) hx hb dL_admit_10 (by decide) ?_
    refine lv_iconst (v := 0) hx hb dL_admit_21 (by decide) ?_
    exact kiret hx hb hr hlocks hS (by decide) (by decide) dL_admit_22 (Or.inl ⟨_, _, rfl, hQ, ho2, z2, oq2⟩)
def qP_admitG (G : GE) (A : Nat → Prop) (ad : Nat → Nat → Nat) (σ : SG) (qs : Nat → List Nat) (nT : Nat) (nW : Nat) (vm : Int32) (f : Nat) (v : Option Value) (H : Heap) : Prop := ∃ m, m < 6 ∧ vm = nI m ∧ fBel (σ 9 m) (σ 25 0) = true ∧ (cntF (pOf σ (nI m) 2) f (nT - f) ≠ 0 ∧ cntF (pOf σ (nI m) 3) f (nT - f) < 2) ∧ nT < 80 ∧ v = some (.int (nI nT)) ∧ ∃ q, PX G A (adN ad 10 nT q) (up (fNew σ nT 3 (-1) (nI m) (σ 0 0 / 2)) 27 0 (σ 27 0 + (σ 0 0 / 2))) qs (nT + 1) nW H
def xP_admitG (G : GE) (A : Nat → Prop) (ad : Nat → Nat → Nat) (σ : SG) (qs : Nat → List Nat) (nT : Nat) (nW : Nat) (vm : Int32) (f : Nat) (E : String) (H : Heap) : Prop := PX G A ad σ qs nT nW H ∧ ((E = xIO ∧ ¬ (∃ j, j < 6 ∧ vm = nI j)) ∨ (E = xIS ∧ ∃ m, m < 6 ∧ vm = nI m ∧ fBel (σ 9 m) (σ 25 0) = false) ∨ (E = xIS ∧ ∃ m, m < 6 ∧ vm = nI m ∧ cntF (pOf σ (nI m) 2) f (nT - f) = 0) ∨ (E = xIS ∧ ∃ m, m < 6 ∧ vm = nI m ∧ ¬ cntF (pOf σ (nI m) 3) f (nT - f) < 2) ∨ (E = xIS ∧ (∃ j, j < 6 ∧ vm = nI j) ∧ nT = 80))
set_option maxHeartbeats 4000000 in
set_option maxRecDepth 100000 in
theorem hL_admitG (l : Launch) (G : GE) (Ax A : Nat → Prop) (o : Nat) (hAx : ∀ q, Ax q → A q) (ho : A o) (hno : ¬ Ax o) (ad : Nat → Nat → Nat) (σ : SG) (qs : Nat → List Nat) (nT nW : Nat) (hl9 : l.stackTraces = false) (vm : Int32) (f : Nat) (hf : σ 26 0 = nI f) (hfn : f ≤ nT) (hnT : nT ≤ 80) : HM l G A yL_admit cL_admit 5 (some .int) [(0, 10, 13, 13), (0, 10, 17, 21)] (rmL 10 6 250) [.ref (ad 0 0), .int vm, .int 1, .ref o] (fun H => PX G Ax ad σ qs nT nW H ∧ (∃ y, va_at G.1 mcl (o, LO G y) H) ∧ ∀ q, H.size ≤ q → Ax q) (fun v H => (∃ (x : Int32) (H1 : Heap), v = some (.int 0) ∧ qP_admitG G Ax ad σ qs nT nW vm f (some (.int x)) H1 ∧ va_at G.1 mcl (o, LO G x.toInt64) H ∧ H.size = H1.size ∧ ∀ q, q ≠ o → H[q]? = H1[q]?) ∨ (∃ E, xP_admitG G Ax ad σ qs nT nW vm f E H ∧ ((E = xIO ∧ v = some (.int 1)) ∨ (E = xIS ∧ v = some (.int 2))) ∧ ∃ y, va_at G.1 mcl (o, LO G y) H)) := by
  refine HM.of (by decide) (Nat.le_of_ble_eq_true rfl) ?_
  intro p e s m args below meth c F hP ls hl
  obtain ⟨hP, ⟨y0, ho9⟩, hnew⟩ := hP
  have hx := F.1.1
  have hb := F.1.2.1
  have hown := F.1.2.2.2.1
  have hts := F.1.2.2.2.2
  have hr := F.2.1
  have hlocks := F.2.2.1
  have hE := F.2.2.2.2.1
  have hN := F.2.2.2.2.2.1
  have hA := F.2.2.2.2.2.2
  have hS : va_S A s.heap s.heap [] := va_S.rf
  have hl : lv_has ls 5 [(0, .ref (ad 0 0)), (1, .int vm), (2, .int 1), (3, .ref o)] := hl
  refine lv_aload_n hx hb dL_admit_0 rfl (lv_at hl 3 rfl) ?_
  refine lv_iconst (v := 0) hx hb dL_admit_1 (by decide) ?_
  refine lv_aload_n hx hb dL_admit_2 rfl (lv_at hl 0 rfl) ?_
  refine lv_iload_n hx hb dL_admit_3 rfl (lv_at hl 1 rfl) ?_
  refine lv_iload_n hx hb dL_admit_4 rfl (lv_at hl 2 rfl) ?_
  refine hcallV (n := 2) F.1 hE (kP_admitG l G Ax ad σ qs nT nW hl9 vm f hf hfn hnT) wML_L_23 wIM_X5_admit wSE_X5_X5_admit wIN_X5 wCO_X5_admit (by decide) rfl ⟨by decide, by decide⟩ (orec hE (hP.main rfl) (show mcl[7]? = some (RX5, TX5, 8) from rfl)) hS hAx hnew hP rfl hl.1 (Nat.le_of_ble_eq_true rfl) dL_admit_5 ⟨by decide, by decide⟩ (fun E ce q9 H1 locs1 hx9 hk hS hc9 hv9 hf9 => ?_) (fun v H1 locs1 hv hk hS => ?_)
  · have ho2 := ho9.kept (hk.2 _ ho9.lt hno)
    have hx9 : xP_admitG G Ax ad σ qs nT nW vm f E H1 := hx9
    have hEE : E = xIO ∨ E = xIS := by
      obtain ⟨-, (⟨hEE, -⟩ | ⟨hEE, ⟨_, ⟨-, -, -⟩⟩⟩ | ⟨hEE, ⟨_, ⟨-, -, -⟩⟩⟩ | ⟨hEE, ⟨_, ⟨-, -, -⟩⟩⟩ | ⟨hEE, ⟨_, ⟨-, -⟩⟩, -⟩)⟩ := hx9 <;> simp [hEE]
    rcases hEE with rfl | rfl
    · refine vx_catch (own := RL) (name := xIO) F.1.2.2.2.1 [] ⟨0, 10, 13, 13⟩ [⟨0, 10, 17, 21⟩] (by rw [F.2.2.2.1]; rfl) (fun z hz => absurd hz List.not_mem_nil) (by decide) (by decide) (hts _ wCL_L_13) (va_Nw.use rfl (hE.1.2.1 (xIO, xIO) (by simp [nwCast]))) hc9 hv9 hf9 ?_
      refine W.eq (g2 := F0 m 13 ls [.ref q9]) rfl ?_
      refine lv_astore (lv' := [(4, .ref q9), (0, .ref (ad 0 0)), (1, .int vm), (2, .int 1), (3, .ref o)]) hx hb dL_admit_13 hl (by decide) rfl (fun ls hl => ?_)
      refine lv_iconst (v := 1) hx hb dL_admit_15 (by decide) ?_
      exact kiret hx hb hr hlocks hS (by decide) (by decide) dL_admit_16 (Or.inr ⟨_, hx9, Or.inl (⟨rfl, rfl⟩), _, ho2⟩)
    · refine vx_catch (own := RL) (name := xIS) F.1.2.2.2.1 [⟨0, 10, 13, 13⟩] ⟨0, 10, 17, 21⟩ [] (by rw [F.2.2.2.1]; rfl) (fun z hz => by rw [List.mem_singleton] at hz; subst hz; exact Or.inr ⟨by decide, xIO, hts _ wCL_L_13, hN (xIS, xIO) (by simp [nwNot])⟩) (by decide) (by decide) (hts _ wCL_L_21) (va_Nw.use rfl (hE.1.2.1 (xIS, xIS) (by simp [nwCast]))) hc9 hv9 hf9 ?_
      refine W.eq (g2 := F0 m 17 ls [.ref q9]) rfl ?_
      refine lv_astore (lv' := [(4, .ref q9), (0, .ref (ad 0 0)), (1, .int vm), (2, .int 1), (3, .ref o)]) hx hb dL_admit_17 hl (by decide) rfl (fun ls hl => ?_)
      refine lv_iconst (v := 2) hx hb dL_admit_19 (by decide) ?_
      exact kiret hx hb hr hlocks hS (by decide) (by decide) dL_admit_20 (Or.inr ⟨_, hx9, Or.inr (⟨rfl, rfl⟩), _, ho2⟩)
  · have ho3 := ho9.kept (hk.2 _ ho9.lt hno)
    have hQ0 : qP_admitG G Ax ad σ qs nT nW vm f v H1 := hv
    obtain ⟨x, rfl⟩ : ∃ x, v = some (.int x) := by
      obtain ⟨_, ⟨-, -, -, ⟨-, -⟩, -, rfl, ⟨_, -⟩⟩⟩ := hQ0 <;> exact ⟨_, rfl⟩
    have hQ := hQ0
    refine lv_i2l hx hb dL_admit_8 rfl ?_
    refine xlast hx hb hE.1.1 hS ho3 ho dL_admit_9 (fun H2 locs2 ho2 z2 oq2 hS => ?_)
    refine lv_goto (tgt := 21) hx hb dL_admit_10 (by decide) ?_
    refine lv_iconst (v := 0) hx hb dL_admit_21 (by decide) ?_
    exact kiret hx hb hr hlocks hS (by decide) (by decide) dL_admit_22 (Or.inl ⟨_, _, rfl, hQ, ho2, z2, oq2⟩)
def qP_giveBack (G : GE) (A : Nat → Prop) (ad : Nat → Nat → Nat) (σ : SG) (qs : Nat → List Nat) (nT : Nat) (nW : Nat) (vt : Int32) (v : Option Value) (H : Heap) : Prop := ∃ t, t < nT ∧ vt = nI t ∧ (¬ nI t < σ 26 0 ∧ σ 14 t = 0) ∧ (σ 15 t = 0 ∧ σ 17 t = 0 ∧ fClosed σ t = true) ∧ v = some (.int (σ 13 t)) ∧ PX G A ad (up (up σ 14 t 1) 27 0 (σ 27 0 - σ 13 t)) qs nT nW H
def xP_giveBack (G : GE) (A : Nat → Prop) (ad : Nat → Nat → Nat) (σ : SG) (qs : Nat → List Nat) (nT : Nat) (nW : Nat) (vt : Int32) (E : String) (H : Heap) : Prop := PX G A ad σ qs nT nW H ∧ ((E = xIO ∧ ¬ (∃ j, j < nT ∧ vt = nI j)) ∨ (E = xIS ∧ ∃ t, t < nT ∧ vt = nI t ∧ (nI t < σ 26 0 ∨ ¬ σ 14 t = 0)) ∨ (E = xIS ∧ ∃ t, t < nT ∧ vt = nI t ∧ ¬ (σ 15 t = 0 ∧ σ 17 t = 0 ∧ fClosed σ t = true)))
theorem wCW_L_giveBack : Cond.codeWith yL_giveBack cL_giveBack 4 (Option.some Jvm.ClassFile.FieldType.int) [(0, 9, 12, 13), (0, 9, 15, 21)] ∈ gTb := gm (List.mem_of_getElem? (i := 515) (by decide +kernel)) rfl
set_option maxHeartbeats 4000000 in
set_option maxRecDepth 100000 in
theorem hL_giveBack (l : Launch) (G : GE) (Ax A : Nat → Prop) (o : Nat) (hAx : ∀ q, Ax q → A q) (ho : A o) (hno : ¬ Ax o) (ad : Nat → Nat → Nat) (σ : SG) (qs : Nat → List Nat) (nT nW : Nat) (hl9 : l.stackTraces = false) (vt : Int32) (hnT : nT ≤ 80) : HM l G A yL_giveBack cL_giveBack 4 (some .int) [(0, 9, 12, 13), (0, 9, 15, 21)] (rmL 7 3 18) [.ref (ad 0 0), .int vt, .ref o] (fun H => PX G Ax ad σ qs nT nW H ∧ (∃ y, va_at G.1 mcl (o, LO G y) H) ∧ ∀ q, H.size ≤ q → Ax q) (fun v H => (∃ (x : Int32) (H1 : Heap), v = some (.int 0) ∧ qP_giveBack G Ax ad σ qs nT nW vt (some (.int x)) H1 ∧ va_at G.1 mcl (o, LO G x.toInt64) H ∧ H.size = H1.size ∧ ∀ q, q ≠ o → H[q]? = H1[q]?) ∨ (∃ E, xP_giveBack G Ax ad σ qs nT nW vt E H ∧ ((E = xIO ∧ v = some (.int 1)) ∨ (E = xIS ∧ v = some (.int 2))) ∧ ∃ y, va_at G.1 mcl (o, LO G y) H)) := by
  refine HM.of (by decide) (Nat.le_of_ble_eq_true rfl) ?_
  intro p e s m args below meth c F hP ls hl
  obtain ⟨hP, ⟨y0, ho9⟩, hnew⟩ := hP
  have hx := F.1.1
  have hb := F.1.2.1
  have hown := F.1.2.2.2.1
  have hts := F.1.2.2.2.2
  have hr := F.2.1
  have hlocks := F.2.2.1
  have hE := F.2.2.2.2.1
  have hN := F.2.2.2.2.2.1
  have hA := F.2.2.2.2.2.2
  have hS : va_S A s.heap s.heap [] := va_S.rf
  have hl : lv_has ls 4 [(0, .ref (ad 0 0)), (1, .int vt), (2, .ref o)] := hl
  refine lv_aload_n hx hb dL_giveBack_0 rfl (lv_at hl 2 rfl) ?_
  refine lv_iconst (v := 0) hx hb dL_giveBack_1 (by decide) ?_
  refine lv_aload_n hx hb dL_giveBack_2 rfl (lv_at hl 0 rfl) ?_
  refine lv_iload_n hx hb dL_giveBack_3 rfl (lv_at hl 1 rfl) ?_
  refine hcallV (n := 1) F.1 hE (kP_giveBack l G Ax ad σ qs nT nW hl9 vt hnT) wML_L_27 wIM_X5_giveBack wSE_X5_X5_giveBack wIN_X5 wCO_X5_giveBack (by decide) rfl ⟨by decide, by decide⟩ (orec hE (hP.main rfl) (show mcl[7]? = some (RX5, TX5, 8) from rfl)) hS hAx hnew hP rfl hl.1 (Nat.le_of_ble_eq_true rfl) dL_giveBack_4 ⟨by decide, by decide⟩ (fun E ce q9 H1 locs1 hx9 hk hS hc9 hv9 hf9 => ?_) (fun v H1 locs1 hv hk hS => ?_)
  · have ho2 := ho9.kept (hk.2 _ ho9.lt hno)
    have hx9 : xP_giveBack G Ax ad σ qs nT nW vt E H1 := hx9
    have hEE : E = xIO ∨ E = xIS := by
      obtain ⟨-, (⟨hEE, -⟩ | ⟨hEE, ⟨_, ⟨-, -, (- | -)⟩⟩⟩ | ⟨hEE, ⟨_, ⟨-, -, -⟩⟩⟩)⟩ := hx9 <;> simp [hEE]
    rcases hEE with rfl | rfl
    · refine vx_catch (own := RL) (name := xIO) F.1.2.2.2.1 [] ⟨0, 9, 12, 13⟩ [⟨0, 9, 15, 21⟩] (by rw [F.2.2.2.1]; rfl) (fun z hz => absurd hz List.not_mem_nil) (by decide) (by decide) (hts _ wCL_L_13) (va_Nw.use rfl (hE.1.2.1 (xIO, xIO) (by simp [nwCast]))) hc9 hv9 hf9 ?_
      refine W.eq (g2 := F0 m 12 ls [.ref q9]) rfl ?_
      refine lv_astore_n (lv' := [(3, .ref q9), (0, .ref (ad 0 0)), (1, .int vt), (2, .ref o)]) hx hb dL_giveBack_12 rfl hl (by decide) rfl (fun ls hl => ?_)
      refine lv_iconst (v := 1) hx hb dL_giveBack_13 (by decide) ?_
      exact kiret hx hb hr hlocks hS (by decide) (by decide) dL_giveBack_14 (Or.inr ⟨_, hx9, Or.inl (⟨rfl, rfl⟩), _, ho2⟩)
    · refine vx_catch (own := RL) (name := xIS) F.1.2.2.2.1 [⟨0, 9, 12, 13⟩] ⟨0, 9, 15, 21⟩ [] (by rw [F.2.2.2.1]; rfl) (fun z hz => by rw [List.mem_singleton] at hz; subst hz; exact Or.inr ⟨by decide, xIO, hts _ wCL_L_13, hN (xIS, xIO) (by simp [nwNot])⟩) (by decide) (by decide) (hts _ wCL_L_21) (va_Nw.use rfl (hE.1.2.1 (xIS, xIS) (by simp [nwCast]))) hc9 hv9 hf9 ?_
      refine W.eq (g2 := F0 m 15 ls [.ref q9]) rfl ?_
      refine lv_astore_n (lv' := [(3, .ref q9), (0, .ref (ad 0 0)), (1, .int vt), (2, .ref o)]) hx hb dL_giveBack_15 rfl hl (by decide) rfl (fun ls hl => ?_)
      refine lv_iconst (v := 2) hx hb dL_giveBack_16 (by decide) ?_
      exact kiret hx hb hr hlocks hS (by decide) (by decide) dL_giveBack_17 (Or.inr ⟨_, hx9, Or.inr (⟨rfl, rfl⟩), _, ho2⟩)
  · have ho3 := ho9.kept (hk.2 _ ho9.lt hno)
    have hQ0 : qP_giveBack G Ax ad σ qs nT nW vt v H1 := hv
    obtain ⟨x, rfl⟩ : ∃ x, v = some (.int x) := by
      obtain ⟨_, ⟨-, -, ⟨-, -⟩, ⟨-, -, -⟩, rfl, -⟩⟩ := hQ0 <;> exact ⟨_, rfl⟩
    have hQ := hQ0
    refine lv_i2l hx hb dL_giveBack_7 rfl ?_
    refine xlast hx hb hE.1.1 hS ho3 ho dL_giveBack_8 (fun H2 locs2 ho2 z2 oq2 hS => ?_)
    refine lv_goto (tgt := 18) hx hb dL_giveBack_9 (by decide) ?_
    refine lv_iconst (v := 0) hx hb dL_giveBack_18 (by decide) ?_
    exact kiret hx hb hr hlocks hS (by decide) (by decide) dL_giveBack_19 (Or.inl ⟨_, _, rfl, hQ, ho2, z2, oq2⟩)
def qP_join (G : GE) (A : Nat → Prop) (ad : Nat → Nat → Nat) (σ : SG) (qs : Nat → List Nat) (nT : Nat) (nW : Nat) (vm : Int32) (v : Option Value) (H : Heap) : Prop := ∃ j, j < 6 ∧ vm = nI j ∧ fBel (σ 9 j) (σ 25 0) = false ∧ v = some (.int ((σ 25 0 + 30) - 1)) ∧ PX G A ad (up (up (up σ 8 j (σ 8 j + 1)) 9 j ((σ 25 0 + 30) - 1)) 27 0 (σ 27 0 + 6000)) qs nT nW H
def xP_join (G : GE) (A : Nat → Prop) (ad : Nat → Nat → Nat) (σ : SG) (qs : Nat → List Nat) (nT : Nat) (nW : Nat) (vm : Int32) (E : String) (H : Heap) : Prop := PX G A ad σ qs nT nW H ∧ ((E = xIO ∧ ¬ (∃ j, j < 6 ∧ vm = nI j)) ∨ (E = xIS ∧ ∃ j, j < 6 ∧ vm = nI j ∧ fBel (σ 9 j) (σ 25 0) = true))
theorem wCW_L_join : Cond.codeWith yL_join cL_join 4 (Option.some Jvm.ClassFile.FieldType.int) [(0, 9, 12, 13), (0, 9, 15, 21)] ∈ gTb := gm (List.mem_of_getElem? (i := 541) (by decide +kernel)) rfl
set_option maxHeartbeats 4000000 in
set_option maxRecDepth 100000 in
theorem hL_join (l : Launch) (G : GE) (Ax A : Nat → Prop) (o : Nat) (hAx : ∀ q, Ax q → A q) (ho : A o) (hno : ¬ Ax o) (ad : Nat → Nat → Nat) (σ : SG) (qs : Nat → List Nat) (nT nW : Nat) (hl9 : l.stackTraces = false) (vm : Int32) : HM l G A yL_join cL_join 4 (some .int) [(0, 9, 12, 13), (0, 9, 15, 21)] (rmL 6 2 12) [.ref (ad 0 0), .int vm, .ref o] (fun H => PX G Ax ad σ qs nT nW H ∧ (∃ y, va_at G.1 mcl (o, LO G y) H) ∧ ∀ q, H.size ≤ q → Ax q) (fun v H => (∃ (x : Int32) (H1 : Heap), v = some (.int 0) ∧ qP_join G Ax ad σ qs nT nW vm (some (.int x)) H1 ∧ va_at G.1 mcl (o, LO G x.toInt64) H ∧ H.size = H1.size ∧ ∀ q, q ≠ o → H[q]? = H1[q]?) ∨ (∃ E, xP_join G Ax ad σ qs nT nW vm E H ∧ ((E = xIO ∧ v = some (.int 1)) ∨ (E = xIS ∧ v = some (.int 2))) ∧ ∃ y, va_at G.1 mcl (o, LO G y) H)) := by
  refine HM.of (by decide) (Nat.le_of_ble_eq_true rfl) ?_
  intro p e s m args below meth c F hP ls hl
  obtain ⟨hP, ⟨y0, ho9⟩, hnew⟩ := hP
  have hx := F.1.1
  have hb := F.1.2.1
  have hown := F.1.2.2.2.1
  have hts := F.1.2.2.2.2
  have hr := F.2.1
  have hlocks := F.2.2.1
  have hE := F.2.2.2.2.1
  have hN := F.2.2.2.2.2.1
  have hA := F.2.2.2.2.2.2
  have hS : va_S A s.heap s.heap [] := va_S.rf
  have hl : lv_has ls 4 [(0, .ref (ad 0 0)), (1, .int vm), (2, .ref o)] := hl
  refine lv_aload_n hx hb dL_join_0 rfl (lv_at hl 2 rfl) ?_
  refine lv_iconst (v := 0) hx hb dL_join_1 (by decide) ?_
  refine lv_aload_n hx hb dL_join_2 rfl (lv_at hl 0 rfl) ?_
  refine lv_iload_n hx hb dL_join_3 rfl (lv_at hl 1 rfl) ?_
  refine hcallV (n := 1) F.1 hE (kP_join l G Ax ad σ qs nT nW hl9 vm) wML_L_30 wIM_X5_join wSE_X5_X5_join wIN_X5 wCO_X5_join (by decide) rfl ⟨by decide, by decide⟩ (orec hE (hP.main rfl) (show mcl[7]? = some (RX5, TX5, 8) from rfl)) hS hAx hnew hP rfl hl.1 (Nat.le_of_ble_eq_true rfl) dL_join_4 ⟨by decide, by decide⟩ (fun E ce q9 H1 locs1 hx9 hk hS hc9 hv9 hf9 => ?_) (fun v H1 locs1 hv hk hS => ?_)
  · have ho2 := ho9.kept (hk.2 _ ho9.lt hno)
    have hx9 : xP_join G Ax ad σ qs nT nW vm E H1 := hx9
    have hEE : E = xIO ∨ E = xIS := by
      obtain ⟨-, (⟨hEE, -⟩ | ⟨hEE, ⟨_, ⟨-, -, -⟩⟩⟩)⟩ := hx9 <;> simp [hEE]
    rcases hEE with rfl | rfl
    · refine vx_catch (own := RL) (name := xIO) F.1.2.2.2.1 [] ⟨0, 9, 12, 13⟩ [⟨0, 9, 15, 21⟩] (by rw [F.2.2.2.1]; rfl) (fun z hz => absurd hz List.not_mem_nil) (by decide) (by decide) (hts _ wCL_L_13) (va_Nw.use rfl (hE.1.2.1 (xIO, xIO) (by simp [nwCast]))) hc9 hv9 hf9 ?_
      refine W.eq (g2 := F0 m 12 ls [.ref q9]) rfl ?_
      refine lv_astore_n (lv' := [(3, .ref q9), (0, .ref (ad 0 0)), (1, .int vm), (2, .ref o)]) hx hb dL_join_12 rfl hl (by decide) rfl (fun ls hl => ?_)
      refine lv_iconst (v := 1) hx hb dL_join_13 (by decide) ?_
      exact kiret hx hb hr hlocks hS (by decide) (by decide) dL_join_14 (Or.inr ⟨_, hx9, Or.inl (⟨rfl, rfl⟩), _, ho2⟩)
    · refine vx_catch (own := RL) (name := xIS) F.1.2.2.2.1 [⟨0, 9, 12, 13⟩] ⟨0, 9, 15, 21⟩ [] (by rw [F.2.2.2.1]; rfl) (fun z hz => by rw [List.mem_singleton] at hz; subst hz; exact Or.inr ⟨by decide, xIO, hts _ wCL_L_13, hN (xIS, xIO) (by simp [nwNot])⟩) (by decide) (by decide) (hts _ wCL_L_21) (va_Nw.use rfl (hE.1.2.1 (xIS, xIS) (by simp [nwCast]))) hc9 hv9 hf9 ?_
      refine W.eq (g2 := F0 m 15 ls [.ref q9]) rfl ?_
      refine lv_astore_n (lv' := [(3, .ref q9), (0, .ref (ad 0 0)), (1, .int vm), (2, .ref o)]) hx hb dL_join_15 rfl hl (by decide) rfl (fun ls hl => ?_)
      refine lv_iconst (v := 2) hx hb dL_join_16 (by decide) ?_
      exact kiret hx hb hr hlocks hS (by decide) (by decide) dL_join_17 (Or.inr ⟨_, hx9, Or.inr (⟨rfl, rfl⟩), _, ho2⟩)
  · have ho3 := ho9.kept (hk.2 _ ho9.lt hno)
    have hQ0 : qP_join G Ax ad σ qs nT nW vm v H1 := hv
    obtain ⟨x, rfl⟩ : ∃ x, v = some (.int x) := by
      obtain ⟨_, ⟨-, -, -, rfl, -⟩⟩ := hQ0 <;> exact ⟨_, rfl⟩
    have hQ := hQ0
    refine lv_i2l hx hb dL_join_7 rfl ?_
    refine xlast hx hb hE.1.1 hS ho3 ho dL_join_8 (fun H2 locs2 ho2 z2 oq2 hS => ?_)
    refine lv_goto (tgt := 18) hx hb dL_join_9 (by decide) ?_
    refine lv_iconst (v := 0) hx hb dL_join_18 (by decide) ?_
    exact kiret hx hb hr hlocks hS (by decide) (by decide) dL_join_19 (Or.inl ⟨_, _, rfl, hQ, ho2, z2, oq2⟩)
def qP_setCap (G : GE) (A : Nat → Prop) (ad : Nat → Nat → Nat) (σ : SG) (qs : Nat → List Nat) (nT : Nat) (nW : Nat) (vr : Int32) (vv : Int32) (v : Option Value) (H : Heap) : Prop := ∃ r c v9, r < 12 ∧ vr = nI r ∧ c ≤ 20 ∧ vv = nI c ∧ σ 7 r = nI v9 ∧ v9 ≤ 100 ∧ v = some (.int ((fLet nW r (c - v9) (up σ 5 r (nI c)) qs).1 7 r)) ∧ PX G A ad (fLet nW r (c - v9) (up σ 5 r (nI c)) qs).1 (fLet nW r (c - v9) (up σ 5 r (nI c)) qs).2 nT nW H
def xP_setCap (G : GE) (A : Nat → Prop) (ad : Nat → Nat → Nat) (σ : SG) (qs : Nat → List Nat) (nT : Nat) (nW : Nat) (vr : Int32) (vv : Int32) (E : String) (H : Heap) : Prop := PX G A ad σ qs nT nW H ∧ ((E = xIO ∧ ¬ (∃ j, j < 12 ∧ vr = nI j)) ∨ (E = xIA ∧ (∃ j, j < 12 ∧ vr = nI j) ∧ (vv < 0 ∨ ¬ vv ≤ 20)))
theorem wCW_L_setCap : Cond.codeWith yL_setCap cL_setCap 5 (Option.some Jvm.ClassFile.FieldType.int) [(0, 10, 13, 13), (0, 10, 17, 15)] ∈ gTb := gm (List.mem_of_getElem? (i := 549) (by decide +kernel)) rfl
set_option maxHeartbeats 4000000 in
set_option maxRecDepth 100000 in
theorem hL_setCap (l : Launch) (G : GE) (Ax A : Nat → Prop) (o : Nat) (hAx : ∀ q, Ax q → A q) (ho : A o) (hno : ¬ Ax o) (ad : Nat → Nat → Nat) (σ : SG) (qs : Nat → List Nat) (nT nW : Nat) (hl9 : l.stackTraces = false) (vr vv : Int32) (hnW : nW ≤ 12) (hW0 : WFw σ nW) (hV : ∀ r, r < 12 → ∃ v, v ≤ 100 ∧ σ 7 r = nI v) (hQ0 : ∀ r, r < 12 → (qs r).length ≤ 100) : HM l G A yL_setCap cL_setCap 5 (some .int) [(0, 10, 13, 13), (0, 10, 17, 15)] (rmL 9 2 12) [.ref (ad 0 0), .int vr, .int vv, .ref o] (fun H => PX G Ax ad σ qs nT nW H ∧ (∃ y, va_at G.1 mcl (o, LO G y) H) ∧ ∀ q, H.size ≤ q → Ax q) (fun v H => (∃ (x : Int32) (H1 : Heap), v = some (.int 0) ∧ qP_setCap G Ax ad σ qs nT nW vr vv (some (.int x)) H1 ∧ va_at G.1 mcl (o, LO G x.toInt64) H ∧ H.size = H1.size ∧ ∀ q, q ≠ o → H[q]? = H1[q]?) ∨ (∃ E, xP_setCap G Ax ad σ qs nT nW vr vv E H ∧ ((E = xIO ∧ v = some (.int 1)) ∨ (E = xIA ∧ v = some (.int 2))) ∧ ∃ y, va_at G.1 mcl (o, LO G y) H)) := by
  refine HM.of (by decide) (Nat.le_of_ble_eq_true rfl) ?_
  intro p e s m args below meth c F hP ls hl
  obtain ⟨hP, ⟨y0, ho9⟩, hnew⟩ := hP
  have hx := F.1.1
  have hb := F.1.2.1
  have hown := F.1.2.2.2.1
  have hts := F.1.2.2.2.2
  have hr := F.2.1
  have hlocks := F.2.2.1
  have hE := F.2.2.2.2.1
  have hN := F.2.2.2.2.2.1
  have hA := F.2.2.2.2.2.2
  have hS : va_S A s.heap s.heap [] := va_S.rf
  have hl : lv_has ls 5 [(0, .ref (ad 0 0)), (1, .int vr), (2, .int vv), (3, .ref o)] := hl
  refine lv_aload_n hx hb dL_setCap_0 rfl (lv_at hl 3 rfl) ?_
  refine lv_iconst (v := 0) hx hb dL_setCap_1 (by decide) ?_
  refine lv_aload_n hx hb dL_setCap_2 rfl (lv_at hl 0 rfl) ?_
  refine lv_iload_n hx hb dL_setCap_3 rfl (lv_at hl 1 rfl) ?_
  refine lv_iload_n hx hb dL_setCap_4 rfl (lv_at hl 2 rfl) ?_
  refine hcallV (n := 2) F.1 hE (kP_setCap l G Ax ad σ qs nT nW hl9 vr vv hnW hW0 hV hQ0) wML_L_33 wIM_X5_setCap wSE_X5_X5_setCap wIN_X5 wCO_X5_setCap (by decide) rfl ⟨by decide, by decide⟩ (orec hE (hP.main rfl) (show mcl[7]? = some (RX5, TX5, 8) from rfl)) hS hAx hnew hP rfl hl.1 (Nat.le_of_ble_eq_true rfl) dL_setCap_5 ⟨by decide, by decide⟩ (fun E ce q9 H1 locs1 hx9 hk hS hc9 hv9 hf9 => ?_) (fun v H1 locs1 hv hk hS => ?_)
  · have ho2 := ho9.kept (hk.2 _ ho9.lt hno)
    have hx9 : xP_setCap G Ax ad σ qs nT nW vr vv E H1 := hx9
    have hEE : E = xIO ∨ E = xIA := by
      obtain ⟨-, (⟨hEE, -⟩ | ⟨hEE, ⟨_, ⟨-, -⟩⟩, (- | -)⟩)⟩ := hx9 <;> simp [hEE]
    rcases hEE with rfl | rfl
    · refine vx_catch (own := RL) (name := xIO) F.1.2.2.2.1 [] ⟨0, 10, 13, 13⟩ [⟨0, 10, 17, 15⟩] (by rw [F.2.2.2.1]; rfl) (fun z hz => absurd hz List.not_mem_nil) (by decide) (by decide) (hts _ wCL_L_13) (va_Nw.use rfl (hE.1.2.1 (xIO, xIO) (by simp [nwCast]))) hc9 hv9 hf9 ?_
      refine W.eq (g2 := F0 m 13 ls [.ref q9]) rfl ?_
      refine lv_astore (lv' := [(4, .ref q9), (0, .ref (ad 0 0)), (1, .int vr), (2, .int vv), (3, .ref o)]) hx hb dL_setCap_13 hl (by decide) rfl (fun ls hl => ?_)
      refine lv_iconst (v := 1) hx hb dL_setCap_15 (by decide) ?_
      exact kiret hx hb hr hlocks hS (by decide) (by decide) dL_setCap_16 (Or.inr ⟨_, hx9, Or.inl (⟨rfl, rfl⟩), _, ho2⟩)
    · refine vx_catch (own := RL) (name := xIA) F.1.2.2.2.1 [⟨0, 10, 13, 13⟩] ⟨0, 10, 17, 15⟩ [] (by rw [F.2.2.2.1]; rfl) (fun z hz => by rw [List.mem_singleton] at hz; subst hz; exact Or.inr ⟨by decide, xIO, hts _ wCL_L_13, hN (xIA, xIO) (by simp [nwNot])⟩) (by decide) (by decide) (hts _ wCL_L_15) (va_Nw.use rfl (hE.1.2.1 (xIA, xIA) (by simp [nwCast]))) hc9 hv9 hf9 ?_
      refine W.eq (g2 := F0 m 17 ls [.ref q9]) rfl ?_
      refine lv_astore (lv' := [(4, .ref q9), (0, .ref (ad 0 0)), (1, .int vr), (2, .int vv), (3, .ref o)]) hx hb dL_setCap_17 hl (by decide) rfl (fun ls hl => ?_)
      refine lv_iconst (v := 2) hx hb dL_setCap_19 (by decide) ?_
      exact kiret hx hb hr hlocks hS (by decide) (by decide) dL_setCap_20 (Or.inr ⟨_, hx9, Or.inr (⟨rfl, rfl⟩), _, ho2⟩)
  · have ho3 := ho9.kept (hk.2 _ ho9.lt hno)
    have hQ0 : qP_setCap G Ax ad σ qs nT nW vr vv v H1 := hv
    obtain ⟨x, rfl⟩ : ∃ x, v = some (.int x) := by
      obtain ⟨_, _, _, ⟨-, -, -, -, -, -, rfl, -⟩⟩ := hQ0 <;> exact ⟨_, rfl⟩
    have hQ := hQ0
    refine lv_i2l hx hb dL_setCap_8 rfl ?_
    refine xlast hx hb hE.1.1 hS ho3 ho dL_setCap_9 (fun H2 locs2 ho2 z2 oq2 hS => ?_)
    refine lv_goto (tgt := 21) hx hb dL_setCap_10 (by decide) ?_
    refine lv_iconst (v := 0) hx hb dL_setCap_21 (by decide) ?_
    exact kiret hx hb hr hlocks hS (by decide) (by decide) dL_setCap_22 (Or.inl ⟨_, _, rfl, hQ, ho2, z2, oq2⟩)
def qP_close (G : GE) (A : Nat → Prop) (ad : Nat → Nat → Nat) (σ : SG) (qs : Nat → List Nat) (nT : Nat) (nW : Nat) (vr : Int32) (gb : Bool) (f : Nat) (v : Option Value) (H : Heap) : Prop := ∃ r, r < 12 ∧ vr = nI r ∧ ((gb = true ∧ v = some (.int (σ 7 r + nI (qs r).length)) ∧ PX G A ad (fSend f nT r (up σ 6 r (b2i gb))) (sq qs r []) nT nW H) ∨ (gb = false ∧ v = some (.int 0) ∧ PX G A ad (up σ 6 r (b2i gb)) qs nT nW H))
def xP_close (G : GE) (A : Nat → Prop) (ad : Nat → Nat → Nat) (σ : SG) (qs : Nat → List Nat) (nT : Nat) (nW : Nat) (vr : Int32) (gb : Bool) (f : Nat) (E : String) (H : Heap) : Prop := PX G A ad σ qs nT nW H ∧ ((E = xIO ∧ ¬ (∃ j, j < 12 ∧ vr = nI j)))
theorem wCW_L_close : Cond.codeWith yL_close cL_close 5 (Option.some Jvm.ClassFile.FieldType.int) [(0, 10, 13, 13)] ∈ gTb := gm (List.mem_of_getElem? (i := 591) (by decide +kernel)) rfl
set_option maxHeartbeats 4000000 in
set_option maxRecDepth 100000 in
theorem hL_close (l : Launch) (G : GE) (Ax A : Nat → Prop) (o : Nat) (hAx : ∀ q, Ax q → A q) (ho : A o) (hno : ¬ Ax o) (ad : Nat → Nat → Nat) (σ : SG) (qs : Nat → List Nat) (nT nW : Nat) (hl9 : l.stackTraces = false) (vr : Int32) (gb : Bool) (f : Nat) (hf : σ 26 0 = nI f) (hfn : f ≤ nT) (hnT : nT ≤ 80) : HM l G A yL_close cL_close 5 (some .int) [(0, 10, 13, 13)] (rmL 6 1 6) [.ref (ad 0 0), .int vr, .int (b2i gb), .ref o] (fun H => PX G Ax ad σ qs nT nW H ∧ (∃ y, va_at G.1 mcl (o, LO G y) H) ∧ ∀ q, H.size ≤ q → Ax q) (fun v H => (∃ (x : Int32) (H1 : Heap), v = some (.int 0) ∧ qP_close G Ax ad σ qs nT nW vr gb f (some (.int x)) H1 ∧ va_at G.1 mcl (o, LO G x.toInt64) H ∧ H.size = H1.size ∧ ∀ q, q ≠ o → H[q]? = H1[q]?) ∨ (∃ E, xP_close G Ax ad σ qs nT nW vr gb f E H ∧ ((E = xIO ∧ v = some (.int 1))) ∧ ∃ y, va_at G.1 mcl (o, LO G y) H)) := by
  refine HM.of (by decide) (Nat.le_of_ble_eq_true rfl) ?_
  intro p e s m args below meth c F hP ls hl
  obtain ⟨hP, ⟨y0, ho9⟩, hnew⟩ := hP
  have hx := F.1.1
  have hb := F.1.2.1
  have hown := F.1.2.2.2.1
  have hts := F.1.2.2.2.2
  have hr := F.2.1
  have hlocks := F.2.2.1
  have hE := F.2.2.2.2.1
  have hN := F.2.2.2.2.2.1
  have hA := F.2.2.2.2.2.2
  have hS : va_S A s.heap s.heap [] := va_S.rf
  have hl : lv_has ls 5 [(0, .ref (ad 0 0)), (1, .int vr), (2, .int (b2i gb)), (3, .ref o)] := hl
  refine lv_aload_n hx hb dL_close_0 rfl (lv_at hl 3 rfl) ?_
  refine lv_iconst (v := 0) hx hb dL_close_1 (by decide) ?_
  refine lv_aload_n hx hb dL_close_2 rfl (lv_at hl 0 rfl) ?_
  refine lv_iload_n hx hb dL_close_3 rfl (lv_at hl 1 rfl) ?_
  refine lv_iload_n hx hb dL_close_4 rfl (lv_at hl 2 rfl) ?_
  refine hcallV (n := 2) F.1 hE (kP_close l G Ax ad σ qs nT nW hl9 vr gb f hf hfn hnT) wML_L_36 wIM_X5_close wSE_X5_X5_close wIN_X5 wCO_X5_close (by decide) rfl ⟨by decide, by decide⟩ (orec hE (hP.main rfl) (show mcl[7]? = some (RX5, TX5, 8) from rfl)) hS hAx hnew hP rfl hl.1 (Nat.le_of_ble_eq_true rfl) dL_close_5 ⟨by decide, by decide⟩ (fun E ce q9 H1 locs1 hx9 hk hS hc9 hv9 hf9 => ?_) (fun v H1 locs1 hv hk hS => ?_)
  · have ho2 := ho9.kept (hk.2 _ ho9.lt hno)
    have hx9 : xP_close G Ax ad σ qs nT nW vr gb f E H1 := hx9
    have hEE : E = xIO := by
      obtain ⟨-, ⟨hEE, -⟩⟩ := hx9 <;> simp [hEE]
    subst hEE
    refine vx_catch (own := RL) (name := xIO) F.1.2.2.2.1 [] ⟨0, 10, 13, 13⟩ [] (by rw [F.2.2.2.1]; rfl) (fun z hz => absurd hz List.not_mem_nil) (by decide) (by decide) (hts _ wCL_L_13) (va_Nw.use rfl (hE.1.2.1 (xIO, xIO) (by simp [nwCast]))) hc9 hv9 hf9 ?_
    refine W.eq (g2 := F0 m 13 ls [.ref q9]) rfl ?_
    refine lv_astore (lv' := [(4, .ref q9), (0, .ref (ad 0 0)), (1, .int vr), (2, .int (b2i gb)), (3, .ref o)]) hx hb dL_close_13 hl (by decide) rfl (fun ls hl => ?_)
    refine lv_iconst (v := 1) hx hb dL_close_15 (by decide) ?_
    exact kiret hx hb hr hlocks hS (by decide) (by decide) dL_close_16 (Or.inr ⟨_, hx9, ⟨rfl, rfl⟩, _, ho2⟩)
  · have ho3 := ho9.kept (hk.2 _ ho9.lt hno)
    have hQ0 : qP_close G Ax ad σ qs nT nW vr gb f v H1 := hv
    obtain ⟨x, rfl⟩ : ∃ x, v = some (.int x) := by
      obtain ⟨_, ⟨-, -, (⟨-, rfl, -⟩ | ⟨-, rfl, -⟩)⟩⟩ := hQ0 <;> exact ⟨_, rfl⟩
    have hQ := hQ0
    refine lv_i2l hx hb dL_close_8 rfl ?_
    refine xlast hx hb hE.1.1 hS ho3 ho dL_close_9 (fun H2 locs2 ho2 z2 oq2 hS => ?_)
    refine lv_goto (tgt := 17) hx hb dL_close_10 (by decide) ?_
    refine lv_iconst (v := 0) hx hb dL_close_17 (by decide) ?_
    exact kiret hx hb hr hlocks hS (by decide) (by decide) dL_close_18 (Or.inl ⟨_, _, rfl, hQ, ho2, z2, oq2⟩)
def qP_enter (G : GE) (A : Nat → Prop) (ad : Nat → Nat → Nat) (σ : SG) (qs : Nat → List Nat) (nT : Nat) (nW : Nat) (vt : Int32) (vr : Int32) (v : Option Value) (H : Heap) : Prop := ∃ t r c v9, t < nT ∧ vt = nI t ∧ r < 12 ∧ vr = nI r ∧ (¬ nI t < σ 26 0 ∧ σ 14 t = 0) ∧ (fFor (σ 11 t) (nI (r / 3)) = true ∧ σ 16 t = -1 ∧ σ 6 r = 0) ∧ freeN σ r c v9 ∧ v = some (.int (b2i (decide ((fLet nW r (c - v9) (up (up σ 16 t (nI r)) 17 t 1) (sq qs r (fQue σ qs r t))).1 17 t = 0)))) ∧ PX G A ad (fLet nW r (c - v9) (up (up σ 16 t (nI r)) 17 t 1) (sq qs r (fQue σ qs r t))).1 (fLet nW r (c - v9) (up (up σ 16 t (nI r)) 17 t 1) (sq qs r (fQue σ qs r t))).2 nT nW H
def xP_enter (G : GE) (A : Nat → Prop) (ad : Nat → Nat → Nat) (σ : SG) (qs : Nat → List Nat) (nT : Nat) (nW : Nat) (vt : Int32) (vr : Int32) (E : String) (H : Heap) : Prop := PX G A ad σ qs nT nW H ∧ ((E = xIO ∧ ¬ (∃ j, j < nT ∧ vt = nI j)) ∨ (E = xIO ∧ ¬ (∃ j, j < 12 ∧ vr = nI j)) ∨ (E = xIS ∧ ∃ t, t < nT ∧ vt = nI t ∧ (∃ j, j < 12 ∧ vr = nI j) ∧ (nI t < σ 26 0 ∨ ¬ σ 14 t = 0)) ∨ (E = xIS ∧ ∃ t, t < nT ∧ vt = nI t ∧ ∃ r, r < 12 ∧ vr = nI r ∧ ¬ (fFor (σ 11 t) (nI (r / 3)) = true ∧ σ 16 t = -1 ∧ σ 6 r = 0)))
theorem wCW_L_enter : Cond.codeWith yL_enter cL_enter 5 (Option.some Jvm.ClassFile.FieldType.int) [(0, 17, 20, 13), (0, 17, 24, 21)] ∈ gTb := gm (List.mem_of_getElem? (i := 610) (by decide +kernel)) rfl
set_option maxHeartbeats 4000000 in
set_option maxRecDepth 100000 in
theorem hL_enter (l : Launch) (G : GE) (Ax A : Nat → Prop) (o : Nat) (hAx : ∀ q, Ax q → A q) (ho : A o) (hno : ¬ Ax o) (ad : Nat → Nat → Nat) (σ : SG) (qs : Nat → List Nat) (nT nW : Nat) (hl9 : l.stackTraces = false) (vt vr : Int32) (hnT : nT ≤ 80) (hnW : nW ≤ 12) (hW0 : WFw σ nW) (hV : ∀ r, r < 12 → ∃ c v, freeN σ r c v) (hQ0 : ∀ r, r < 12 → (qs r).length ≤ 80) : HM l G A yL_enter cL_enter 5 (some .int) [(0, 17, 20, 13), (0, 17, 24, 21)] (rmL 10 6 250) [.ref (ad 0 0), .int vt, .int vr, .ref o] (fun H => PX G Ax ad σ qs nT nW H ∧ (∃ y, va_at G.1 mcl (o, LO G y) H) ∧ ∀ q, H.size ≤ q → Ax q) (fun v H => (∃ (x : Int32) (H1 : Heap), v = some (.int 0) ∧ qP_enter G Ax ad σ qs nT nW vt vr (some (.int x)) H1 ∧ va_at G.1 mcl (o, LO G (if x = 0 then 0 else 1)) H ∧ H.size = H1.size ∧ ∀ q, q ≠ o → H[q]? = H1[q]?) ∨ (∃ E, xP_enter G Ax ad σ qs nT nW vt vr E H ∧ ((E = xIO ∧ v = some (.int 1)) ∨ (E = xIS ∧ v = some (.int 2))) ∧ ∃ y, va_at G.1 mcl (o, LO G y) H)) := by
  refine HM.of (by decide) (Nat.le_of_ble_eq_true rfl) ?_
  intro p e s m args below meth c F hP ls hl
  obtain ⟨hP, ⟨y0, ho9⟩, hnew⟩ := hP
  have hx := F.1.1
  have hb := F.1.2.1
  have hown := F.1.2.2.2.1
  have hts := F.1.2.2.2.2
  have hr := F.2.1
  have hlocks := F.2.2.1
  have hE := F.2.2.2.2.1
  have hN := F.2.2.2.2.2.1
  have hA := F.2.2.2.2.2.2
  have hS : va_S A s.heap s.heap [] := va_S.rf
  have hl : lv_has ls 5 [(0, .ref (ad 0 0)), (1, .int vt), (2, .int vr), (3, .ref o)] := hl
  refine lv_aload_n hx hb dL_enter_0 rfl (lv_at hl 3 rfl) ?_
  refine lv_iconst (v := 0) hx hb dL_enter_1 (by decide) ?_
  refine lv_aload_n hx hb dL_enter_2 rfl (lv_at hl 0 rfl) ?_
  refine lv_iload_n hx hb dL_enter_3 rfl (lv_at hl 1 rfl) ?_
  refine lv_iload_n hx hb dL_enter_4 rfl (lv_at hl 2 rfl) ?_
  refine hcallV (n := 2) F.1 hE (kP_enter l G Ax ad σ qs nT nW hl9 vt vr hnT hnW hW0 hV hQ0) wML_L_39 wIM_X5_enter wSE_X5_X5_enter wIN_X5 wCO_X5_enter (by decide) rfl ⟨by decide, by decide⟩ (orec hE (hP.main rfl) (show mcl[7]? = some (RX5, TX5, 8) from rfl)) hS hAx hnew hP rfl hl.1 (Nat.le_of_ble_eq_true rfl) dL_enter_5 ⟨by decide, by decide⟩ (fun E ce q9 H1 locs1 hx9 hk hS hc9 hv9 hf9 => ?_) (fun v H1 locs1 hv hk hS => ?_)
  · have ho2 := ho9.kept (hk.2 _ ho9.lt hno)
    have hx9 : xP_enter G Ax ad σ qs nT nW vt vr E H1 := hx9
    have hEE : E = xIO ∨ E = xIS := by
      obtain ⟨-, (⟨hEE, -⟩ | ⟨hEE, -⟩ | ⟨hEE, ⟨_, ⟨-, -, ⟨_, ⟨-, -⟩⟩, (- | -)⟩⟩⟩ | ⟨hEE, ⟨_, ⟨-, -, ⟨_, ⟨-, -, -⟩⟩⟩⟩⟩)⟩ := hx9 <;> simp [hEE]
    rcases hEE with rfl | rfl
    · refine vx_catch (own := RL) (name := xIO) F.1.2.2.2.1 [] ⟨0, 17, 20, 13⟩ [⟨0, 17, 24, 21⟩] (by rw [F.2.2.2.1]; rfl) (fun z hz => absurd hz List.not_mem_nil) (by decide) (by decide) (hts _ wCL_L_13) (va_Nw.use rfl (hE.1.2.1 (xIO, xIO) (by simp [nwCast]))) hc9 hv9 hf9 ?_
      refine W.eq (g2 := F0 m 20 ls [.ref q9]) rfl ?_
      refine lv_astore (lv' := [(4, .ref q9), (0, .ref (ad 0 0)), (1, .int vt), (2, .int vr), (3, .ref o)]) hx hb dL_enter_20 hl (by decide) rfl (fun ls hl => ?_)
      refine lv_iconst (v := 1) hx hb dL_enter_22 (by decide) ?_
      exact kiret hx hb hr hlocks hS (by decide) (by decide) dL_enter_23 (Or.inr ⟨_, hx9, Or.inl (⟨rfl, rfl⟩), _, ho2⟩)
    · refine vx_catch (own := RL) (name := xIS) F.1.2.2.2.1 [⟨0, 17, 20, 13⟩] ⟨0, 17, 24, 21⟩ [] (by rw [F.2.2.2.1]; rfl) (fun z hz => by rw [List.mem_singleton] at hz; subst hz; exact Or.inr ⟨by decide, xIO, hts _ wCL_L_13, hN (xIS, xIO) (by simp [nwNot])⟩) (by decide) (by decide) (hts _ wCL_L_21) (va_Nw.use rfl (hE.1.2.1 (xIS, xIS) (by simp [nwCast]))) hc9 hv9 hf9 ?_
      refine W.eq (g2 := F0 m 24 ls [.ref q9]) rfl ?_
      refine lv_astore (lv' := [(4, .ref q9), (0, .ref (ad 0 0)), (1, .int vt), (2, .int vr), (3, .ref o)]) hx hb dL_enter_24 hl (by decide) rfl (fun ls hl => ?_)
      refine lv_iconst (v := 2) hx hb dL_enter_26 (by decide) ?_
      exact kiret hx hb hr hlocks hS (by decide) (by decide) dL_enter_27 (Or.inr ⟨_, hx9, Or.inr (⟨rfl, rfl⟩), _, ho2⟩)
  · have ho3 := ho9.kept (hk.2 _ ho9.lt hno)
    have hQ0 : qP_enter G Ax ad σ qs nT nW vt vr v H1 := hv
    obtain ⟨x, rfl⟩ : ∃ x, v = some (.int x) := by
      obtain ⟨_, _, _, _, ⟨-, -, -, -, ⟨-, -⟩, ⟨-, -, -⟩, -, rfl, -⟩⟩ := hQ0 <;> exact ⟨_, rfl⟩
    have hQ := hQ0
    refine lv_if_eq (tgt := 15) hx hb dL_enter_8 (by decide) (fun c_8_1 => ?_) (fun c_8_1 => ?_)
    · refine lv_lconst (v := 0) hx hb dL_enter_15 rfl ?_
      refine xlast hx hb hE.1.1 hS ho3 ho dL_enter_16 (fun H2 locs2 ho2 z2 oq2 hS => ?_)
      have ho2 : va_at G.1 mcl (o, LO G (if x = 0 then 0 else 1)) H2 := by rw [if_pos c_8_1]; exact ho2
      refine lv_goto (tgt := 28) hx hb dL_enter_17 (by decide) ?_
      refine lv_iconst (v := 0) hx hb dL_enter_28 (by decide) ?_
      exact kiret hx hb hr hlocks hS (by decide) (by decide) dL_enter_29 (Or.inl ⟨_, _, rfl, hQ, ho2, z2, oq2⟩)
    · refine lv_lconst (v := 1) hx hb dL_enter_11 rfl ?_
      refine lv_goto (tgt := 16) hx hb dL_enter_12 (by decide) ?_
      refine xlast hx hb hE.1.1 hS ho3 ho dL_enter_16 (fun H2 locs2 ho2 z2 oq2 hS => ?_)
      have ho2 : va_at G.1 mcl (o, LO G (if x = 0 then 0 else 1)) H2 := by rw [if_neg c_8_1]; exact ho2
      refine lv_goto (tgt := 28) hx hb dL_enter_17 (by decide) ?_
      refine lv_iconst (v := 0) hx hb dL_enter_28 (by decide) ?_
      exact kiret hx hb hr hlocks hS (by decide) (by decide) dL_enter_29 (Or.inl ⟨_, _, rfl, hQ, ho2, z2, oq2⟩)
def qP_goOut (G : GE) (A : Nat → Prop) (ad : Nat → Nat → Nat) (σ : SG) (qs : Nat → List Nat) (nT : Nat) (nW : Nat) (vt : Int32) (v : Option Value) (H : Heap) : Prop := ∃ t r c v9, t < nT ∧ vt = nI t ∧ r < 12 ∧ σ 16 t = nI r ∧ freeN σ r c v9 ∧ v = some (.int (nI r)) ∧ ((¬ σ 17 t = 0 ∧ PX G A ad (fLet nW r (c - v9) (up (up σ 16 t (-1)) 17 t 0) (sq qs r (qrem t (qs r)))).1 (fLet nW r (c - v9) (up (up σ 16 t (-1)) 17 t 0) (sq qs r (qrem t (qs r)))).2 nT nW H) ∨ (σ 17 t = 0 ∧ v9 ≠ 0 ∧ PX G A ad (fLet nW r (c - (v9 - 1)) (up (up (up σ 7 r (σ 7 r - 1)) 16 t (-1)) 17 t 0) qs).1 (fLet nW r (c - (v9 - 1)) (up (up (up σ 7 r (σ 7 r - 1)) 16 t (-1)) 17 t 0) qs).2 nT nW H))
def xP_goOut (G : GE) (A : Nat → Prop) (ad : Nat → Nat → Nat) (σ : SG) (qs : Nat → List Nat) (nT : Nat) (nW : Nat) (vt : Int32) (E : String) (H : Heap) : Prop := PX G A ad σ qs nT nW H ∧ ((E = xIO ∧ ¬ (∃ j, j < nT ∧ vt = nI j)) ∨ (E = xIS ∧ ∃ t, t < nT ∧ vt = nI t ∧ σ 16 t = -1))
theorem wCW_L_goOut : Cond.codeWith yL_goOut cL_goOut 4 (Option.some Jvm.ClassFile.FieldType.int) [(0, 9, 12, 13), (0, 9, 15, 21)] ∈ gTb := gm (List.mem_of_getElem? (i := 875) (by decide +kernel)) rfl
set_option maxHeartbeats 4000000 in
set_option maxRecDepth 100000 in
theorem hL_goOut (l : Launch) (G : GE) (Ax A : Nat → Prop) (o : Nat) (hAx : ∀ q, Ax q → A q) (ho : A o) (hno : ¬ Ax o) (ad : Nat → Nat → Nat) (σ : SG) (qs : Nat → List Nat) (nT nW : Nat) (hl9 : l.stackTraces = false) (vt : Int32) (hnT : nT ≤ 80) (hnW : nW ≤ 12) (hW0 : WFw σ nW) (hV : ∀ r, r < 12 → ∃ c v, freeN σ r c v) (hQ0 : ∀ r, r < 12 → (qs r).length ≤ 80) (hR : ∀ t, t < nT → σ 16 t = -1 ∨ ∃ r, r < 12 ∧ σ 16 t = nI r) (hv1 : ∀ t r, t < nT → r < 12 → σ 16 t = nI r → σ 17 t = 0 → ∀ c v, freeN σ r c v → v ≠ 0) : HM l G A yL_goOut cL_goOut 4 (some .int) [(0, 9, 12, 13), (0, 9, 15, 21)] (rmL 9 2 12) [.ref (ad 0 0), .int vt, .ref o] (fun H => PX G Ax ad σ qs nT nW H ∧ (∃ y, va_at G.1 mcl (o, LO G y) H) ∧ ∀ q, H.size ≤ q → Ax q) (fun v H => (∃ (x : Int32) (H1 : Heap), v = some (.int 0) ∧ qP_goOut G Ax ad σ qs nT nW vt (some (.int x)) H1 ∧ va_at G.1 mcl (o, LO G x.toInt64) H ∧ H.size = H1.size ∧ ∀ q, q ≠ o → H[q]? = H1[q]?) ∨ (∃ E, xP_goOut G Ax ad σ qs nT nW vt E H ∧ ((E = xIO ∧ v = some (.int 1)) ∨ (E = xIS ∧ v = some (.int 2))) ∧ ∃ y, va_at G.1 mcl (o, LO G y) H)) := by
  refine HM.of (by decide) (Nat.le_of_ble_eq_true rfl) ?_
  intro p e s m args below meth c F hP ls hl
  obtain ⟨hP, ⟨y0, ho9⟩, hnew⟩ := hP
  have hx := F.1.1
  have hb := F.1.2.1
  have hown := F.1.2.2.2.1
  have hts := F.1.2.2.2.2
  have hr := F.2.1
  have hlocks := F.2.2.1
  have hE := F.2.2.2.2.1
  have hN := F.2.2.2.2.2.1
  have hA := F.2.2.2.2.2.2
  have hS : va_S A s.heap s.heap [] := va_S.rf
  have hl : lv_has ls 4 [(0, .ref (ad 0 0)), (1, .int vt), (2, .ref o)] := hl
  refine lv_aload_n hx hb dL_goOut_0 rfl (lv_at hl 2 rfl) ?_
  refine lv_iconst (v := 0) hx hb dL_goOut_1 (by decide) ?_
  refine lv_aload_n hx hb dL_goOut_2 rfl (lv_at hl 0 rfl) ?_
  refine lv_iload_n hx hb dL_goOut_3 rfl (lv_at hl 1 rfl) ?_
  refine hcallV (n := 1) F.1 hE (kP_goOut l G Ax ad σ qs nT nW hl9 vt hnT hnW hW0 hV hQ0 hR hv1) wML_L_43 wIM_X5_goOut wSE_X5_X5_goOut wIN_X5 wCO_X5_goOut (by decide) rfl ⟨by decide, by decide⟩ (orec hE (hP.main rfl) (show mcl[7]? = some (RX5, TX5, 8) from rfl)) hS hAx hnew hP rfl hl.1 (Nat.le_of_ble_eq_true rfl) dL_goOut_4 ⟨by decide, by decide⟩ (fun E ce q9 H1 locs1 hx9 hk hS hc9 hv9 hf9 => ?_) (fun v H1 locs1 hv hk hS => ?_)
  · have ho2 := ho9.kept (hk.2 _ ho9.lt hno)
    have hx9 : xP_goOut G Ax ad σ qs nT nW vt E H1 := hx9
    have hEE : E = xIO ∨ E = xIS := by
      obtain ⟨-, (⟨hEE, -⟩ | ⟨hEE, ⟨_, ⟨-, -, -⟩⟩⟩)⟩ := hx9 <;> simp [hEE]
    rcases hEE with rfl | rfl
    · refine vx_catch (own := RL) (name := xIO) F.1.2.2.2.1 [] ⟨0, 9, 12, 13⟩ [⟨0, 9, 15, 21⟩] (by rw [F.2.2.2.1]; rfl) (fun z hz => absurd hz List.not_mem_nil) (by decide) (by decide) (hts _ wCL_L_13) (va_Nw.use rfl (hE.1.2.1 (xIO, xIO) (by simp [nwCast]))) hc9 hv9 hf9 ?_
      refine W.eq (g2 := F0 m 12 ls [.ref q9]) rfl ?_
      refine lv_astore_n (lv' := [(3, .ref q9), (0, .ref (ad 0 0)), (1, .int vt), (2, .ref o)]) hx hb dL_goOut_12 rfl hl (by decide) rfl (fun ls hl => ?_)
      refine lv_iconst (v := 1) hx hb dL_goOut_13 (by decide) ?_
      exact kiret hx hb hr hlocks hS (by decide) (by decide) dL_goOut_14 (Or.inr ⟨_, hx9, Or.inl (⟨rfl, rfl⟩), _, ho2⟩)
    · refine vx_catch (own := RL) (name := xIS) F.1.2.2.2.1 [⟨0, 9, 12, 13⟩] ⟨0, 9, 15, 21⟩ [] (by rw [F.2.2.2.1]; rfl) (fun z hz => by rw [List.mem_singleton] at hz; subst hz; exact Or.inr ⟨by decide, xIO, hts _ wCL_L_13, hN (xIS, xIO) (by simp [nwNot])⟩) (by decide) (by decide) (hts _ wCL_L_21) (va_Nw.use rfl (hE.1.2.1 (xIS, xIS) (by simp [nwCast]))) hc9 hv9 hf9 ?_
      refine W.eq (g2 := F0 m 15 ls [.ref q9]) rfl ?_
      refine lv_astore_n (lv' := [(3, .ref q9), (0, .ref (ad 0 0)), (1, .int vt), (2, .ref o)]) hx hb dL_goOut_15 rfl hl (by decide) rfl (fun ls hl => ?_)
      refine lv_iconst (v := 2) hx hb dL_goOut_16 (by decide) ?_
      exact kiret hx hb hr hlocks hS (by decide) (by decide) dL_goOut_17 (Or.inr ⟨_, hx9, Or.inr (⟨rfl, rfl⟩), _, ho2⟩)
  · have ho3 := ho9.kept (hk.2 _ ho9.lt hno)
    have hQ0 : qP_goOut G Ax ad σ qs nT nW vt v H1 := hv
    obtain ⟨x, rfl⟩ : ∃ x, v = some (.int x) := by
      obtain ⟨_, _, _, _, ⟨-, -, -, -, -, rfl, (⟨-, -⟩ | ⟨-, -, -⟩)⟩⟩ := hQ0 <;> exact ⟨_, rfl⟩
    have hQ := hQ0
    refine lv_i2l hx hb dL_goOut_7 rfl ?_
    refine xlast hx hb hE.1.1 hS ho3 ho dL_goOut_8 (fun H2 locs2 ho2 z2 oq2 hS => ?_)
    refine lv_goto (tgt := 18) hx hb dL_goOut_9 (by decide) ?_
    refine lv_iconst (v := 0) hx hb dL_goOut_18 (by decide) ?_
    exact kiret hx hb hr hlocks hS (by decide) (by decide) dL_goOut_19 (Or.inl ⟨_, _, rfl, hQ, ho2, z2, oq2⟩)
def qP_addWork (G : GE) (A : Nat → Prop) (ad : Nat → Nat → Nat) (σ : SG) (qs : Nat → List Nat) (nT : Nat) (nW : Nat) (vr : Int32) (v : Option Value) (H : Heap) : Prop := ∃ r, r < 12 ∧ vr = nI r ∧ nW < 12 ∧ v = some (.int (nI nW)) ∧ ∃ q, PX G A (adN ad 9 nW q) (fNewW σ nW r) qs nT (nW + 1) H
def xP_addWork (G : GE) (A : Nat → Prop) (ad : Nat → Nat → Nat) (σ : SG) (qs : Nat → List Nat) (nT : Nat) (nW : Nat) (vr : Int32) (E : String) (H : Heap) : Prop := PX G A ad σ qs nT nW H ∧ ((E = xIO ∧ ¬ (∃ j, j < 12 ∧ vr = nI j)) ∨ (E = xIS ∧ (∃ j, j < 12 ∧ vr = nI j) ∧ nW = 12))
theorem wCW_L_addWork : Cond.codeWith yL_addWork cL_addWork 4 (Option.some Jvm.ClassFile.FieldType.int) [(0, 9, 12, 13), (0, 9, 15, 21)] ∈ gTb := gm (List.mem_of_getElem? (i := 888) (by decide +kernel)) rfl
set_option maxHeartbeats 4000000 in
set_option maxRecDepth 100000 in
theorem hL_addWork (l : Launch) (G : GE) (Ax A : Nat → Prop) (o : Nat) (hAx : ∀ q, Ax q → A q) (ho : A o) (hno : ¬ Ax o) (ad : Nat → Nat → Nat) (σ : SG) (qs : Nat → List Nat) (nT nW : Nat) (hl9 : l.stackTraces = false) (vr : Int32) (hnW9 : nW ≤ 12) : HM l G A yL_addWork cL_addWork 4 (some .int) [(0, 9, 12, 13), (0, 9, 15, 21)] (rmL 10 6 250) [.ref (ad 0 0), .int vr, .ref o] (fun H => PX G Ax ad σ qs nT nW H ∧ (∃ y, va_at G.1 mcl (o, LO G y) H) ∧ ∀ q, H.size ≤ q → Ax q) (fun v H => (∃ (x : Int32) (H1 : Heap), v = some (.int 0) ∧ qP_addWork G Ax ad σ qs nT nW vr (some (.int x)) H1 ∧ va_at G.1 mcl (o, LO G x.toInt64) H ∧ H.size = H1.size ∧ ∀ q, q ≠ o → H[q]? = H1[q]?) ∨ (∃ E, xP_addWork G Ax ad σ qs nT nW vr E H ∧ ((E = xIO ∧ v = some (.int 1)) ∨ (E = xIS ∧ v = some (.int 2))) ∧ ∃ y, va_at G.1 mcl (o, LO G y) H)) := by
  refine HM.of (by decide) (Nat.le_of_ble_eq_true rfl) ?_
  intro p e s m args below meth c F hP ls hl
  obtain ⟨hP, ⟨y0, ho9⟩, hnew⟩ := hP
  have hx := F.1.1
  have hb := F.1.2.1
  have hown := F.1.2.2.2.1
  have hts := F.1.2.2.2.2
  have hr := F.2.1
  have hlocks := F.2.2.1
  have hE := F.2.2.2.2.1
  have hN := F.2.2.2.2.2.1
  have hA := F.2.2.2.2.2.2
  have hS : va_S A s.heap s.heap [] := va_S.rf
  have hl : lv_has ls 4 [(0, .ref (ad 0 0)), (1, .int vr), (2, .ref o)] := hl
  refine lv_aload_n hx hb dL_addWork_0 rfl (lv_at hl 2 rfl) ?_
  refine lv_iconst (v := 0) hx hb dL_addWork_1 (by decide) ?_
  refine lv_aload_n hx hb dL_addWork_2 rfl (lv_at hl 0 rfl) ?_
  refine lv_iload_n hx hb dL_addWork_3 rfl (lv_at hl 1 rfl) ?_
  refine hcallV (n := 1) F.1 hE (kP_addWork l G Ax ad σ qs nT nW hl9 vr hnW9) wML_L_46 wIM_X5_addWork wSE_X5_X5_addWork wIN_X5 wCO_X5_addWork (by decide) rfl ⟨by decide, by decide⟩ (orec hE (hP.main rfl) (show mcl[7]? = some (RX5, TX5, 8) from rfl)) hS hAx hnew hP rfl hl.1 (Nat.le_of_ble_eq_true rfl) dL_addWork_4 ⟨by decide, by decide⟩ (fun E ce q9 H1 locs1 hx9 hk hS hc9 hv9 hf9 => ?_) (fun v H1 locs1 hv hk hS => ?_)
  · have ho2 := ho9.kept (hk.2 _ ho9.lt hno)
    have hx9 : xP_addWork G Ax ad σ qs nT nW vr E H1 := hx9
    have hEE : E = xIO ∨ E = xIS := by
      obtain ⟨-, (⟨hEE, -⟩ | ⟨hEE, ⟨_, ⟨-, -⟩⟩, -⟩)⟩ := hx9 <;> simp [hEE]
    rcases hEE with rfl | rfl
    · refine vx_catch (own := RL) (name := xIO) F.1.2.2.2.1 [] ⟨0, 9, 12, 13⟩ [⟨0, 9, 15, 21⟩] (by rw [F.2.2.2.1]; rfl) (fun z hz => absurd hz List.not_mem_nil) (by decide) (by decide) (hts _ wCL_L_13) (va_Nw.use rfl (hE.1.2.1 (xIO, xIO) (by simp [nwCast]))) hc9 hv9 hf9 ?_
      refine W.eq (g2 := F0 m 12 ls [.ref q9]) rfl ?_
      refine lv_astore_n (lv' := [(3, .ref q9), (0, .ref (ad 0 0)), (1, .int vr), (2, .ref o)]) hx hb dL_addWork_12 rfl hl (by decide) rfl (fun ls hl => ?_)
      refine lv_iconst (v := 1) hx hb dL_addWork_13 (by decide) ?_
      exact kiret hx hb hr hlocks hS (by decide) (by decide) dL_addWork_14 (Or.inr ⟨_, hx9, Or.inl (⟨rfl, rfl⟩), _, ho2⟩)
    · refine vx_catch (own := RL) (name := xIS) F.1.2.2.2.1 [⟨0, 9, 12, 13⟩] ⟨0, 9, 15, 21⟩ [] (by rw [F.2.2.2.1]; rfl) (fun z hz => by rw [List.mem_singleton] at hz; subst hz; exact Or.inr ⟨by decide, xIO, hts _ wCL_L_13, hN (xIS, xIO) (by simp [nwNot])⟩) (by decide) (by decide) (hts _ wCL_L_21) (va_Nw.use rfl (hE.1.2.1 (xIS, xIS) (by simp [nwCast]))) hc9 hv9 hf9 ?_
      refine W.eq (g2 := F0 m 15 ls [.ref q9]) rfl ?_
      refine lv_astore_n (lv' := [(3, .ref q9), (0, .ref (ad 0 0)), (1, .int vr), (2, .ref o)]) hx hb dL_addWork_15 rfl hl (by decide) rfl (fun ls hl => ?_)
      refine lv_iconst (v := 2) hx hb dL_addWork_16 (by decide) ?_
      exact kiret hx hb hr hlocks hS (by decide) (by decide) dL_addWork_17 (Or.inr ⟨_, hx9, Or.inr (⟨rfl, rfl⟩), _, ho2⟩)
  · have ho3 := ho9.kept (hk.2 _ ho9.lt hno)
    have hQ0 : qP_addWork G Ax ad σ qs nT nW vr v H1 := hv
    obtain ⟨x, rfl⟩ : ∃ x, v = some (.int x) := by
      obtain ⟨_, ⟨-, -, -, rfl, ⟨_, -⟩⟩⟩ := hQ0 <;> exact ⟨_, rfl⟩
    have hQ := hQ0
    refine lv_i2l hx hb dL_addWork_7 rfl ?_
    refine xlast hx hb hE.1.1 hS ho3 ho dL_addWork_8 (fun H2 locs2 ho2 z2 oq2 hS => ?_)
    refine lv_goto (tgt := 18) hx hb dL_addWork_9 (by decide) ?_
    refine lv_iconst (v := 0) hx hb dL_addWork_18 (by decide) ?_
    exact kiret hx hb hr hlocks hS (by decide) (by decide) dL_addWork_19 (Or.inl ⟨_, _, rfl, hQ, ho2, z2, oq2⟩)
def qP_hang (G : GE) (A : Nat → Prop) (ad : Nat → Nat → Nat) (σ : SG) (qs : Nat → List Nat) (nT : Nat) (nW : Nat) (vw : Int32) (vr : Int32) (v : Option Value) (H : Heap) : Prop := ∃ u r b, u < nW ∧ vw = nI u ∧ r < 12 ∧ vr = nI r ∧ b < 12 ∧ σ 19 u = nI b ∧ nI (r / 3) = nI (b / 3) ∧ v = some (.int (σ 19 u)) ∧ PX G A ad (up σ 19 u (nI r)) qs nT nW H
def xP_hang (G : GE) (A : Nat → Prop) (ad : Nat → Nat → Nat) (σ : SG) (qs : Nat → List Nat) (nT : Nat) (nW : Nat) (vw : Int32) (vr : Int32) (E : String) (H : Heap) : Prop := PX G A ad σ qs nT nW H ∧ ((E = xIO ∧ ¬ (∃ j, j < nW ∧ vw = nI j)) ∨ (E = xIO ∧ ¬ (∃ j, j < 12 ∧ vr = nI j)) ∨ (E = xIS ∧ ∃ u r b, u < nW ∧ vw = nI u ∧ r < 12 ∧ vr = nI r ∧ b < 12 ∧ σ 19 u = nI b ∧ ¬ nI (r / 3) = nI (b / 3)))
theorem wCW_L_hang : Cond.codeWith yL_hang cL_hang 5 (Option.some Jvm.ClassFile.FieldType.int) [(0, 10, 13, 13), (0, 10, 17, 21)] ∈ gTb := gm (List.mem_of_getElem? (i := 930) (by decide +kernel)) rfl
set_option maxHeartbeats 4000000 in
set_option maxRecDepth 100000 in
theorem hL_hang (l : Launch) (G : GE) (Ax A : Nat → Prop) (o : Nat) (hAx : ∀ q, Ax q → A q) (ho : A o) (hno : ¬ Ax o) (ad : Nat → Nat → Nat) (σ : SG) (qs : Nat → List Nat) (nT nW : Nat) (hl9 : l.stackTraces = false) (vw vr : Int32) (hnW : nW ≤ 12) (hWr : ∀ u, u < nW → ∃ b, b < 12 ∧ σ 19 u = nI b) : HM l G A yL_hang cL_hang 5 (some .int) [(0, 10, 13, 13), (0, 10, 17, 21)] (rmL 7 3 18) [.ref (ad 0 0), .int vw, .int vr, .ref o] (fun H => PX G Ax ad σ qs nT nW H ∧ (∃ y, va_at G.1 mcl (o, LO G y) H) ∧ ∀ q, H.size ≤ q → Ax q) (fun v H => (∃ (x : Int32) (H1 : Heap), v = some (.int 0) ∧ qP_hang G Ax ad σ qs nT nW vw vr (some (.int x)) H1 ∧ va_at G.1 mcl (o, LO G x.toInt64) H ∧ H.size = H1.size ∧ ∀ q, q ≠ o → H[q]? = H1[q]?) ∨ (∃ E, xP_hang G Ax ad σ qs nT nW vw vr E H ∧ ((E = xIO ∧ v = some (.int 1)) ∨ (E = xIS ∧ v = some (.int 2))) ∧ ∃ y, va_at G.1 mcl (o, LO G y) H)) := by
  refine HM.of (by decide) (Nat.le_of_ble_eq_true rfl) ?_
  intro p e s m args below meth c F hP ls hl
  obtain ⟨hP, ⟨y0, ho9⟩, hnew⟩ := hP
  have hx := F.1.1
  have hb := F.1.2.1
  have hown := F.1.2.2.2.1
  have hts := F.1.2.2.2.2
  have hr := F.2.1
  have hlocks := F.2.2.1
  have hE := F.2.2.2.2.1
  have hN := F.2.2.2.2.2.1
  have hA := F.2.2.2.2.2.2
  have hS : va_S A s.heap s.heap [] := va_S.rf
  have hl : lv_has ls 5 [(0, .ref (ad 0 0)), (1, .int vw), (2, .int vr), (3, .ref o)] := hl
  refine lv_aload_n hx hb dL_hang_0 rfl (lv_at hl 3 rfl) ?_
  refine lv_iconst (v := 0) hx hb dL_hang_1 (by decide) ?_
  refine lv_aload_n hx hb dL_hang_2 rfl (lv_at hl 0 rfl) ?_
  refine lv_iload_n hx hb dL_hang_3 rfl (lv_at hl 1 rfl) ?_
  refine lv_iload_n hx hb dL_hang_4 rfl (lv_at hl 2 rfl) ?_
  refine hcallV (n := 2) F.1 hE (kP_hang l G Ax ad σ qs nT nW hl9 vw vr hnW hWr) wML_L_49 wIM_X5_hang wSE_X5_X5_hang wIN_X5 wCO_X5_hang (by decide) rfl ⟨by decide, by decide⟩ (orec hE (hP.main rfl) (show mcl[7]? = some (RX5, TX5, 8) from rfl)) hS hAx hnew hP rfl hl.1 (Nat.le_of_ble_eq_true rfl) dL_hang_5 ⟨by decide, by decide⟩ (fun E ce q9 H1 locs1 hx9 hk hS hc9 hv9 hf9 => ?_) (fun v H1 locs1 hv hk hS => ?_)
  · have ho2 := ho9.kept (hk.2 _ ho9.lt hno)
    have hx9 : xP_hang G Ax ad σ qs nT nW vw vr E H1 := hx9
    have hEE : E = xIO ∨ E = xIS := by
      obtain ⟨-, (⟨hEE, -⟩ | ⟨hEE, -⟩ | ⟨hEE, ⟨_, _, _, ⟨-, -, -, -, -, -, -⟩⟩⟩)⟩ := hx9 <;> simp [hEE]
    rcases hEE with rfl | rfl
    · refine vx_catch (own := RL) (name := xIO) F.1.2.2.2.1 [] ⟨0, 10, 13, 13⟩ [⟨0, 10, 17, 21⟩] (by rw [F.2.2.2.1]; rfl) (fun z hz => absurd hz List.not_mem_nil) (by decide) (by decide) (hts _ wCL_L_13) (va_Nw.use rfl (hE.1.2.1 (xIO, xIO) (by simp [nwCast]))) hc9 hv9 hf9 ?_
      refine W.eq (g2 := F0 m 13 ls [.ref q9]) rfl ?_
      refine lv_astore (lv' := [(4, .ref q9), (0, .ref (ad 0 0)), (1, .int vw), (2, .int vr), (3, .ref o)]) hx hb dL_hang_13 hl (by decide) rfl (fun ls hl => ?_)
      refine lv_iconst (v := 1) hx hb dL_hang_15 (by decide) ?_
      exact kiret hx hb hr hlocks hS (by decide) (by decide) dL_hang_16 (Or.inr ⟨_, hx9, Or.inl (⟨rfl, rfl⟩), _, ho2⟩)
    · refine vx_catch (own := RL) (name := xIS) F.1.2.2.2.1 [⟨0, 10, 13, 13⟩] ⟨0, 10, 17, 21⟩ [] (by rw [F.2.2.2.1]; rfl) (fun z hz => by rw [List.mem_singleton] at hz; subst hz; exact Or.inr ⟨by decide, xIO, hts _ wCL_L_13, hN (xIS, xIO) (by simp [nwNot])⟩) (by decide) (by decide) (hts _ wCL_L_21) (va_Nw.use rfl (hE.1.2.1 (xIS, xIS) (by simp [nwCast]))) hc9 hv9 hf9 ?_
      refine W.eq (g2 := F0 m 17 ls [.ref q9]) rfl ?_
      refine lv_astore (lv' := [(4, .ref q9), (0, .ref (ad 0 0)), (1, .int vw), (2, .int vr), (3, .ref o)]) hx hb dL_hang_17 hl (by decide) rfl (fun ls hl => ?_)
      refine lv_iconst (v := 2) hx hb dL_hang_19 (by decide) ?_
      exact kiret hx hb hr hlocks hS (by decide) (by decide) dL_hang_20 (Or.inr ⟨_, hx9, Or.inr (⟨rfl, rfl⟩), _, ho2⟩)
  · have ho3 := ho9.kept (hk.2 _ ho9.lt hno)
    have hQ0 : qP_hang G Ax ad σ qs nT nW vw vr v H1 := hv
    obtain ⟨x, rfl⟩ : ∃ x, v = some (.int x) := by
      obtain ⟨_, _, _, ⟨-, -, -, -, -, -, -, rfl, -⟩⟩ := hQ0 <;> exact ⟨_, rfl⟩
    have hQ := hQ0
    refine lv_i2l hx hb dL_hang_8 rfl ?_
    refine xlast hx hb hE.1.1 hS ho3 ho dL_hang_9 (fun H2 locs2 ho2 z2 oq2 hS => ?_)
    refine lv_goto (tgt := 21) hx hb dL_hang_10 (by decide) ?_
    refine lv_iconst (v := 0) hx hb dL_hang_21 (by decide) ?_
    exact kiret hx hb hr hlocks hS (by decide) (by decide) dL_hang_22 (Or.inl ⟨_, _, rfl, hQ, ho2, z2, oq2⟩)
def qP_lend (G : GE) (A : Nat → Prop) (ad : Nat → Nat → Nat) (σ : SG) (qs : Nat → List Nat) (nT : Nat) (nW : Nat) (vw : Int32) (vr : Int32) (vv : Int32) (v : Option Value) (H : Heap) : Prop := ∃ u r, u < nW ∧ vw = nI u ∧ r < 12 ∧ vr = nI r ∧ (¬ vv < 0 ∧ vv ≤ 1000) ∧ (σ 20 u = 0 ∧ ¬ nI (r / 3) = σ 18 u) ∧ v = some (.int (nI (r / 3))) ∧ PX G A ad (up (up (up (up σ 20 u 1) 21 u vv) 22 u 0) 19 u (nI r)) qs nT nW H
def xP_lend (G : GE) (A : Nat → Prop) (ad : Nat → Nat → Nat) (σ : SG) (qs : Nat → List Nat) (nT : Nat) (nW : Nat) (vw : Int32) (vr : Int32) (vv : Int32) (E : String) (H : Heap) : Prop := PX G A ad σ qs nT nW H ∧ ((E = xIO ∧ ¬ (∃ j, j < nW ∧ vw = nI j)) ∨ (E = xIO ∧ ¬ (∃ j, j < 12 ∧ vr = nI j)) ∨ (E = xIA ∧ (∃ u r, u < nW ∧ vw = nI u ∧ r < 12 ∧ vr = nI r) ∧ (vv < 0 ∨ ¬ vv ≤ 1000)) ∨ (E = xIS ∧ ∃ u r, u < nW ∧ vw = nI u ∧ r < 12 ∧ vr = nI r ∧ (¬ vv < 0 ∧ vv ≤ 1000) ∧ ¬ (σ 20 u = 0 ∧ ¬ nI (r / 3) = σ 18 u)))
theorem wCW_L_lend : Cond.codeWith yL_lend cL_lend 6 (Option.some Jvm.ClassFile.FieldType.int) [(0, 12, 15, 13), (0, 12, 19, 15), (0, 12, 23, 21)] ∈ gTb := gm (List.mem_of_getElem? (i := 943) (by decide +kernel)) rfl
set_option maxHeartbeats 4000000 in
set_option maxRecDepth 100000 in
theorem hL_lend (l : Launch) (G : GE) (Ax A : Nat → Prop) (o : Nat) (hAx : ∀ q, Ax q → A q) (ho : A o) (hno : ¬ Ax o) (ad : Nat → Nat → Nat) (σ : SG) (qs : Nat → List Nat) (nT nW : Nat) (hl9 : l.stackTraces = false) (vw vr vv : Int32) (hnW : nW ≤ 12) : HM l G A yL_lend cL_lend 6 (some .int) [(0, 12, 15, 13), (0, 12, 19, 15), (0, 12, 23, 21)] (rmL 7 4 24) [.ref (ad 0 0), .int vw, .int vr, .int vv, .ref o] (fun H => PX G Ax ad σ qs nT nW H ∧ (∃ y, va_at G.1 mcl (o, LO G y) H) ∧ ∀ q, H.size ≤ q → Ax q) (fun v H => (∃ (x : Int32) (H1 : Heap), v = some (.int 0) ∧ qP_lend G Ax ad σ qs nT nW vw vr vv (some (.int x)) H1 ∧ va_at G.1 mcl (o, LO G x.toInt64) H ∧ H.size = H1.size ∧ ∀ q, q ≠ o → H[q]? = H1[q]?) ∨ (∃ E, xP_lend G Ax ad σ qs nT nW vw vr vv E H ∧ ((E = xIO ∧ v = some (.int 1)) ∨ (E = xIA ∧ v = some (.int 2)) ∨ (E = xIS ∧ v = some (.int 3))) ∧ ∃ y, va_at G.1 mcl (o, LO G y) H)) := by
  refine HM.of (by decide) (Nat.le_of_ble_eq_true rfl) ?_
  intro p e s m args below meth c F hP ls hl
  obtain ⟨hP, ⟨y0, ho9⟩, hnew⟩ := hP
  have hx := F.1.1
  have hb := F.1.2.1
  have hown := F.1.2.2.2.1
  have hts := F.1.2.2.2.2
  have hr := F.2.1
  have hlocks := F.2.2.1
  have hE := F.2.2.2.2.1
  have hN := F.2.2.2.2.2.1
  have hA := F.2.2.2.2.2.2
  have hS : va_S A s.heap s.heap [] := va_S.rf
  have hl : lv_has ls 6 [(0, .ref (ad 0 0)), (1, .int vw), (2, .int vr), (3, .int vv), (4, .ref o)] := hl
  refine lv_aload hx hb dL_lend_0 (lv_at hl 4 rfl) ?_
  refine lv_iconst (v := 0) hx hb dL_lend_2 (by decide) ?_
  refine lv_aload_n hx hb dL_lend_3 rfl (lv_at hl 0 rfl) ?_
  refine lv_iload_n hx hb dL_lend_4 rfl (lv_at hl 1 rfl) ?_
  refine lv_iload_n hx hb dL_lend_5 rfl (lv_at hl 2 rfl) ?_
  refine lv_iload_n hx hb dL_lend_6 rfl (lv_at hl 3 rfl) ?_
  refine hcallV (n := 3) F.1 hE (kQ_lend l G Ax ad σ qs nT nW hl9 vw vr vv hnW) wML_L_52 wIM_X5_lend wSE_X5_X5_lend wIN_X5 wCO_X5_lend (by decide) rfl ⟨by decide, by decide⟩ (orec hE (hP.main rfl) (show mcl[7]? = some (RX5, TX5, 8) from rfl)) hS hAx hnew hP rfl hl.1 (Nat.le_of_ble_eq_true rfl) dL_lend_7 ⟨by decide, by decide⟩ (fun E ce q9 H1 locs1 hx9 hk hS hc9 hv9 hf9 => ?_) (fun v H1 locs1 hv hk hS => ?_)
  · have ho2 := ho9.kept (hk.2 _ ho9.lt hno)
    have hx9 : xP_lend G Ax ad σ qs nT nW vw vr vv E H1 := hx9
    have hEE : E = xIO ∨ E = xIA ∨ E = xIS := by
      obtain ⟨-, (⟨hEE, -⟩ | ⟨hEE, -⟩ | ⟨hEE, ⟨_, _, ⟨-, -, -, -⟩⟩, (- | -)⟩ | ⟨hEE, ⟨_, _, ⟨-, -, -, -, ⟨-, -⟩, -⟩⟩⟩)⟩ := hx9 <;> simp [hEE]
    rcases hEE with rfl | rfl | rfl
    · refine vx_catch (own := RL) (name := xIO) F.1.2.2.2.1 [] ⟨0, 12, 15, 13⟩ [⟨0, 12, 19, 15⟩, ⟨0, 12, 23, 21⟩] (by rw [F.2.2.2.1]; rfl) (fun z hz => absurd hz List.not_mem_nil) (by decide) (by decide) (hts _ wCL_L_13) (va_Nw.use rfl (hE.1.2.1 (xIO, xIO) (by simp [nwCast]))) hc9 hv9 hf9 ?_
      refine W.eq (g2 := F0 m 15 ls [.ref q9]) rfl ?_
      refine lv_astore (lv' := [(5, .ref q9), (0, .ref (ad 0 0)), (1, .int vw), (2, .int vr), (3, .int vv), (4, .ref o)]) hx hb dL_lend_15 hl (by decide) rfl (fun ls hl => ?_)
      refine lv_iconst (v := 1) hx hb dL_lend_17 (by decide) ?_
      exact kiret hx hb hr hlocks hS (by decide) (by decide) dL_lend_18 (Or.inr ⟨_, hx9, Or.inl (⟨rfl, rfl⟩), _, ho2⟩)
    · refine vx_catch (own := RL) (name := xIA) F.1.2.2.2.1 [⟨0, 12, 15, 13⟩] ⟨0, 12, 19, 15⟩ [⟨0, 12, 23, 21⟩] (by rw [F.2.2.2.1]; rfl) (fun z hz => by rw [List.mem_singleton] at hz; subst hz; exact Or.inr ⟨by decide, xIO, hts _ wCL_L_13, hN (xIA, xIO) (by simp [nwNot])⟩) (by decide) (by decide) (hts _ wCL_L_15) (va_Nw.use rfl (hE.1.2.1 (xIA, xIA) (by simp [nwCast]))) hc9 hv9 hf9 ?_
      refine W.eq (g2 := F0 m 19 ls [.ref q9]) rfl ?_
      refine lv_astore (lv' := [(5, .ref q9), (0, .ref (ad 0 0)), (1, .int vw), (2, .int vr), (3, .int vv), (4, .ref o)]) hx hb dL_lend_19 hl (by decide) rfl (fun ls hl => ?_)
      refine lv_iconst (v := 2) hx hb dL_lend_21 (by decide) ?_
      exact kiret hx hb hr hlocks hS (by decide) (by decide) dL_lend_22 (Or.inr ⟨_, hx9, Or.inr (Or.inl (⟨rfl, rfl⟩)), _, ho2⟩)
    · refine vx_catch (own := RL) (name := xIS) F.1.2.2.2.1 [⟨0, 12, 15, 13⟩, ⟨0, 12, 19, 15⟩] ⟨0, 12, 23, 21⟩ [] (by rw [F.2.2.2.1]; rfl) (fun z hz => by
        simp only [List.mem_cons, List.not_mem_nil, or_false] at hz
        rcases hz with rfl | rfl
        · exact Or.inr ⟨by decide, xIO, hts _ wCL_L_13, hN (xIS, xIO) (by simp [nwNot])⟩
        · exact Or.inr ⟨by decide, xIA, hts _ wCL_L_15, hN (xIS, xIA) (by simp [nwNot])⟩) (by decide) (by decide) (hts _ wCL_L_21) (va_Nw.use rfl (hE.1.2.1 (xIS, xIS) (by simp [nwCast]))) hc9 hv9 hf9 ?_
      refine W.eq (g2 := F0 m 23 ls [.ref q9]) rfl ?_
      refine lv_astore (lv' := [(5, .ref q9), (0, .ref (ad 0 0)), (1, .int vw), (2, .int vr), (3, .int vv), (4, .ref o)]) hx hb dL_lend_23 hl (by decide) rfl (fun ls hl => ?_)
      refine lv_iconst (v := 3) hx hb dL_lend_25 (by decide) ?_
      exact kiret hx hb hr hlocks hS (by decide) (by decide) dL_lend_26 (Or.inr ⟨_, hx9, Or.inr (Or.inr (⟨rfl, rfl⟩)), _, ho2⟩)
  · have ho3 := ho9.kept (hk.2 _ ho9.lt hno)
    have hQ0 : qP_lend G Ax ad σ qs nT nW vw vr vv v H1 := hv
    obtain ⟨x, rfl⟩ : ∃ x, v = some (.int x) := by
      obtain ⟨_, _, ⟨-, -, -, -, ⟨-, -⟩, ⟨-, -⟩, rfl, -⟩⟩ := hQ0 <;> exact ⟨_, rfl⟩
    have hQ := hQ0
    refine lv_i2l hx hb dL_lend_10 rfl ?_
    refine xlast hx hb hE.1.1 hS ho3 ho dL_lend_11 (fun H2 locs2 ho2 z2 oq2 hS => ?_)
    refine lv_goto (tgt := 27) hx hb dL_lend_12 (by decide) ?_
    refine lv_iconst (v := 0) hx hb dL_lend_27 (by decide) ?_
    exact kiret hx hb hr hlocks hS (by decide) (by decide) dL_lend_28 (Or.inl ⟨_, _, rfl, hQ, ho2, z2, oq2⟩)
def qP_bringHome (G : GE) (A : Nat → Prop) (ad : Nat → Nat → Nat) (σ : SG) (qs : Nat → List Nat) (nT : Nat) (nW : Nat) (vw : Int32) (vr : Int32) (v : Option Value) (H : Heap) : Prop := ∃ u r, u < nW ∧ vw = nI u ∧ r < 12 ∧ vr = nI r ∧ (¬ σ 20 u = 0 ∧ nI (r / 3) = σ 18 u) ∧ v = some (.int (σ 22 u)) ∧ PX G A ad (up (up σ 20 u 0) 19 u (nI r)) qs nT nW H
def xP_bringHome (G : GE) (A : Nat → Prop) (ad : Nat → Nat → Nat) (σ : SG) (qs : Nat → List Nat) (nT : Nat) (nW : Nat) (vw : Int32) (vr : Int32) (E : String) (H : Heap) : Prop := PX G A ad σ qs nT nW H ∧ ((E = xIO ∧ ¬ (∃ j, j < nW ∧ vw = nI j)) ∨ (E = xIO ∧ ¬ (∃ j, j < 12 ∧ vr = nI j)) ∨ (E = xIS ∧ ∃ u r, u < nW ∧ vw = nI u ∧ r < 12 ∧ vr = nI r ∧ ¬ (¬ σ 20 u = 0 ∧ nI (r / 3) = σ 18 u)))
theorem wCW_L_bringHome : Cond.codeWith yL_bringHome cL_bringHome 5 (Option.some Jvm.ClassFile.FieldType.int) [(0, 10, 13, 13), (0, 10, 17, 21)] ∈ gTb := gm (List.mem_of_getElem? (i := 951) (by decide +kernel)) rfl
set_option maxHeartbeats 4000000 in
set_option maxRecDepth 100000 in
theorem hL_bringHome (l : Launch) (G : GE) (Ax A : Nat → Prop) (o : Nat) (hAx : ∀ q, Ax q → A q) (ho : A o) (hno : ¬ Ax o) (ad : Nat → Nat → Nat) (σ : SG) (qs : Nat → List Nat) (nT nW : Nat) (hl9 : l.stackTraces = false) (vw vr : Int32) (hnW : nW ≤ 12) : HM l G A yL_bringHome cL_bringHome 5 (some .int) [(0, 10, 13, 13), (0, 10, 17, 21)] (rmL 7 3 18) [.ref (ad 0 0), .int vw, .int vr, .ref o] (fun H => PX G Ax ad σ qs nT nW H ∧ (∃ y, va_at G.1 mcl (o, LO G y) H) ∧ ∀ q, H.size ≤ q → Ax q) (fun v H => (∃ (x : Int32) (H1 : Heap), v = some (.int 0) ∧ qP_bringHome G Ax ad σ qs nT nW vw vr (some (.int x)) H1 ∧ va_at G.1 mcl (o, LO G x.toInt64) H ∧ H.size = H1.size ∧ ∀ q, q ≠ o → H[q]? = H1[q]?) ∨ (∃ E, xP_bringHome G Ax ad σ qs nT nW vw vr E H ∧ ((E = xIO ∧ v = some (.int 1)) ∨ (E = xIS ∧ v = some (.int 2))) ∧ ∃ y, va_at G.1 mcl (o, LO G y) H)) := by
  refine HM.of (by decide) (Nat.le_of_ble_eq_true rfl) ?_
  intro p e s m args below meth c F hP ls hl
  obtain ⟨hP, ⟨y0, ho9⟩, hnew⟩ := hP
  have hx := F.1.1
  have hb := F.1.2.1
  have hown := F.1.2.2.2.1
  have hts := F.1.2.2.2.2
  have hr := F.2.1
  have hlocks := F.2.2.1
  have hE := F.2.2.2.2.1
  have hN := F.2.2.2.2.2.1
  have hA := F.2.2.2.2.2.2
  have hS : va_S A s.heap s.heap [] := va_S.rf
  have hl : lv_has ls 5 [(0, .ref (ad 0 0)), (1, .int vw), (2, .int vr), (3, .ref o)] := hl
  refine lv_aload_n hx hb dL_bringHome_0 rfl (lv_at hl 3 rfl) ?_
  refine lv_iconst (v := 0) hx hb dL_bringHome_1 (by decide) ?_
  refine lv_aload_n hx hb dL_bringHome_2 rfl (lv_at hl 0 rfl) ?_
  refine lv_iload_n hx hb dL_bringHome_3 rfl (lv_at hl 1 rfl) ?_
  refine lv_iload_n hx hb dL_bringHome_4 rfl (lv_at hl 2 rfl) ?_
  refine hcallV (n := 2) F.1 hE (kP_bringHome l G Ax ad σ qs nT nW hl9 vw vr hnW) wML_L_56 wIM_X5_bringHome wSE_X5_X5_bringHome wIN_X5 wCO_X5_bringHome (by decide) rfl ⟨by decide, by decide⟩ (orec hE (hP.main rfl) (show mcl[7]? = some (RX5, TX5, 8) from rfl)) hS hAx hnew hP rfl hl.1 (Nat.le_of_ble_eq_true rfl) dL_bringHome_5 ⟨by decide, by decide⟩ (fun E ce q9 H1 locs1 hx9 hk hS hc9 hv9 hf9 => ?_) (fun v H1 locs1 hv hk hS => ?_)
  · have ho2 := ho9.kept (hk.2 _ ho9.lt hno)
    have hx9 : xP_bringHome G Ax ad σ qs nT nW vw vr E H1 := hx9
    have hEE : E = xIO ∨ E = xIS := by
      obtain ⟨-, (⟨hEE, -⟩ | ⟨hEE, -⟩ | ⟨hEE, ⟨_, _, ⟨-, -, -, -, -⟩⟩⟩)⟩ := hx9 <;> simp [hEE]
    rcases hEE with rfl | rfl
    · refine vx_catch (own := RL) (name := xIO) F.1.2.2.2.1 [] ⟨0, 10, 13, 13⟩ [⟨0, 10, 17, 21⟩] (by rw [F.2.2.2.1]; rfl) (fun z hz => absurd hz List.not_mem_nil) (by decide) (by decide) (hts _ wCL_L_13) (va_Nw.use rfl (hE.1.2.1 (xIO, xIO) (by simp [nwCast]))) hc9 hv9 hf9 ?_
      refine W.eq (g2 := F0 m 13 ls [.ref q9]) rfl ?_
      refine lv_astore (lv' := [(4, .ref q9), (0, .ref (ad 0 0)), (1, .int vw), (2, .int vr), (3, .ref o)]) hx hb dL_bringHome_13 hl (by decide) rfl (fun ls hl => ?_)
      refine lv_iconst (v := 1) hx hb dL_bringHome_15 (by decide) ?_
      exact kiret hx hb hr hlocks hS (by decide) (by decide) dL_bringHome_16 (Or.inr ⟨_, hx9, Or.inl (⟨rfl, rfl⟩), _, ho2⟩)
    · refine vx_catch (own := RL) (name := xIS) F.1.2.2.2.1 [⟨0, 10, 13, 13⟩] ⟨0, 10, 17, 21⟩ [] (by rw [F.2.2.2.1]; rfl) (fun z hz => by rw [List.mem_singleton] at hz; subst hz; exact Or.inr ⟨by decide, xIO, hts _ wCL_L_13, hN (xIS, xIO) (by simp [nwNot])⟩) (by decide) (by decide) (hts _ wCL_L_21) (va_Nw.use rfl (hE.1.2.1 (xIS, xIS) (by simp [nwCast]))) hc9 hv9 hf9 ?_
      refine W.eq (g2 := F0 m 17 ls [.ref q9]) rfl ?_
      refine lv_astore (lv' := [(4, .ref q9), (0, .ref (ad 0 0)), (1, .int vw), (2, .int vr), (3, .ref o)]) hx hb dL_bringHome_17 hl (by decide) rfl (fun ls hl => ?_)
      refine lv_iconst (v := 2) hx hb dL_bringHome_19 (by decide) ?_
      exact kiret hx hb hr hlocks hS (by decide) (by decide) dL_bringHome_20 (Or.inr ⟨_, hx9, Or.inr (⟨rfl, rfl⟩), _, ho2⟩)
  · have ho3 := ho9.kept (hk.2 _ ho9.lt hno)
    have hQ0 : qP_bringHome G Ax ad σ qs nT nW vw vr v H1 := hv
    obtain ⟨x, rfl⟩ : ∃ x, v = some (.int x) := by
      obtain ⟨_, _, ⟨-, -, -, -, ⟨-, -⟩, rfl, -⟩⟩ := hQ0 <;> exact ⟨_, rfl⟩
    have hQ := hQ0
    refine lv_i2l hx hb dL_bringHome_8 rfl ?_
    refine xlast hx hb hE.1.1 hS ho3 ho dL_bringHome_9 (fun H2 locs2 ho2 z2 oq2 hS => ?_)
    refine lv_goto (tgt := 21) hx hb dL_bringHome_10 (by decide) ?_
    refine lv_iconst (v := 0) hx hb dL_bringHome_21 (by decide) ?_
    exact kiret hx hb hr hlocks hS (by decide) (by decide) dL_bringHome_22 (Or.inl ⟨_, _, rfl, hQ, ho2, z2, oq2⟩)
def qP_setShare (G : GE) (A : Nat → Prop) (ad : Nat → Nat → Nat) (σ : SG) (qs : Nat → List Nat) (nT : Nat) (nW : Nat) (vw : Int32) (vv : Int32) (v : Option Value) (H : Heap) : Prop := ∃ u, u < nW ∧ vw = nI u ∧ (¬ vv < 0 ∧ vv ≤ 100) ∧ v = some (.int (σ 23 u)) ∧ PX G A ad (up σ 23 u vv) qs nT nW H
def xP_setShare (G : GE) (A : Nat → Prop) (ad : Nat → Nat → Nat) (σ : SG) (qs : Nat → List Nat) (nT : Nat) (nW : Nat) (vw : Int32) (vv : Int32) (E : String) (H : Heap) : Prop := PX G A ad σ qs nT nW H ∧ ((E = xIO ∧ ¬ (∃ j, j < nW ∧ vw = nI j)) ∨ (E = xIA ∧ (∃ j, j < nW ∧ vw = nI j) ∧ (vv < 0 ∨ ¬ vv ≤ 100)))
theorem wCW_L_setShare : Cond.codeWith yL_setShare cL_setShare 5 (Option.some Jvm.ClassFile.FieldType.int) [(0, 10, 13, 13), (0, 10, 17, 15)] ∈ gTb := gm (List.mem_of_getElem? (i := 959) (by decide +kernel)) rfl
set_option maxHeartbeats 4000000 in
set_option maxRecDepth 100000 in
theorem hL_setShare (l : Launch) (G : GE) (Ax A : Nat → Prop) (o : Nat) (hAx : ∀ q, Ax q → A q) (ho : A o) (hno : ¬ Ax o) (ad : Nat → Nat → Nat) (σ : SG) (qs : Nat → List Nat) (nT nW : Nat) (hl9 : l.stackTraces = false) (vw vv : Int32) (hnW : nW ≤ 12) : HM l G A yL_setShare cL_setShare 5 (some .int) [(0, 10, 13, 13), (0, 10, 17, 15)] (rmL 6 2 12) [.ref (ad 0 0), .int vw, .int vv, .ref o] (fun H => PX G Ax ad σ qs nT nW H ∧ (∃ y, va_at G.1 mcl (o, LO G y) H) ∧ ∀ q, H.size ≤ q → Ax q) (fun v H => (∃ (x : Int32) (H1 : Heap), v = some (.int 0) ∧ qP_setShare G Ax ad σ qs nT nW vw vv (some (.int x)) H1 ∧ va_at G.1 mcl (o, LO G x.toInt64) H ∧ H.size = H1.size ∧ ∀ q, q ≠ o → H[q]? = H1[q]?) ∨ (∃ E, xP_setShare G Ax ad σ qs nT nW vw vv E H ∧ ((E = xIO ∧ v = some (.int 1)) ∨ (E = xIA ∧ v = some (.int 2))) ∧ ∃ y, va_at G.1 mcl (o, LO G y) H)) := by
  refine HM.of (by decide) (Nat.le_of_ble_eq_true rfl) ?_
  intro p e s m args below meth c F hP ls hl
  obtain ⟨hP, ⟨y0, ho9⟩, hnew⟩ := hP
  have hx := F.1.1
  have hb := F.1.2.1
  have hown := F.1.2.2.2.1
  have hts := F.1.2.2.2.2
  have hr := F.2.1
  have hlocks := F.2.2.1
  have hE := F.2.2.2.2.1
  have hN := F.2.2.2.2.2.1
  have hA := F.2.2.2.2.2.2
  have hS : va_S A s.heap s.heap [] := va_S.rf
  have hl : lv_has ls 5 [(0, .ref (ad 0 0)), (1, .int vw), (2, .int vv), (3, .ref o)] := hl
  refine lv_aload_n hx hb dL_setShare_0 rfl (lv_at hl 3 rfl) ?_
  refine lv_iconst (v := 0) hx hb dL_setShare_1 (by decide) ?_
  refine lv_aload_n hx hb dL_setShare_2 rfl (lv_at hl 0 rfl) ?_
  refine lv_iload_n hx hb dL_setShare_3 rfl (lv_at hl 1 rfl) ?_
  refine lv_iload_n hx hb dL_setShare_4 rfl (lv_at hl 2 rfl) ?_
  refine hcallV (n := 2) F.1 hE (kP_setShare l G Ax ad σ qs nT nW hl9 vw vv hnW) wML_L_59 wIM_X5_setShare wSE_X5_X5_setShare wIN_X5 wCO_X5_setShare (by decide) rfl ⟨by decide, by decide⟩ (orec hE (hP.main rfl) (show mcl[7]? = some (RX5, TX5, 8) from rfl)) hS hAx hnew hP rfl hl.1 (Nat.le_of_ble_eq_true rfl) dL_setShare_5 ⟨by decide, by decide⟩ (fun E ce q9 H1 locs1 hx9 hk hS hc9 hv9 hf9 => ?_) (fun v H1 locs1 hv hk hS => ?_)
  · have ho2 := ho9.kept (hk.2 _ ho9.lt hno)
    have hx9 : xP_setShare G Ax ad σ qs nT nW vw vv E H1 := hx9
    have hEE : E = xIO ∨ E = xIA := by
      obtain ⟨-, (⟨hEE, -⟩ | ⟨hEE, ⟨_, ⟨-, -⟩⟩, (- | -)⟩)⟩ := hx9 <;> simp [hEE]
    rcases hEE with rfl | rfl
    · refine vx_catch (own := RL) (name := xIO) F.1.2.2.2.1 [] ⟨0, 10, 13, 13⟩ [⟨0, 10, 17, 15⟩] (by rw [F.2.2.2.1]; rfl) (fun z hz => absurd hz List.not_mem_nil) (by decide) (by decide) (hts _ wCL_L_13) (va_Nw.use rfl (hE.1.2.1 (xIO, xIO) (by simp [nwCast]))) hc9 hv9 hf9 ?_
      refine W.eq (g2 := F0 m 13 ls [.ref q9]) rfl ?_
      refine lv_astore (lv' := [(4, .ref q9), (0, .ref (ad 0 0)), (1, .int vw), (2, .int vv), (3, .ref o)]) hx hb dL_setShare_13 hl (by decide) rfl (fun ls hl => ?_)
      refine lv_iconst (v := 1) hx hb dL_setShare_15 (by decide) ?_
      exact kiret hx hb hr hlocks hS (by decide) (by decide) dL_setShare_16 (Or.inr ⟨_, hx9, Or.inl (⟨rfl, rfl⟩), _, ho2⟩)
    · refine vx_catch (own := RL) (name := xIA) F.1.2.2.2.1 [⟨0, 10, 13, 13⟩] ⟨0, 10, 17, 15⟩ [] (by rw [F.2.2.2.1]; rfl) (fun z hz => by rw [List.mem_singleton] at hz; subst hz; exact Or.inr ⟨by decide, xIO, hts _ wCL_L_13, hN (xIA, xIO) (by simp [nwNot])⟩) (by decide) (by decide) (hts _ wCL_L_15) (va_Nw.use rfl (hE.1.2.1 (xIA, xIA) (by simp [nwCast]))) hc9 hv9 hf9 ?_
      refine W.eq (g2 := F0 m 17 ls [.ref q9]) rfl ?_
      refine lv_astore (lv' := [(4, .ref q9), (0, .ref (ad 0 0)), (1, .int vw), (2, .int vv), (3, .ref o)]) hx hb dL_setShare_17 hl (by decide) rfl (fun ls hl => ?_)
      refine lv_iconst (v := 2) hx hb dL_setShare_19 (by decide) ?_
      exact kiret hx hb hr hlocks hS (by decide) (by decide) dL_setShare_20 (Or.inr ⟨_, hx9, Or.inr (⟨rfl, rfl⟩), _, ho2⟩)
  · have ho3 := ho9.kept (hk.2 _ ho9.lt hno)
    have hQ0 : qP_setShare G Ax ad σ qs nT nW vw vv v H1 := hv
    obtain ⟨x, rfl⟩ : ∃ x, v = some (.int x) := by
      obtain ⟨_, ⟨-, -, ⟨-, -⟩, rfl, -⟩⟩ := hQ0 <;> exact ⟨_, rfl⟩
    have hQ := hQ0
    refine lv_i2l hx hb dL_setShare_8 rfl ?_
    refine xlast hx hb hE.1.1 hS ho3 ho dL_setShare_9 (fun H2 locs2 ho2 z2 oq2 hS => ?_)
    refine lv_goto (tgt := 21) hx hb dL_setShare_10 (by decide) ?_
    refine lv_iconst (v := 0) hx hb dL_setShare_21 (by decide) ?_
    exact kiret hx hb hr hlocks hS (by decide) (by decide) dL_setShare_22 (Or.inl ⟨_, _, rfl, hQ, ho2, z2, oq2⟩)
def qP_sell (G : GE) (A : Nat → Prop) (ad : Nat → Nat → Nat) (σ : SG) (qs : Nat → List Nat) (nT : Nat) (nW : Nat) (vh : Int32) (vw : Int32) (vv : Int32) (v : Option Value) (H : Heap) : Prop := ∃ g9 u b9, g9 < 4 ∧ vh = nI g9 ∧ u < nW ∧ vw = nI u ∧ (¬ vv < 1 ∧ vv ≤ 100000) ∧ b9 < 4 ∧ σ 18 u = nI b9 ∧ v = some (.int (vv - (fOwn σ u (nI g9) vv))) ∧ PX G A ad (up (fBook (fBook σ 3 (b9 + 1) (fOwn σ u (nI g9) vv)) 3 (g9 + 1) (vv - (fOwn σ u (nI g9) vv))) 27 0 (σ 27 0 + vv)) qs nT nW H
def xP_sell (G : GE) (A : Nat → Prop) (ad : Nat → Nat → Nat) (σ : SG) (qs : Nat → List Nat) (nT : Nat) (nW : Nat) (vh : Int32) (vw : Int32) (vv : Int32) (E : String) (H : Heap) : Prop := PX G A ad σ qs nT nW H ∧ ((E = xIO ∧ ¬ (∃ j, j < 4 ∧ vh = nI j)) ∨ (E = xIO ∧ (∃ j, j < 4 ∧ vh = nI j) ∧ ¬ (∃ j, j < nW ∧ vw = nI j)) ∨ (E = xIA ∧ (∃ j, j < 4 ∧ vh = nI j) ∧ (∃ j, j < nW ∧ vw = nI j) ∧ (vv < 1 ∨ ¬ vv ≤ 100000)))
theorem wCW_L_sell : Cond.codeWith yL_sell cL_sell 6 (Option.some Jvm.ClassFile.FieldType.int) [(0, 12, 15, 13), (0, 12, 19, 15)] ∈ gTb := gm (List.mem_of_getElem? (i := 966) (by decide +kernel)) rfl
set_option maxHeartbeats 4000000 in
set_option maxRecDepth 100000 in
theorem hL_sell (l : Launch) (G : GE) (Ax A : Nat → Prop) (o : Nat) (hAx : ∀ q, Ax q → A q) (ho : A o) (hno : ¬ Ax o) (ad : Nat → Nat → Nat) (σ : SG) (qs : Nat → List Nat) (nT nW : Nat) (hl9 : l.stackTraces = false) (vh vw vv : Int32) (hnW : nW ≤ 12) (hW0 : WFw σ nW) : HM l G A yL_sell cL_sell 6 (some .int) [(0, 12, 15, 13), (0, 12, 19, 15)] (rmL 7 4 24) [.ref (ad 0 0), .int vh, .int vw, .int vv, .ref o] (fun H => PX G Ax ad σ qs nT nW H ∧ (∃ y, va_at G.1 mcl (o, LO G y) H) ∧ ∀ q, H.size ≤ q → Ax q) (fun v H => (∃ (x : Int32) (H1 : Heap), v = some (.int 0) ∧ qP_sell G Ax ad σ qs nT nW vh vw vv (some (.int x)) H1 ∧ va_at G.1 mcl (o, LO G x.toInt64) H ∧ H.size = H1.size ∧ ∀ q, q ≠ o → H[q]? = H1[q]?) ∨ (∃ E, xP_sell G Ax ad σ qs nT nW vh vw vv E H ∧ ((E = xIO ∧ v = some (.int 1)) ∨ (E = xIA ∧ v = some (.int 2))) ∧ ∃ y, va_at G.1 mcl (o, LO G y) H)) := by
  refine HM.of (by decide) (Nat.le_of_ble_eq_true rfl) ?_
  intro p e s m args below meth c F hP ls hl
  obtain ⟨hP, ⟨y0, ho9⟩, hnew⟩ := hP
  have hx := F.1.1
  have hb := F.1.2.1
  have hown := F.1.2.2.2.1
  have hts := F.1.2.2.2.2
  have hr := F.2.1
  have hlocks := F.2.2.1
  have hE := F.2.2.2.2.1
  have hN := F.2.2.2.2.2.1
  have hA := F.2.2.2.2.2.2
  have hS : va_S A s.heap s.heap [] := va_S.rf
  have hl : lv_has ls 6 [(0, .ref (ad 0 0)), (1, .int vh), (2, .int vw), (3, .int vv), (4, .ref o)] := hl
  refine lv_aload hx hb dL_sell_0 (lv_at hl 4 rfl) ?_
  refine lv_iconst (v := 0) hx hb dL_sell_2 (by decide) ?_
  refine lv_aload_n hx hb dL_sell_3 rfl (lv_at hl 0 rfl) ?_
  refine lv_iload_n hx hb dL_sell_4 rfl (lv_at hl 1 rfl) ?_
  refine lv_iload_n hx hb dL_sell_5 rfl (lv_at hl 2 rfl) ?_
  refine lv_iload_n hx hb dL_sell_6 rfl (lv_at hl 3 rfl) ?_
  refine hcallV (n := 3) F.1 hE (kP_sell l G Ax ad σ qs nT nW hl9 vh vw vv hnW hW0) wML_L_62 wIM_X5_sell wSE_X5_X5_sell wIN_X5 wCO_X5_sell (by decide) rfl ⟨by decide, by decide⟩ (orec hE (hP.main rfl) (show mcl[7]? = some (RX5, TX5, 8) from rfl)) hS hAx hnew hP rfl hl.1 (Nat.le_of_ble_eq_true rfl) dL_sell_7 ⟨by decide, by decide⟩ (fun E ce q9 H1 locs1 hx9 hk hS hc9 hv9 hf9 => ?_) (fun v H1 locs1 hv hk hS => ?_)
  · have ho2 := ho9.kept (hk.2 _ ho9.lt hno)
    have hx9 : xP_sell G Ax ad σ qs nT nW vh vw vv E H1 := hx9
    have hEE : E = xIO ∨ E = xIA := by
      obtain ⟨-, (⟨hEE, -⟩ | ⟨hEE, ⟨_, ⟨-, -⟩⟩, -⟩ | ⟨hEE, ⟨_, ⟨-, -⟩⟩, ⟨_, ⟨-, -⟩⟩, (- | -)⟩)⟩ := hx9 <;> simp [hEE]
    rcases hEE with rfl | rfl
    · refine vx_catch (own := RL) (name := xIO) F.1.2.2.2.1 [] ⟨0, 12, 15, 13⟩ [⟨0, 12, 19, 15⟩] (by rw [F.2.2.2.1]; rfl) (fun z hz => absurd hz List.not_mem_nil) (by decide) (by decide) (hts _ wCL_L_13) (va_Nw.use rfl (hE.1.2.1 (xIO, xIO) (by simp [nwCast]))) hc9 hv9 hf9 ?_
      refine W.eq (g2 := F0 m 15 ls [.ref q9]) rfl ?_
      refine lv_astore (lv' := [(5, .ref q9), (0, .ref (ad 0 0)), (1, .int vh), (2, .int vw), (3, .int vv), (4, .ref o)]) hx hb dL_sell_15 hl (by decide) rfl (fun ls hl => ?_)
      refine lv_iconst (v := 1) hx hb dL_sell_17 (by decide) ?_
      exact kiret hx hb hr hlocks hS (by decide) (by decide) dL_sell_18 (Or.inr ⟨_, hx9, Or.inl (⟨rfl, rfl⟩), _, ho2⟩)
    · refine vx_catch (own := RL) (name := xIA) F.1.2.2.2.1 [⟨0, 12, 15, 13⟩] ⟨0, 12, 19, 15⟩ [] (by rw [F.2.2.2.1]; rfl) (fun z hz => by rw [List.mem_singleton] at hz; subst hz; exact Or.inr ⟨by decide, xIO, hts _ wCL_L_13, hN (xIA, xIO) (by simp [nwNot])⟩) (by decide) (by decide) (hts _ wCL_L_15) (va_Nw.use rfl (hE.1.2.1 (xIA, xIA) (by simp [nwCast]))) hc9 hv9 hf9 ?_
      refine W.eq (g2 := F0 m 19 ls [.ref q9]) rfl ?_
      refine lv_astore (lv' := [(5, .ref q9), (0, .ref (ad 0 0)), (1, .int vh), (2, .int vw), (3, .int vv), (4, .ref o)]) hx hb dL_sell_19 hl (by decide) rfl (fun ls hl => ?_)
      refine lv_iconst (v := 2) hx hb dL_sell_21 (by decide) ?_
      exact kiret hx hb hr hlocks hS (by decide) (by decide) dL_sell_22 (Or.inr ⟨_, hx9, Or.inr (⟨rfl, rfl⟩), _, ho2⟩)
  · have ho3 := ho9.kept (hk.2 _ ho9.lt hno)
    have hQ0 : qP_sell G Ax ad σ qs nT nW vh vw vv v H1 := hv
    obtain ⟨x, rfl⟩ : ∃ x, v = some (.int x) := by
      obtain ⟨_, _, _, ⟨-, -, -, -, ⟨-, -⟩, -, -, rfl, -⟩⟩ := hQ0 <;> exact ⟨_, rfl⟩
    have hQ := hQ0
    refine lv_i2l hx hb dL_sell_10 rfl ?_
    refine xlast hx hb hE.1.1 hS ho3 ho dL_sell_11 (fun H2 locs2 ho2 z2 oq2 hS => ?_)
    refine lv_goto (tgt := 23) hx hb dL_sell_12 (by decide) ?_
    refine lv_iconst (v := 0) hx hb dL_sell_23 (by decide) ?_
    exact kiret hx hb hr hlocks hS (by decide) (by decide) dL_sell_24 (Or.inl ⟨_, _, rfl, hQ, ho2, z2, oq2⟩)
def qP_give (G : GE) (A : Nat → Prop) (ad : Nat → Nat → Nat) (σ : SG) (qs : Nat → List Nat) (nT : Nat) (nW : Nat) (vh : Int32) (vv : Int32) (vm : Int32) (v : Option Value) (H : Heap) : Prop := ∃ g9 gb, g9 < 4 ∧ vh = nI g9 ∧ ((vm = -1 ∧ gb = false) ∨ (vm ≠ -1 ∧ ∃ m, m < 6 ∧ vm = nI m ∧ gb = fBel (σ 9 m) (σ 25 0))) ∧ (¬ vv < 1 ∧ vv ≤ 100000) ∧ v = some (.int (vv + fTax gb vv)) ∧ PX G A ad (up (fBook (fBook σ 4 0 (-(fTax gb vv))) 4 (g9 + 1) (vv + fTax gb vv)) 27 0 (σ 27 0 + vv)) qs nT nW H
def xP_give (G : GE) (A : Nat → Prop) (ad : Nat → Nat → Nat) (σ : SG) (qs : Nat → List Nat) (nT : Nat) (nW : Nat) (vh : Int32) (vv : Int32) (vm : Int32) (E : String) (H : Heap) : Prop := PX G A ad σ qs nT nW H ∧ ((E = xIO ∧ ¬ (∃ j, j < 4 ∧ vh = nI j)) ∨ (E = xIO ∧ (∃ j, j < 4 ∧ vh = nI j) ∧ ¬ (vm = -1 ∨ ∃ j, j < 6 ∧ vm = nI j)) ∨ (E = xIA ∧ (∃ j, j < 4 ∧ vh = nI j) ∧ (vm = -1 ∨ ∃ j, j < 6 ∧ vm = nI j) ∧ (vv < 1 ∨ ¬ vv ≤ 100000)))
theorem wCW_L_give : Cond.codeWith yL_give cL_give 6 (Option.some Jvm.ClassFile.FieldType.int) [(0, 12, 15, 13), (0, 12, 19, 15)] ∈ gTb := gm (List.mem_of_getElem? (i := 981) (by decide +kernel)) rfl
set_option maxHeartbeats 4000000 in
set_option maxRecDepth 100000 in
theorem hL_give (l : Launch) (G : GE) (Ax A : Nat → Prop) (o : Nat) (hAx : ∀ q, Ax q → A q) (ho : A o) (hno : ¬ Ax o) (ad : Nat → Nat → Nat) (σ : SG) (qs : Nat → List Nat) (nT nW : Nat) (hl9 : l.stackTraces = false) (vh vv vm : Int32) : HM l G A yL_give cL_give 6 (some .int) [(0, 12, 15, 13), (0, 12, 19, 15)] (rmL 7 4 24) [.ref (ad 0 0), .int vh, .int vv, .int vm, .ref o] (fun H => PX G Ax ad σ qs nT nW H ∧ (∃ y, va_at G.1 mcl (o, LO G y) H) ∧ ∀ q, H.size ≤ q → Ax q) (fun v H => (∃ (x : Int32) (H1 : Heap), v = some (.int 0) ∧ qP_give G Ax ad σ qs nT nW vh vv vm (some (.int x)) H1 ∧ va_at G.1 mcl (o, LO G x.toInt64) H ∧ H.size = H1.size ∧ ∀ q, q ≠ o → H[q]? = H1[q]?) ∨ (∃ E, xP_give G Ax ad σ qs nT nW vh vv vm E H ∧ ((E = xIO ∧ v = some (.int 1)) ∨ (E = xIA ∧ v = some (.int 2))) ∧ ∃ y, va_at G.1 mcl (o, LO G y) H)) := by
  refine HM.of (by decide) (Nat.le_of_ble_eq_true rfl) ?_
  intro p e s m args below meth c F hP ls hl
  obtain ⟨hP, ⟨y0, ho9⟩, hnew⟩ := hP
  have hx := F.1.1
  have hb := F.1.2.1
  have hown := F.1.2.2.2.1
  have hts := F.1.2.2.2.2
  have hr := F.2.1
  have hlocks := F.2.2.1
  have hE := F.2.2.2.2.1
  have hN := F.2.2.2.2.2.1
  have hA := F.2.2.2.2.2.2
  have hS : va_S A s.heap s.heap [] := va_S.rf
  have hl : lv_has ls 6 [(0, .ref (ad 0 0)), (1, .int vh), (2, .int vv), (3, .int vm), (4, .ref o)] := hl
  refine lv_aload hx hb dL_give_0 (lv_at hl 4 rfl) ?_
  refine lv_iconst (v := 0) hx hb dL_give_2 (by decide) ?_
  refine lv_aload_n hx hb dL_give_3 rfl (lv_at hl 0 rfl) ?_
  refine lv_iload_n hx hb dL_give_4 rfl (lv_at hl 1 rfl) ?_
  refine lv_iload_n hx hb dL_give_5 rfl (lv_at hl 2 rfl) ?_
  refine lv_iload_n hx hb dL_give_6 rfl (lv_at hl 3 rfl) ?_
  refine hcallV (n := 3) F.1 hE (kP_give l G Ax ad σ qs nT nW hl9 vh vv vm) wML_L_65 wIM_X5_give wSE_X5_X5_give wIN_X5 wCO_X5_give (by decide) rfl ⟨by decide, by decide⟩ (orec hE (hP.main rfl) (show mcl[7]? = some (RX5, TX5, 8) from rfl)) hS hAx hnew hP rfl hl.1 (Nat.le_of_ble_eq_true rfl) dL_give_7 ⟨by decide, by decide⟩ (fun E ce q9 H1 locs1 hx9 hk hS hc9 hv9 hf9 => ?_) (fun v H1 locs1 hv hk hS => ?_)
  · have ho2 := ho9.kept (hk.2 _ ho9.lt hno)
    have hx9 : xP_give G Ax ad σ qs nT nW vh vv vm E H1 := hx9
    have hEE : E = xIO ∨ E = xIA := by
      obtain ⟨-, (⟨hEE, -⟩ | ⟨hEE, ⟨_, ⟨-, -⟩⟩, -⟩ | ⟨hEE, ⟨_, ⟨-, -⟩⟩, (- | ⟨_, ⟨-, -⟩⟩), (- | -)⟩)⟩ := hx9 <;> simp [hEE]
    rcases hEE with rfl | rfl
    · refine vx_catch (own := RL) (name := xIO) F.1.2.2.2.1 [] ⟨0, 12, 15, 13⟩ [⟨0, 12, 19, 15⟩] (by rw [F.2.2.2.1]; rfl) (fun z hz => absurd hz List.not_mem_nil) (by decide) (by decide) (hts _ wCL_L_13) (va_Nw.use rfl (hE.1.2.1 (xIO, xIO) (by simp [nwCast]))) hc9 hv9 hf9 ?_
      refine W.eq (g2 := F0 m 15 ls [.ref q9]) rfl ?_
      refine lv_astore (lv' := [(5, .ref q9), (0, .ref (ad 0 0)), (1, .int vh), (2, .int vv), (3, .int vm), (4, .ref o)]) hx hb dL_give_15 hl (by decide) rfl (fun ls hl => ?_)
      refine lv_iconst (v := 1) hx hb dL_give_17 (by decide) ?_
      exact kiret hx hb hr hlocks hS (by decide) (by decide) dL_give_18 (Or.inr ⟨_, hx9, Or.inl (⟨rfl, rfl⟩), _, ho2⟩)
    · refine vx_catch (own := RL) (name := xIA) F.1.2.2.2.1 [⟨0, 12, 15, 13⟩] ⟨0, 12, 19, 15⟩ [] (by rw [F.2.2.2.1]; rfl) (fun z hz => by rw [List.mem_singleton] at hz; subst hz; exact Or.inr ⟨by decide, xIO, hts _ wCL_L_13, hN (xIA, xIO) (by simp [nwNot])⟩) (by decide) (by decide) (hts _ wCL_L_15) (va_Nw.use rfl (hE.1.2.1 (xIA, xIA) (by simp [nwCast]))) hc9 hv9 hf9 ?_
      refine W.eq (g2 := F0 m 19 ls [.ref q9]) rfl ?_
      refine lv_astore (lv' := [(5, .ref q9), (0, .ref (ad 0 0)), (1, .int vh), (2, .int vv), (3, .int vm), (4, .ref o)]) hx hb dL_give_19 hl (by decide) rfl (fun ls hl => ?_)
      refine lv_iconst (v := 2) hx hb dL_give_21 (by decide) ?_
      exact kiret hx hb hr hlocks hS (by decide) (by decide) dL_give_22 (Or.inr ⟨_, hx9, Or.inr (⟨rfl, rfl⟩), _, ho2⟩)
  · have ho3 := ho9.kept (hk.2 _ ho9.lt hno)
    have hQ0 : qP_give G Ax ad σ qs nT nW vh vv vm v H1 := hv
    obtain ⟨x, rfl⟩ : ∃ x, v = some (.int x) := by
      obtain ⟨_, _, ⟨-, -, (⟨-, -⟩ | ⟨-, ⟨_, ⟨-, -, -⟩⟩⟩), ⟨-, -⟩, rfl, -⟩⟩ := hQ0 <;> exact ⟨_, rfl⟩
    have hQ := hQ0
    refine lv_i2l hx hb dL_give_10 rfl ?_
    refine xlast hx hb hE.1.1 hS ho3 ho dL_give_11 (fun H2 locs2 ho2 z2 oq2 hS => ?_)
    refine lv_goto (tgt := 23) hx hb dL_give_12 (by decide) ?_
    refine lv_iconst (v := 0) hx hb dL_give_23 (by decide) ?_
    exact kiret hx hb hr hlocks hS (by decide) (by decide) dL_give_24 (Or.inl ⟨_, _, rfl, hQ, ho2, z2, oq2⟩)
def qP_advance (G : GE) (A : Nat → Prop) (ad : Nat → Nat → Nat) (σ : SG) (qs : Nat → List Nat) (nT : Nat) (nW : Nat) (vd : Int32) (f : Nat) (v : Option Value) (H : Heap) : Prop := ∃ d9, d9 ≠ 0 ∧ d9 ≤ 60 ∧ vd = nI d9 ∧ σ 25 0 + nI d9 ≤ 2000 ∧ v = some (.int ((fDays nT f d9 σ) 25 0)) ∧ PX G A ad (fDays nT f d9 σ) (eQ qs) nT nW H
def xP_advance (G : GE) (A : Nat → Prop) (ad : Nat → Nat → Nat) (σ : SG) (qs : Nat → List Nat) (nT : Nat) (nW : Nat) (vd : Int32) (f : Nat) (E : String) (H : Heap) : Prop := PX G A ad σ qs nT nW H ∧ ((E = xIA ∧ (vd < 1 ∨ ¬ vd ≤ 60)) ∨ (E = xIS ∧ ∃ d9, d9 ≠ 0 ∧ d9 ≤ 60 ∧ vd = nI d9 ∧ ¬ σ 25 0 + nI d9 ≤ 2000))
theorem wCW_L_advance : Cond.codeWith yL_advance cL_advance 4 (Option.some Jvm.ClassFile.FieldType.int) [(0, 9, 12, 15), (0, 9, 15, 21)] ∈ gTb := gm (List.mem_of_getElem? (i := 992) (by decide +kernel)) rfl
set_option maxHeartbeats 4000000 in
set_option maxRecDepth 100000 in
theorem hL_advance (l : Launch) (G : GE) (Ax A : Nat → Prop) (o : Nat) (hAx : ∀ q, Ax q → A q) (ho : A o) (hno : ¬ Ax o) (ad : Nat → Nat → Nat) (σ : SG) (qs : Nat → List Nat) (nT nW : Nat) (hl9 : l.stackTraces = false) (vd : Int32) (f : Nat) (hf : σ 26 0 = nI f) (hfn : f ≤ nT) (hnT : nT ≤ 80) : HM l G A yL_advance cL_advance 4 (some .int) [(0, 9, 12, 15), (0, 9, 15, 21)] (rmL 9 2 12) [.ref (ad 0 0), .int vd, .ref o] (fun H => PX G Ax ad σ qs nT nW H ∧ (∃ y, va_at G.1 mcl (o, LO G y) H) ∧ ∀ q, H.size ≤ q → Ax q) (fun v H => (∃ (x : Int32) (H1 : Heap), v = some (.int 0) ∧ qP_advance G Ax ad σ qs nT nW vd f (some (.int x)) H1 ∧ va_at G.1 mcl (o, LO G x.toInt64) H ∧ H.size = H1.size ∧ ∀ q, q ≠ o → H[q]? = H1[q]?) ∨ (∃ E, xP_advance G Ax ad σ qs nT nW vd f E H ∧ ((E = xIA ∧ v = some (.int 1)) ∨ (E = xIS ∧ v = some (.int 2))) ∧ ∃ y, va_at G.1 mcl (o, LO G y) H)) := by
  refine HM.of (by decide) (Nat.le_of_ble_eq_true rfl) ?_
  intro p e s m args below meth c F hP ls hl
  obtain ⟨hP, ⟨y0, ho9⟩, hnew⟩ := hP
  have hx := F.1.1
  have hb := F.1.2.1
  have hown := F.1.2.2.2.1
  have hts := F.1.2.2.2.2
  have hr := F.2.1
  have hlocks := F.2.2.1
  have hE := F.2.2.2.2.1
  have hN := F.2.2.2.2.2.1
  have hA := F.2.2.2.2.2.2
  have hS : va_S A s.heap s.heap [] := va_S.rf
  have hl : lv_has ls 4 [(0, .ref (ad 0 0)), (1, .int vd), (2, .ref o)] := hl
  refine lv_aload_n hx hb dL_advance_0 rfl (lv_at hl 2 rfl) ?_
  refine lv_iconst (v := 0) hx hb dL_advance_1 (by decide) ?_
  refine lv_aload_n hx hb dL_advance_2 rfl (lv_at hl 0 rfl) ?_
  refine lv_iload_n hx hb dL_advance_3 rfl (lv_at hl 1 rfl) ?_
  refine hcallV (n := 1) F.1 hE (kP_advance l G Ax ad σ qs nT nW hl9 vd f hf hfn hnT) wML_L_68 wIM_X5_advance wSE_X5_X5_advance wIN_X5 wCO_X5_advance (by decide) rfl ⟨by decide, by decide⟩ (orec hE (hP.main rfl) (show mcl[7]? = some (RX5, TX5, 8) from rfl)) hS hAx hnew hP rfl hl.1 (Nat.le_of_ble_eq_true rfl) dL_advance_4 ⟨by decide, by decide⟩ (fun E ce q9 H1 locs1 hx9 hk hS hc9 hv9 hf9 => ?_) (fun v H1 locs1 hv hk hS => ?_)
  · have ho2 := ho9.kept (hk.2 _ ho9.lt hno)
    have hx9 : xP_advance G Ax ad σ qs nT nW vd f E H1 := hx9
    have hEE : E = xIA ∨ E = xIS := by
      obtain ⟨-, (⟨hEE, (- | -)⟩ | ⟨hEE, ⟨_, ⟨-, -, -, -⟩⟩⟩)⟩ := hx9 <;> simp [hEE]
    rcases hEE with rfl | rfl
    · refine vx_catch (own := RL) (name := xIA) F.1.2.2.2.1 [] ⟨0, 9, 12, 15⟩ [⟨0, 9, 15, 21⟩] (by rw [F.2.2.2.1]; rfl) (fun z hz => absurd hz List.not_mem_nil) (by decide) (by decide) (hts _ wCL_L_15) (va_Nw.use rfl (hE.1.2.1 (xIA, xIA) (by simp [nwCast]))) hc9 hv9 hf9 ?_
      refine W.eq (g2 := F0 m 12 ls [.ref q9]) rfl ?_
      refine lv_astore_n (lv' := [(3, .ref q9), (0, .ref (ad 0 0)), (1, .int vd), (2, .ref o)]) hx hb dL_advance_12 rfl hl (by decide) rfl (fun ls hl => ?_)
      refine lv_iconst (v := 1) hx hb dL_advance_13 (by decide) ?_
      exact kiret hx hb hr hlocks hS (by decide) (by decide) dL_advance_14 (Or.inr ⟨_, hx9, Or.inl (⟨rfl, rfl⟩), _, ho2⟩)
    · refine vx_catch (own := RL) (name := xIS) F.1.2.2.2.1 [⟨0, 9, 12, 15⟩] ⟨0, 9, 15, 21⟩ [] (by rw [F.2.2.2.1]; rfl) (fun z hz => by rw [List.mem_singleton] at hz; subst hz; exact Or.inr ⟨by decide, xIA, hts _ wCL_L_15, hN (xIS, xIA) (by simp [nwNot])⟩) (by decide) (by decide) (hts _ wCL_L_21) (va_Nw.use rfl (hE.1.2.1 (xIS, xIS) (by simp [nwCast]))) hc9 hv9 hf9 ?_
      refine W.eq (g2 := F0 m 15 ls [.ref q9]) rfl ?_
      refine lv_astore_n (lv' := [(3, .ref q9), (0, .ref (ad 0 0)), (1, .int vd), (2, .ref o)]) hx hb dL_advance_15 rfl hl (by decide) rfl (fun ls hl => ?_)
      refine lv_iconst (v := 2) hx hb dL_advance_16 (by decide) ?_
      exact kiret hx hb hr hlocks hS (by decide) (by decide) dL_advance_17 (Or.inr ⟨_, hx9, Or.inr (⟨rfl, rfl⟩), _, ho2⟩)
  · have ho3 := ho9.kept (hk.2 _ ho9.lt hno)
    have hQ0 : qP_advance G Ax ad σ qs nT nW vd f v H1 := hv
    obtain ⟨x, rfl⟩ : ∃ x, v = some (.int x) := by
      obtain ⟨_, ⟨-, -, -, -, rfl, -⟩⟩ := hQ0 <;> exact ⟨_, rfl⟩
    have hQ := hQ0
    refine lv_i2l hx hb dL_advance_7 rfl ?_
    refine xlast hx hb hE.1.1 hS ho3 ho dL_advance_8 (fun H2 locs2 ho2 z2 oq2 hS => ?_)
    refine lv_goto (tgt := 18) hx hb dL_advance_9 (by decide) ?_
    refine lv_iconst (v := 0) hx hb dL_advance_18 (by decide) ?_
    exact kiret hx hb hr hlocks hS (by decide) (by decide) dL_advance_19 (Or.inl ⟨_, _, rfl, hQ, ho2, z2, oq2⟩)
def qP_whereIs (G : GE) (A : Nat → Prop) (ad : Nat → Nat → Nat) (σ : SG) (qs : Nat → List Nat) (nT : Nat) (nW : Nat) (vt : Int32) (v : Option Value) (H : Heap) : Prop := (∃ t, t < nT ∧ vt = nI t ∧ v = some (.int (if σ 17 t = 0 then σ 16 t else 100 + σ 16 t))) ∧ PX G A ad σ qs nT nW H
def xP_whereIs (G : GE) (A : Nat → Prop) (ad : Nat → Nat → Nat) (σ : SG) (qs : Nat → List Nat) (nT : Nat) (nW : Nat) (vt : Int32) (E : String) (H : Heap) : Prop := PX G A ad σ qs nT nW H ∧ ((E = xIO ∧ ¬ (∃ j, j < nT ∧ vt = nI j)))
theorem wCW_L_whereIs : Cond.codeWith yL_whereIs cL_whereIs 4 (Option.some Jvm.ClassFile.FieldType.int) [(0, 9, 12, 13)] ∈ gTb := gm (List.mem_of_getElem? (i := 1021) (by decide +kernel)) rfl
set_option maxHeartbeats 4000000 in
set_option maxRecDepth 100000 in
theorem hL_whereIs (l : Launch) (G : GE) (Ax A : Nat → Prop) (o : Nat) (hAx : ∀ q, Ax q → A q) (ho : A o) (hno : ¬ Ax o) (ad : Nat → Nat → Nat) (σ : SG) (qs : Nat → List Nat) (nT nW : Nat) (hl9 : l.stackTraces = false) (vt : Int32) (hnT : nT ≤ 80) : HM l G A yL_whereIs cL_whereIs 4 (some .int) [(0, 9, 12, 13)] (rmL 6 1 6) [.ref (ad 0 0), .int vt, .ref o] (fun H => PX G Ax ad σ qs nT nW H ∧ (∃ y, va_at G.1 mcl (o, LO G y) H) ∧ ∀ q, H.size ≤ q → Ax q) (fun v H => (∃ (x : Int32) (H1 : Heap), v = some (.int 0) ∧ qP_whereIs G Ax ad σ qs nT nW vt (some (.int x)) H1 ∧ va_at G.1 mcl (o, LO G x.toInt64) H ∧ H.size = H1.size ∧ ∀ q, q ≠ o → H[q]? = H1[q]?) ∨ (∃ E, xP_whereIs G Ax ad σ qs nT nW vt E H ∧ ((E = xIO ∧ v = some (.int 1))) ∧ ∃ y, va_at G.1 mcl (o, LO G y) H)) := by
  refine HM.of (by decide) (Nat.le_of_ble_eq_true rfl) ?_
  intro p e s m args below meth c F hP ls hl
  obtain ⟨hP, ⟨y0, ho9⟩, hnew⟩ := hP
  have hx := F.1.1
  have hb := F.1.2.1
  have hown := F.1.2.2.2.1
  have hts := F.1.2.2.2.2
  have hr := F.2.1
  have hlocks := F.2.2.1
  have hE := F.2.2.2.2.1
  have hN := F.2.2.2.2.2.1
  have hA := F.2.2.2.2.2.2
  have hS : va_S A s.heap s.heap [] := va_S.rf
  have hl : lv_has ls 4 [(0, .ref (ad 0 0)), (1, .int vt), (2, .ref o)] := hl
  refine lv_aload_n hx hb dL_whereIs_0 rfl (lv_at hl 2 rfl) ?_
  refine lv_iconst (v := 0) hx hb dL_whereIs_1 (by decide) ?_
  refine lv_aload_n hx hb dL_whereIs_2 rfl (lv_at hl 0 rfl) ?_
  refine lv_iload_n hx hb dL_whereIs_3 rfl (lv_at hl 1 rfl) ?_
  refine hcallV (n := 1) F.1 hE (kP_whereIs l G (fun q => s.heap.size ≤ q) Ax ad σ qs nT nW hl9 vt hnT) wML_L_71 wIM_X5_whereIs wSE_X5_X5_whereIs wIN_X5 wCO_X5_whereIs (by decide) rfl ⟨by decide, by decide⟩ (orec hE (hP.main rfl) (show mcl[7]? = some (RX5, TX5, 8) from rfl)) hS (fun q h => hA q h) (fun q h => h) hP rfl hl.1 (Nat.le_of_ble_eq_true rfl) dL_whereIs_4 ⟨by decide, by decide⟩ (fun E ce q9 H1 locs1 hx9 hk hS hc9 hv9 hf9 => ?_) (fun v H1 locs1 hv hk hS => ?_)
  · have ho2 := ho9.kept (hk.2 _ ho9.lt (Nat.not_le.mpr ho9.lt))
    have hx9 : xP_whereIs G Ax ad σ qs nT nW vt E H1 := ⟨hP.old hk, hx9⟩
    have hEE : E = xIO := by
      obtain ⟨-, ⟨hEE, -⟩⟩ := hx9 <;> simp [hEE]
    subst hEE
    refine vx_catch (own := RL) (name := xIO) F.1.2.2.2.1 [] ⟨0, 9, 12, 13⟩ [] (by rw [F.2.2.2.1]; rfl) (fun z hz => absurd hz List.not_mem_nil) (by decide) (by decide) (hts _ wCL_L_13) (va_Nw.use rfl (hE.1.2.1 (xIO, xIO) (by simp [nwCast]))) hc9 hv9 hf9 ?_
    refine W.eq (g2 := F0 m 12 ls [.ref q9]) rfl ?_
    refine lv_astore_n (lv' := [(3, .ref q9), (0, .ref (ad 0 0)), (1, .int vt), (2, .ref o)]) hx hb dL_whereIs_12 rfl hl (by decide) rfl (fun ls hl => ?_)
    refine lv_iconst (v := 1) hx hb dL_whereIs_13 (by decide) ?_
    exact kiret hx hb hr hlocks hS (by decide) (by decide) dL_whereIs_14 (Or.inr ⟨_, hx9, ⟨rfl, rfl⟩, _, ho2⟩)
  · have ho3 := ho9.kept (hk.2 _ ho9.lt (Nat.not_le.mpr ho9.lt))
    have hQ0 : qP_whereIs G Ax ad σ qs nT nW vt v H1 := ⟨hv, hP.old hk⟩
    obtain ⟨x, rfl⟩ : ∃ x, v = some (.int x) := by
      obtain ⟨⟨_, ⟨-, -, rfl⟩⟩, -⟩ := hQ0 <;> exact ⟨_, rfl⟩
    have hQ := hQ0
    refine lv_i2l hx hb dL_whereIs_7 rfl ?_
    refine xlast hx hb hE.1.1 hS ho3 ho dL_whereIs_8 (fun H2 locs2 ho2 z2 oq2 hS => ?_)
    refine lv_goto (tgt := 15) hx hb dL_whereIs_9 (by decide) ?_
    refine lv_iconst (v := 0) hx hb dL_whereIs_15 (by decide) ?_
    exact kiret hx hb hr hlocks hS (by decide) (by decide) dL_whereIs_16 (Or.inl ⟨_, _, rfl, hQ, ho2, z2, oq2⟩)
def qP_seen (G : GE) (A : Nat → Prop) (ad : Nat → Nat → Nat) (σ : SG) (qs : Nat → List Nat) (nT : Nat) (nW : Nat) (vt : Int32) (v : Option Value) (H : Heap) : Prop := (∃ t, t < nT ∧ vt = nI t ∧ v = some (.int (σ 15 t))) ∧ PX G A ad σ qs nT nW H
def xP_seen (G : GE) (A : Nat → Prop) (ad : Nat → Nat → Nat) (σ : SG) (qs : Nat → List Nat) (nT : Nat) (nW : Nat) (vt : Int32) (E : String) (H : Heap) : Prop := PX G A ad σ qs nT nW H ∧ ((E = xIO ∧ ¬ (∃ j, j < nT ∧ vt = nI j)))
theorem wCW_L_seen : Cond.codeWith yL_seen cL_seen 4 (Option.some Jvm.ClassFile.FieldType.int) [(0, 9, 12, 13)] ∈ gTb := gm (List.mem_of_getElem? (i := 1028) (by decide +kernel)) rfl
set_option maxHeartbeats 4000000 in
set_option maxRecDepth 100000 in
theorem hL_seen (l : Launch) (G : GE) (Ax A : Nat → Prop) (o : Nat) (hAx : ∀ q, Ax q → A q) (ho : A o) (hno : ¬ Ax o) (ad : Nat → Nat → Nat) (σ : SG) (qs : Nat → List Nat) (nT nW : Nat) (hl9 : l.stackTraces = false) (vt : Int32) (hnT : nT ≤ 80) : HM l G A yL_seen cL_seen 4 (some .int) [(0, 9, 12, 13)] (rmL 6 1 6) [.ref (ad 0 0), .int vt, .ref o] (fun H => PX G Ax ad σ qs nT nW H ∧ (∃ y, va_at G.1 mcl (o, LO G y) H) ∧ ∀ q, H.size ≤ q → Ax q) (fun v H => (∃ (x : Int32) (H1 : Heap), v = some (.int 0) ∧ qP_seen G Ax ad σ qs nT nW vt (some (.int x)) H1 ∧ va_at G.1 mcl (o, LO G x.toInt64) H ∧ H.size = H1.size ∧ ∀ q, q ≠ o → H[q]? = H1[q]?) ∨ (∃ E, xP_seen G Ax ad σ qs nT nW vt E H ∧ ((E = xIO ∧ v = some (.int 1))) ∧ ∃ y, va_at G.1 mcl (o, LO G y) H)) := by
  refine HM.of (by decide) (Nat.le_of_ble_eq_true rfl) ?_
  intro p e s m args below meth c F hP ls hl
  obtain ⟨hP, ⟨y0, ho9⟩, hnew⟩ := hP
  have hx := F.1.1
  have hb := F.1.2.1
  have hown := F.1.2.2.2.1
  have hts := F.1.2.2.2.2
  have hr := F.2.1
  have hlocks := F.2.2.1
  have hE := F.2.2.2.2.1
  have hN := F.2.2.2.2.2.1
  have hA := F.2.2.2.2.2.2
  have hS : va_S A s.heap s.heap [] := va_S.rf
  have hl : lv_has ls 4 [(0, .ref (ad 0 0)), (1, .int vt), (2, .ref o)] := hl
  refine lv_aload_n hx hb dL_seen_0 rfl (lv_at hl 2 rfl) ?_
  refine lv_iconst (v := 0) hx hb dL_seen_1 (by decide) ?_
  refine lv_aload_n hx hb dL_seen_2 rfl (lv_at hl 0 rfl) ?_
  refine lv_iload_n hx hb dL_seen_3 rfl (lv_at hl 1 rfl) ?_
  refine hcallV (n := 1) F.1 hE (kP_seen l G (fun q => s.heap.size ≤ q) Ax ad σ qs nT nW hl9 vt hnT) wML_L_74 wIM_X5_seen wSE_X5_X5_seen wIN_X5 wCO_X5_seen (by decide) rfl ⟨by decide, by decide⟩ (orec hE (hP.main rfl) (show mcl[7]? = some (RX5, TX5, 8) from rfl)) hS (fun q h => hA q h) (fun q h => h) hP rfl hl.1 (Nat.le_of_ble_eq_true rfl) dL_seen_4 ⟨by decide, by decide⟩ (fun E ce q9 H1 locs1 hx9 hk hS hc9 hv9 hf9 => ?_) (fun v H1 locs1 hv hk hS => ?_)
  · have ho2 := ho9.kept (hk.2 _ ho9.lt (Nat.not_le.mpr ho9.lt))
    have hx9 : xP_seen G Ax ad σ qs nT nW vt E H1 := ⟨hP.old hk, hx9⟩
    have hEE : E = xIO := by
      obtain ⟨-, ⟨hEE, -⟩⟩ := hx9 <;> simp [hEE]
    subst hEE
    refine vx_catch (own := RL) (name := xIO) F.1.2.2.2.1 [] ⟨0, 9, 12, 13⟩ [] (by rw [F.2.2.2.1]; rfl) (fun z hz => absurd hz List.not_mem_nil) (by decide) (by decide) (hts _ wCL_L_13) (va_Nw.use rfl (hE.1.2.1 (xIO, xIO) (by simp [nwCast]))) hc9 hv9 hf9 ?_
    refine W.eq (g2 := F0 m 12 ls [.ref q9]) rfl ?_
    refine lv_astore_n (lv' := [(3, .ref q9), (0, .ref (ad 0 0)), (1, .int vt), (2, .ref o)]) hx hb dL_seen_12 rfl hl (by decide) rfl (fun ls hl => ?_)
    refine lv_iconst (v := 1) hx hb dL_seen_13 (by decide) ?_
    exact kiret hx hb hr hlocks hS (by decide) (by decide) dL_seen_14 (Or.inr ⟨_, hx9, ⟨rfl, rfl⟩, _, ho2⟩)
  · have ho3 := ho9.kept (hk.2 _ ho9.lt (Nat.not_le.mpr ho9.lt))
    have hQ0 : qP_seen G Ax ad σ qs nT nW vt v H1 := ⟨hv, hP.old hk⟩
    obtain ⟨x, rfl⟩ : ∃ x, v = some (.int x) := by
      obtain ⟨⟨_, ⟨-, -, rfl⟩⟩, -⟩ := hQ0 <;> exact ⟨_, rfl⟩
    have hQ := hQ0
    refine lv_i2l hx hb dL_seen_7 rfl ?_
    refine xlast hx hb hE.1.1 hS ho3 ho dL_seen_8 (fun H2 locs2 ho2 z2 oq2 hS => ?_)
    refine lv_goto (tgt := 15) hx hb dL_seen_9 (by decide) ?_
    refine lv_iconst (v := 0) hx hb dL_seen_15 (by decide) ?_
    exact kiret hx hb hr hlocks hS (by decide) (by decide) dL_seen_16 (Or.inl ⟨_, _, rfl, hQ, ho2, z2, oq2⟩)
def qP_inside (G : GE) (A : Nat → Prop) (ad : Nat → Nat → Nat) (σ : SG) (qs : Nat → List Nat) (nT : Nat) (nW : Nat) (vr : Int32) (v : Option Value) (H : Heap) : Prop := (∃ r, r < 12 ∧ vr = nI r ∧ v = some (.int (σ 7 r))) ∧ PX G A ad σ qs nT nW H
def xP_inside (G : GE) (A : Nat → Prop) (ad : Nat → Nat → Nat) (σ : SG) (qs : Nat → List Nat) (nT : Nat) (nW : Nat) (vr : Int32) (E : String) (H : Heap) : Prop := PX G A ad σ qs nT nW H ∧ ((E = xIO ∧ ¬ (∃ j, j < 12 ∧ vr = nI j)))
theorem wCW_L_inside : Cond.codeWith yL_inside cL_inside 4 (Option.some Jvm.ClassFile.FieldType.int) [(0, 9, 12, 13)] ∈ gTb := gm (List.mem_of_getElem? (i := 1035) (by decide +kernel)) rfl
set_option maxHeartbeats 4000000 in
set_option maxRecDepth 100000 in
theorem hL_inside (l : Launch) (G : GE) (Ax A : Nat → Prop) (o : Nat) (hAx : ∀ q, Ax q → A q) (ho : A o) (hno : ¬ Ax o) (ad : Nat → Nat → Nat) (σ : SG) (qs : Nat → List Nat) (nT nW : Nat) (hl9 : l.stackTraces = false) (vr : Int32) : HM l G A yL_inside cL_inside 4 (some .int) [(0, 9, 12, 13)] (rmL 6 1 6) [.ref (ad 0 0), .int vr, .ref o] (fun H => PX G Ax ad σ qs nT nW H ∧ (∃ y, va_at G.1 mcl (o, LO G y) H) ∧ ∀ q, H.size ≤ q → Ax q) (fun v H => (∃ (x : Int32) (H1 : Heap), v = some (.int 0) ∧ qP_inside G Ax ad σ qs nT nW vr (some (.int x)) H1 ∧ va_at G.1 mcl (o, LO G x.toInt64) H ∧ H.size = H1.size ∧ ∀ q, q ≠ o → H[q]? = H1[q]?) ∨ (∃ E, xP_inside G Ax ad σ qs nT nW vr E H ∧ ((E = xIO ∧ v = some (.int 1))) ∧ ∃ y, va_at G.1 mcl (o, LO G y) H)) := by
  refine HM.of (by decide) (Nat.le_of_ble_eq_true rfl) ?_
  intro p e s m args below meth c F hP ls hl
  obtain ⟨hP, ⟨y0, ho9⟩, hnew⟩ := hP
  have hx := F.1.1
  have hb := F.1.2.1
  have hown := F.1.2.2.2.1
  have hts := F.1.2.2.2.2
  have hr := F.2.1
  have hlocks := F.2.2.1
  have hE := F.2.2.2.2.1
  have hN := F.2.2.2.2.2.1
  have hA := F.2.2.2.2.2.2
  have hS : va_S A s.heap s.heap [] := va_S.rf
  have hl : lv_has ls 4 [(0, .ref (ad 0 0)), (1, .int vr), (2, .ref o)] := hl
  refine lv_aload_n hx hb dL_inside_0 rfl (lv_at hl 2 rfl) ?_
  refine lv_iconst (v := 0) hx hb dL_inside_1 (by decide) ?_
  refine lv_aload_n hx hb dL_inside_2 rfl (lv_at hl 0 rfl) ?_
  refine lv_iload_n hx hb dL_inside_3 rfl (lv_at hl 1 rfl) ?_
  refine hcallV (n := 1) F.1 hE (kP_inside l G (fun q => s.heap.size ≤ q) Ax ad σ qs nT nW hl9 vr) wML_L_77 wIM_X5_inside wSE_X5_X5_inside wIN_X5 wCO_X5_inside (by decide) rfl ⟨by decide, by decide⟩ (orec hE (hP.main rfl) (show mcl[7]? = some (RX5, TX5, 8) from rfl)) hS (fun q h => hA q h) (fun q h => h) hP rfl hl.1 (Nat.le_of_ble_eq_true rfl) dL_inside_4 ⟨by decide, by decide⟩ (fun E ce q9 H1 locs1 hx9 hk hS hc9 hv9 hf9 => ?_) (fun v H1 locs1 hv hk hS => ?_)
  · have ho2 := ho9.kept (hk.2 _ ho9.lt (Nat.not_le.mpr ho9.lt))
    have hx9 : xP_inside G Ax ad σ qs nT nW vr E H1 := ⟨hP.old hk, hx9⟩
    have hEE : E = xIO := by
      obtain ⟨-, ⟨hEE, -⟩⟩ := hx9 <;> simp [hEE]
    subst hEE
    refine vx_catch (own := RL) (name := xIO) F.1.2.2.2.1 [] ⟨0, 9, 12, 13⟩ [] (by rw [F.2.2.2.1]; rfl) (fun z hz => absurd hz List.not_mem_nil) (by decide) (by decide) (hts _ wCL_L_13) (va_Nw.use rfl (hE.1.2.1 (xIO, xIO) (by simp [nwCast]))) hc9 hv9 hf9 ?_
    refine W.eq (g2 := F0 m 12 ls [.ref q9]) rfl ?_
    refine lv_astore_n (lv' := [(3, .ref q9), (0, .ref (ad 0 0)), (1, .int vr), (2, .ref o)]) hx hb dL_inside_12 rfl hl (by decide) rfl (fun ls hl => ?_)
    refine lv_iconst (v := 1) hx hb dL_inside_13 (by decide) ?_
    exact kiret hx hb hr hlocks hS (by decide) (by decide) dL_inside_14 (Or.inr ⟨_, hx9, ⟨rfl, rfl⟩, _, ho2⟩)
  · have ho3 := ho9.kept (hk.2 _ ho9.lt (Nat.not_le.mpr ho9.lt))
    have hQ0 : qP_inside G Ax ad σ qs nT nW vr v H1 := ⟨hv, hP.old hk⟩
    obtain ⟨x, rfl⟩ : ∃ x, v = some (.int x) := by
      obtain ⟨⟨_, ⟨-, -, rfl⟩⟩, -⟩ := hQ0 <;> exact ⟨_, rfl⟩
    have hQ := hQ0
    refine lv_i2l hx hb dL_inside_7 rfl ?_
    refine xlast hx hb hE.1.1 hS ho3 ho dL_inside_8 (fun H2 locs2 ho2 z2 oq2 hS => ?_)
    refine lv_goto (tgt := 15) hx hb dL_inside_9 (by decide) ?_
    refine lv_iconst (v := 0) hx hb dL_inside_15 (by decide) ?_
    exact kiret hx hb hr hlocks hS (by decide) (by decide) dL_inside_16 (Or.inl ⟨_, _, rfl, hQ, ho2, z2, oq2⟩)
def qP_queued (G : GE) (A : Nat → Prop) (ad : Nat → Nat → Nat) (σ : SG) (qs : Nat → List Nat) (nT : Nat) (nW : Nat) (vr : Int32) (vp : Int32) (v : Option Value) (H : Heap) : Prop := (∃ r, r < 12 ∧ vr = nI r ∧ 0 ≤ vp ∧ ((∃ i u, vp = nI i ∧ (qs r)[i]? = some u ∧ v = some (.int (nI u))) ∨ (nI (qs r).length ≤ vp ∧ v = some (.int (-1))))) ∧ PX G A ad σ qs nT nW H
def xP_queued (G : GE) (A : Nat → Prop) (ad : Nat → Nat → Nat) (σ : SG) (qs : Nat → List Nat) (nT : Nat) (nW : Nat) (vr : Int32) (vp : Int32) (E : String) (H : Heap) : Prop := PX G A ad σ qs nT nW H ∧ ((E = xIO ∧ ¬ (∃ j, j < 12 ∧ vr = nI j)) ∨ (E = xIO ∧ ¬ 0 ≤ vp))
theorem wCW_L_queued : Cond.codeWith yL_queued cL_queued 5 (Option.some Jvm.ClassFile.FieldType.int) [(0, 10, 13, 13)] ∈ gTb := gm (List.mem_of_getElem? (i := 1042) (by decide +kernel)) rfl
set_option maxHeartbeats 4000000 in
set_option maxRecDepth 100000 in
theorem hL_queued (l : Launch) (G : GE) (Ax A : Nat → Prop) (o : Nat) (hAx : ∀ q, Ax q → A q) (ho : A o) (hno : ¬ Ax o) (ad : Nat → Nat → Nat) (σ : SG) (qs : Nat → List Nat) (nT nW : Nat) (hl9 : l.stackTraces = false) (vr vp : Int32) (hQ0 : ∀ r, r < 12 → (qs r).length ≤ 80) : HM l G A yL_queued cL_queued 5 (some .int) [(0, 10, 13, 13)] (rmL 7 2 12) [.ref (ad 0 0), .int vr, .int vp, .ref o] (fun H => PX G Ax ad σ qs nT nW H ∧ (∃ y, va_at G.1 mcl (o, LO G y) H) ∧ ∀ q, H.size ≤ q → Ax q) (fun v H => (∃ (x : Int32) (H1 : Heap), v = some (.int 0) ∧ qP_queued G Ax ad σ qs nT nW vr vp (some (.int x)) H1 ∧ va_at G.1 mcl (o, LO G x.toInt64) H ∧ H.size = H1.size ∧ ∀ q, q ≠ o → H[q]? = H1[q]?) ∨ (∃ E, xP_queued G Ax ad σ qs nT nW vr vp E H ∧ ((E = xIO ∧ v = some (.int 1))) ∧ ∃ y, va_at G.1 mcl (o, LO G y) H)) := by
  refine HM.of (by decide) (Nat.le_of_ble_eq_true rfl) ?_
  intro p e s m args below meth c F hP ls hl
  obtain ⟨hP, ⟨y0, ho9⟩, hnew⟩ := hP
  have hx := F.1.1
  have hb := F.1.2.1
  have hown := F.1.2.2.2.1
  have hts := F.1.2.2.2.2
  have hr := F.2.1
  have hlocks := F.2.2.1
  have hE := F.2.2.2.2.1
  have hN := F.2.2.2.2.2.1
  have hA := F.2.2.2.2.2.2
  have hS : va_S A s.heap s.heap [] := va_S.rf
  have hl : lv_has ls 5 [(0, .ref (ad 0 0)), (1, .int vr), (2, .int vp), (3, .ref o)] := hl
  refine lv_aload_n hx hb dL_queued_0 rfl (lv_at hl 3 rfl) ?_
  refine lv_iconst (v := 0) hx hb dL_queued_1 (by decide) ?_
  refine lv_aload_n hx hb dL_queued_2 rfl (lv_at hl 0 rfl) ?_
  refine lv_iload_n hx hb dL_queued_3 rfl (lv_at hl 1 rfl) ?_
  refine lv_iload_n hx hb dL_queued_4 rfl (lv_at hl 2 rfl) ?_
  refine hcallV (n := 2) F.1 hE (kP_queued l G (fun q => s.heap.size ≤ q) Ax ad σ qs nT nW hl9 vr vp hQ0) wML_L_80 wIM_X5_queued wSE_X5_X5_queued wIN_X5 wCO_X5_queued (by decide) rfl ⟨by decide, by decide⟩ (orec hE (hP.main rfl) (show mcl[7]? = some (RX5, TX5, 8) from rfl)) hS (fun q h => hA q h) (fun q h => h) hP rfl hl.1 (Nat.le_of_ble_eq_true rfl) dL_queued_5 ⟨by decide, by decide⟩ (fun E ce q9 H1 locs1 hx9 hk hS hc9 hv9 hf9 => ?_) (fun v H1 locs1 hv hk hS => ?_)
  · have ho2 := ho9.kept (hk.2 _ ho9.lt (Nat.not_le.mpr ho9.lt))
    have hx9 : xP_queued G Ax ad σ qs nT nW vr vp E H1 := ⟨hP.old hk, hx9⟩
    have hEE : E = xIO := by
      obtain ⟨-, (⟨hEE, -⟩ | ⟨hEE, -⟩)⟩ := hx9 <;> simp [hEE]
    subst hEE
    refine vx_catch (own := RL) (name := xIO) F.1.2.2.2.1 [] ⟨0, 10, 13, 13⟩ [] (by rw [F.2.2.2.1]; rfl) (fun z hz => absurd hz List.not_mem_nil) (by decide) (by decide) (hts _ wCL_L_13) (va_Nw.use rfl (hE.1.2.1 (xIO, xIO) (by simp [nwCast]))) hc9 hv9 hf9 ?_
    refine W.eq (g2 := F0 m 13 ls [.ref q9]) rfl ?_
    refine lv_astore (lv' := [(4, .ref q9), (0, .ref (ad 0 0)), (1, .int vr), (2, .int vp), (3, .ref o)]) hx hb dL_queued_13 hl (by decide) rfl (fun ls hl => ?_)
    refine lv_iconst (v := 1) hx hb dL_queued_15 (by decide) ?_
    exact kiret hx hb hr hlocks hS (by decide) (by decide) dL_queued_16 (Or.inr ⟨_, hx9, ⟨rfl, rfl⟩, _, ho2⟩)
  · have ho3 := ho9.kept (hk.2 _ ho9.lt (Nat.not_le.mpr ho9.lt))
    have hQ0 : qP_queued G Ax ad σ qs nT nW vr vp v H1 := ⟨hv, hP.old hk⟩
    obtain ⟨x, rfl⟩ : ∃ x, v = some (.int x) := by
      obtain ⟨⟨_, ⟨-, -, -, (⟨_, _, ⟨-, -, rfl⟩⟩ | ⟨-, rfl⟩)⟩⟩, -⟩ := hQ0 <;> exact ⟨_, rfl⟩
    have hQ := hQ0
    refine lv_i2l hx hb dL_queued_8 rfl ?_
    refine xlast hx hb hE.1.1 hS ho3 ho dL_queued_9 (fun H2 locs2 ho2 z2 oq2 hS => ?_)
    refine lv_goto (tgt := 17) hx hb dL_queued_10 (by decide) ?_
    refine lv_iconst (v := 0) hx hb dL_queued_17 (by decide) ?_
    exact kiret hx hb hr hlocks hS (by decide) (by decide) dL_queued_18 (Or.inl ⟨_, _, rfl, hQ, ho2, z2, oq2⟩)
def qP_views (G : GE) (A : Nat → Prop) (ad : Nat → Nat → Nat) (σ : SG) (qs : Nat → List Nat) (nT : Nat) (nW : Nat) (vw : Int32) (v : Option Value) (H : Heap) : Prop := (∃ u, u < nW ∧ vw = nI u ∧ v = some (.int (σ 24 u))) ∧ PX G A ad σ qs nT nW H
def xP_views (G : GE) (A : Nat → Prop) (ad : Nat → Nat → Nat) (σ : SG) (qs : Nat → List Nat) (nT : Nat) (nW : Nat) (vw : Int32) (E : String) (H : Heap) : Prop := PX G A ad σ qs nT nW H ∧ ((E = xIO ∧ ¬ (∃ j, j < nW ∧ vw = nI j)))
theorem wCW_L_views : Cond.codeWith yL_views cL_views 4 (Option.some Jvm.ClassFile.FieldType.int) [(0, 9, 12, 13)] ∈ gTb := gm (List.mem_of_getElem? (i := 1053) (by decide +kernel)) rfl
set_option maxHeartbeats 4000000 in
set_option maxRecDepth 100000 in
theorem hL_views (l : Launch) (G : GE) (Ax A : Nat → Prop) (o : Nat) (hAx : ∀ q, Ax q → A q) (ho : A o) (hno : ¬ Ax o) (ad : Nat → Nat → Nat) (σ : SG) (qs : Nat → List Nat) (nT nW : Nat) (hl9 : l.stackTraces = false) (vw : Int32) (hnW : nW ≤ 12) : HM l G A yL_views cL_views 4 (some .int) [(0, 9, 12, 13)] (rmL 6 1 6) [.ref (ad 0 0), .int vw, .ref o] (fun H => PX G Ax ad σ qs nT nW H ∧ (∃ y, va_at G.1 mcl (o, LO G y) H) ∧ ∀ q, H.size ≤ q → Ax q) (fun v H => (∃ (x : Int32) (H1 : Heap), v = some (.int 0) ∧ qP_views G Ax ad σ qs nT nW vw (some (.int x)) H1 ∧ va_at G.1 mcl (o, LO G x.toInt64) H ∧ H.size = H1.size ∧ ∀ q, q ≠ o → H[q]? = H1[q]?) ∨ (∃ E, xP_views G Ax ad σ qs nT nW vw E H ∧ ((E = xIO ∧ v = some (.int 1))) ∧ ∃ y, va_at G.1 mcl (o, LO G y) H)) := by
  refine HM.of (by decide) (Nat.le_of_ble_eq_true rfl) ?_
  intro p e s m args below meth c F hP ls hl
  obtain ⟨hP, ⟨y0, ho9⟩, hnew⟩ := hP
  have hx := F.1.1
  have hb := F.1.2.1
  have hown := F.1.2.2.2.1
  have hts := F.1.2.2.2.2
  have hr := F.2.1
  have hlocks := F.2.2.1
  have hE := F.2.2.2.2.1
  have hN := F.2.2.2.2.2.1
  have hA := F.2.2.2.2.2.2
  have hS : va_S A s.heap s.heap [] := va_S.rf
  have hl : lv_has ls 4 [(0, .ref (ad 0 0)), (1, .int vw), (2, .ref o)] := hl
  refine lv_aload_n hx hb dL_views_0 rfl (lv_at hl 2 rfl) ?_
  refine lv_iconst (v := 0) hx hb dL_views_1 (by decide) ?_
  refine lv_aload_n hx hb dL_views_2 rfl (lv_at hl 0 rfl) ?_
  refine lv_iload_n hx hb dL_views_3 rfl (lv_at hl 1 rfl) ?_
  refine hcallV (n := 1) F.1 hE (kP_views l G (fun q => s.heap.size ≤ q) Ax ad σ qs nT nW hl9 vw hnW) wML_L_83 wIM_X5_views wSE_X5_X5_views wIN_X5 wCO_X5_views (by decide) rfl ⟨by decide, by decide⟩ (orec hE (hP.main rfl) (show mcl[7]? = some (RX5, TX5, 8) from rfl)) hS (fun q h => hA q h) (fun q h => h) hP rfl hl.1 (Nat.le_of_ble_eq_true rfl) dL_views_4 ⟨by decide, by decide⟩ (fun E ce q9 H1 locs1 hx9 hk hS hc9 hv9 hf9 => ?_) (fun v H1 locs1 hv hk hS => ?_)
  · have ho2 := ho9.kept (hk.2 _ ho9.lt (Nat.not_le.mpr ho9.lt))
    have hx9 : xP_views G Ax ad σ qs nT nW vw E H1 := ⟨hP.old hk, hx9⟩
    have hEE : E = xIO := by
      obtain ⟨-, ⟨hEE, -⟩⟩ := hx9 <;> simp [hEE]
    subst hEE
    refine vx_catch (own := RL) (name := xIO) F.1.2.2.2.1 [] ⟨0, 9, 12, 13⟩ [] (by rw [F.2.2.2.1]; rfl) (fun z hz => absurd hz List.not_mem_nil) (by decide) (by decide) (hts _ wCL_L_13) (va_Nw.use rfl (hE.1.2.1 (xIO, xIO) (by simp [nwCast]))) hc9 hv9 hf9 ?_
    refine W.eq (g2 := F0 m 12 ls [.ref q9]) rfl ?_
    refine lv_astore_n (lv' := [(3, .ref q9), (0, .ref (ad 0 0)), (1, .int vw), (2, .ref o)]) hx hb dL_views_12 rfl hl (by decide) rfl (fun ls hl => ?_)
    refine lv_iconst (v := 1) hx hb dL_views_13 (by decide) ?_
    exact kiret hx hb hr hlocks hS (by decide) (by decide) dL_views_14 (Or.inr ⟨_, hx9, ⟨rfl, rfl⟩, _, ho2⟩)
  · have ho3 := ho9.kept (hk.2 _ ho9.lt (Nat.not_le.mpr ho9.lt))
    have hQ0 : qP_views G Ax ad σ qs nT nW vw v H1 := ⟨hv, hP.old hk⟩
    obtain ⟨x, rfl⟩ : ∃ x, v = some (.int x) := by
      obtain ⟨⟨_, ⟨-, -, rfl⟩⟩, -⟩ := hQ0 <;> exact ⟨_, rfl⟩
    have hQ := hQ0
    refine lv_i2l hx hb dL_views_7 rfl ?_
    refine xlast hx hb hE.1.1 hS ho3 ho dL_views_8 (fun H2 locs2 ho2 z2 oq2 hS => ?_)
    refine lv_goto (tgt := 15) hx hb dL_views_9 (by decide) ?_
    refine lv_iconst (v := 0) hx hb dL_views_15 (by decide) ?_
    exact kiret hx hb hr hlocks hS (by decide) (by decide) dL_views_16 (Or.inl ⟨_, _, rfl, hQ, ho2, z2, oq2⟩)
def qP_titleAt (G : GE) (A : Nat → Prop) (ad : Nat → Nat → Nat) (σ : SG) (qs : Nat → List Nat) (nT : Nat) (nW : Nat) (vw : Int32) (vp : Int32) (v : Option Value) (H : Heap) : Prop := (∃ u h9 b fe, u < nW ∧ vw = nI u ∧ h9 < 4 ∧ σ 18 u = nI h9 ∧ b < 12 ∧ σ 19 u = nI b ∧ fe ≤ 1000 ∧ σ 21 u = nI fe ∧ 0 ≤ vp ∧ ∃ n F, ((σ 20 u = 0 ∧ n = 0 + 1 + dgn u + 1 + dgn b ∧ F = gch b (0 + 1 + dgn u + 1 + dgn b) (upd (gch u (0 + 1 + dgn u) (upd (fun _ => 0) 0 (nI (65 + h9)))) (0 + 1 + dgn u) (nI 64))) ∨ (¬ σ 20 u = 0 ∧ n = 0 + 1 + dgn u + 1 + dgn b + 1 + dgn fe ∧ F = gch fe (0 + 1 + dgn u + 1 + dgn b + 1 + dgn fe) (upd (gch b (0 + 1 + dgn u + 1 + dgn b) (upd (gch u (0 + 1 + dgn u) (upd (fun _ => 0) 0 (nI (65 + h9)))) (0 + 1 + dgn u) (nI 64))) (0 + 1 + dgn u + 1 + dgn b) (nI 36)))) ∧ ((∃ i, i < n ∧ vp = nI i ∧ v = some (.int (F i))) ∨ (nI n ≤ vp ∧ v = some (.int (-1))))) ∧ PX G A ad σ qs nT nW H
def xP_titleAt (G : GE) (A : Nat → Prop) (ad : Nat → Nat → Nat) (σ : SG) (qs : Nat → List Nat) (nT : Nat) (nW : Nat) (vw : Int32) (vp : Int32) (E : String) (H : Heap) : Prop := PX G A ad σ qs nT nW H ∧ ((E = xIO ∧ ¬ (∃ j, j < nW ∧ vw = nI j)) ∨ (E = xIO ∧ ¬ 0 ≤ vp))
theorem wCW_L_titleAt : Cond.codeWith yL_titleAt cL_titleAt 5 (Option.some Jvm.ClassFile.FieldType.int) [(0, 10, 13, 13)] ∈ gTb := gm (List.mem_of_getElem? (i := 1060) (by decide +kernel)) rfl
set_option maxHeartbeats 4000000 in
set_option maxRecDepth 100000 in
theorem hL_titleAt (l : Launch) (G : GE) (Ax A : Nat → Prop) (o : Nat) (hAx : ∀ q, Ax q → A q) (ho : A o) (hno : ¬ Ax o) (ad : Nat → Nat → Nat) (σ : SG) (qs : Nat → List Nat) (nT nW : Nat) (hl9 : l.stackTraces = false) (vw vp : Int32) (hnW : nW ≤ 12) (hW0 : WFw σ nW) (hWr : ∀ u, u < nW → ∃ b, b < 12 ∧ σ 19 u = nI b) (hFe : ∀ u, u < nW → ∃ fe, fe ≤ 1000 ∧ σ 21 u = nI fe) : HM l G A yL_titleAt cL_titleAt 5 (some .int) [(0, 10, 13, 13)] (rmL 7 4 60) [.ref (ad 0 0), .int vw, .int vp, .ref o] (fun H => PX G Ax ad σ qs nT nW H ∧ (∃ y, va_at G.1 mcl (o, LO G y) H) ∧ ∀ q, H.size ≤ q → Ax q) (fun v H => (∃ (x : Int32) (H1 : Heap), v = some (.int 0) ∧ qP_titleAt G Ax ad σ qs nT nW vw vp (some (.int x)) H1 ∧ va_at G.1 mcl (o, LO G x.toInt64) H ∧ H.size = H1.size ∧ ∀ q, q ≠ o → H[q]? = H1[q]?) ∨ (∃ E, xP_titleAt G Ax ad σ qs nT nW vw vp E H ∧ ((E = xIO ∧ v = some (.int 1))) ∧ ∃ y, va_at G.1 mcl (o, LO G y) H)) := by
  refine HM.of (by decide) (Nat.le_of_ble_eq_true rfl) ?_
  intro p e s m args below meth c F hP ls hl
  obtain ⟨hP, ⟨y0, ho9⟩, hnew⟩ := hP
  have hx := F.1.1
  have hb := F.1.2.1
  have hown := F.1.2.2.2.1
  have hts := F.1.2.2.2.2
  have hr := F.2.1
  have hlocks := F.2.2.1
  have hE := F.2.2.2.2.1
  have hN := F.2.2.2.2.2.1
  have hA := F.2.2.2.2.2.2
  have hS : va_S A s.heap s.heap [] := va_S.rf
  have hl : lv_has ls 5 [(0, .ref (ad 0 0)), (1, .int vw), (2, .int vp), (3, .ref o)] := hl
  refine lv_aload_n hx hb dL_titleAt_0 rfl (lv_at hl 3 rfl) ?_
  refine lv_iconst (v := 0) hx hb dL_titleAt_1 (by decide) ?_
  refine lv_aload_n hx hb dL_titleAt_2 rfl (lv_at hl 0 rfl) ?_
  refine lv_iload_n hx hb dL_titleAt_3 rfl (lv_at hl 1 rfl) ?_
  refine lv_iload_n hx hb dL_titleAt_4 rfl (lv_at hl 2 rfl) ?_
  refine hcallV (n := 2) F.1 hE (kP_titleAt l G (fun q => s.heap.size ≤ q) Ax ad σ qs nT nW hl9 vw vp hnW hW0 hWr hFe) wML_L_86 wIM_X5_titleAt wSE_X5_X5_titleAt wIN_X5 wCO_X5_titleAt (by decide) rfl ⟨by decide, by decide⟩ (orec hE (hP.main rfl) (show mcl[7]? = some (RX5, TX5, 8) from rfl)) hS (fun q h => hA q h) (fun q h => h) hP rfl hl.1 (Nat.le_of_ble_eq_true rfl) dL_titleAt_5 ⟨by decide, by decide⟩ (fun E ce q9 H1 locs1 hx9 hk hS hc9 hv9 hf9 => ?_) (fun v H1 locs1 hv hk hS => ?_)
  · have ho2 := ho9.kept (hk.2 _ ho9.lt (Nat.not_le.mpr ho9.lt))
    have hx9 : xP_titleAt G Ax ad σ qs nT nW vw vp E H1 := ⟨hP.old hk, hx9⟩
    have hEE : E = xIO := by
      obtain ⟨-, (⟨hEE, -⟩ | ⟨hEE, -⟩)⟩ := hx9 <;> simp [hEE]
    subst hEE
    refine vx_catch (own := RL) (name := xIO) F.1.2.2.2.1 [] ⟨0, 10, 13, 13⟩ [] (by rw [F.2.2.2.1]; rfl) (fun z hz => absurd hz List.not_mem_nil) (by decide) (by decide) (hts _ wCL_L_13) (va_Nw.use rfl (hE.1.2.1 (xIO, xIO) (by simp [nwCast]))) hc9 hv9 hf9 ?_
    refine W.eq (g2 := F0 m 13 ls [.ref q9]) rfl ?_
    refine lv_astore (lv' := [(4, .ref q9), (0, .ref (ad 0 0)), (1, .int vw), (2, .int vp), (3, .ref o)]) hx hb dL_titleAt_13 hl (by decide) rfl (fun ls hl => ?_)
    refine lv_iconst (v := 1) hx hb dL_titleAt_15 (by decide) ?_
    exact kiret hx hb hr hlocks hS (by decide) (by decide) dL_titleAt_16 (Or.inr ⟨_, hx9, ⟨rfl, rfl⟩, _, ho2⟩)
  · have ho3 := ho9.kept (hk.2 _ ho9.lt (Nat.not_le.mpr ho9.lt))
    have hQ0 : qP_titleAt G Ax ad σ qs nT nW vw vp v H1 := ⟨hv, hP.old hk⟩
    obtain ⟨x, rfl⟩ : ∃ x, v = some (.int x) := by
      obtain ⟨⟨_, _, _, _, ⟨-, -, -, -, -, -, -, -, -, ⟨_, _, ⟨(⟨-, -, -⟩ | ⟨-, -, -⟩), (⟨_, ⟨-, -, rfl⟩⟩ | ⟨-, rfl⟩)⟩⟩⟩⟩, -⟩ := hQ0 <;> exact ⟨_, rfl⟩
    have hQ := hQ0
    refine lv_i2l hx hb dL_titleAt_8 rfl ?_
    refine xlast hx hb hE.1.1 hS ho3 ho dL_titleAt_9 (fun H2 locs2 ho2 z2 oq2 hS => ?_)
    refine lv_goto (tgt := 17) hx hb dL_titleAt_10 (by decide) ?_
    refine lv_iconst (v := 0) hx hb dL_titleAt_17 (by decide) ?_
    exact kiret hx hb hr hlocks hS (by decide) (by decide) dL_titleAt_18 (Or.inl ⟨_, _, rfl, hQ, ho2, z2, oq2⟩)
def qP_money (G : GE) (A : Nat → Prop) (ad : Nat → Nat → Nat) (σ : SG) (qs : Nat → List Nat) (nT : Nat) (nW : Nat) (hh : Int32) (v : Option Value) (H : Heap) : Prop := (∃ j, j < 5 ∧ hh + 1 = nI j ∧ v = some (.int (σ 1 j))) ∧ PX G A ad σ qs nT nW H
def xP_money (G : GE) (A : Nat → Prop) (ad : Nat → Nat → Nat) (σ : SG) (qs : Nat → List Nat) (nT : Nat) (nW : Nat) (hh : Int32) (E : String) (H : Heap) : Prop := PX G A ad σ qs nT nW H ∧ ((E = xIO ∧ ¬ (∃ j, j < 5 ∧ hh + 1 = nI j)))
theorem wCW_L_money : Cond.codeWith yL_money cL_money 4 (Option.some Jvm.ClassFile.FieldType.int) [(0, 9, 12, 13)] ∈ gTb := gm (List.mem_of_getElem? (i := 1101) (by decide +kernel)) rfl
set_option maxHeartbeats 4000000 in
set_option maxRecDepth 100000 in
theorem hL_money (l : Launch) (G : GE) (Ax A : Nat → Prop) (o : Nat) (hAx : ∀ q, Ax q → A q) (ho : A o) (hno : ¬ Ax o) (ad : Nat → Nat → Nat) (σ : SG) (qs : Nat → List Nat) (nT nW : Nat) (hl9 : l.stackTraces = false) (hh : Int32) : HM l G A yL_money cL_money 4 (some .int) [(0, 9, 12, 13)] (rmL 6 1 6) [.ref (ad 0 0), .int hh, .ref o] (fun H => PX G Ax ad σ qs nT nW H ∧ (∃ y, va_at G.1 mcl (o, LO G y) H) ∧ ∀ q, H.size ≤ q → Ax q) (fun v H => (∃ (x : Int32) (H1 : Heap), v = some (.int 0) ∧ qP_money G Ax ad σ qs nT nW hh (some (.int x)) H1 ∧ va_at G.1 mcl (o, LO G x.toInt64) H ∧ H.size = H1.size ∧ ∀ q, q ≠ o → H[q]? = H1[q]?) ∨ (∃ E, xP_money G Ax ad σ qs nT nW hh E H ∧ ((E = xIO ∧ v = some (.int 1))) ∧ ∃ y, va_at G.1 mcl (o, LO G y) H)) := by
  refine HM.of (by decide) (Nat.le_of_ble_eq_true rfl) ?_
  intro p e s m args below meth c F hP ls hl
  obtain ⟨hP, ⟨y0, ho9⟩, hnew⟩ := hP
  have hx := F.1.1
  have hb := F.1.2.1
  have hown := F.1.2.2.2.1
  have hts := F.1.2.2.2.2
  have hr := F.2.1
  have hlocks := F.2.2.1
  have hE := F.2.2.2.2.1
  have hN := F.2.2.2.2.2.1
  have hA := F.2.2.2.2.2.2
  have hS : va_S A s.heap s.heap [] := va_S.rf
  have hl : lv_has ls 4 [(0, .ref (ad 0 0)), (1, .int hh), (2, .ref o)] := hl
  refine lv_aload_n hx hb dL_money_0 rfl (lv_at hl 2 rfl) ?_
  refine lv_iconst (v := 0) hx hb dL_money_1 (by decide) ?_
  refine lv_aload_n hx hb dL_money_2 rfl (lv_at hl 0 rfl) ?_
  refine lv_iload_n hx hb dL_money_3 rfl (lv_at hl 1 rfl) ?_
  refine hcallV (n := 1) F.1 hE (kP_money l G (fun q => s.heap.size ≤ q) Ax ad σ qs nT nW hl9 hh) wML_L_89 wIM_X5_money wSE_X5_X5_money wIN_X5 wCO_X5_money (by decide) rfl ⟨by decide, by decide⟩ (orec hE (hP.main rfl) (show mcl[7]? = some (RX5, TX5, 8) from rfl)) hS (fun q h => hA q h) (fun q h => h) hP rfl hl.1 (Nat.le_of_ble_eq_true rfl) dL_money_4 ⟨by decide, by decide⟩ (fun E ce q9 H1 locs1 hx9 hk hS hc9 hv9 hf9 => ?_) (fun v H1 locs1 hv hk hS => ?_)
  · have ho2 := ho9.kept (hk.2 _ ho9.lt (Nat.not_le.mpr ho9.lt))
    have hx9 : xP_money G Ax ad σ qs nT nW hh E H1 := ⟨hP.old hk, hx9⟩
    have hEE : E = xIO := by
      obtain ⟨-, ⟨hEE, -⟩⟩ := hx9 <;> simp [hEE]
    subst hEE
    refine vx_catch (own := RL) (name := xIO) F.1.2.2.2.1 [] ⟨0, 9, 12, 13⟩ [] (by rw [F.2.2.2.1]; rfl) (fun z hz => absurd hz List.not_mem_nil) (by decide) (by decide) (hts _ wCL_L_13) (va_Nw.use rfl (hE.1.2.1 (xIO, xIO) (by simp [nwCast]))) hc9 hv9 hf9 ?_
    refine W.eq (g2 := F0 m 12 ls [.ref q9]) rfl ?_
    refine lv_astore_n (lv' := [(3, .ref q9), (0, .ref (ad 0 0)), (1, .int hh), (2, .ref o)]) hx hb dL_money_12 rfl hl (by decide) rfl (fun ls hl => ?_)
    refine lv_iconst (v := 1) hx hb dL_money_13 (by decide) ?_
    exact kiret hx hb hr hlocks hS (by decide) (by decide) dL_money_14 (Or.inr ⟨_, hx9, ⟨rfl, rfl⟩, _, ho2⟩)
  · have ho3 := ho9.kept (hk.2 _ ho9.lt (Nat.not_le.mpr ho9.lt))
    have hQ0 : qP_money G Ax ad σ qs nT nW hh v H1 := ⟨hv, hP.old hk⟩
    obtain ⟨x, rfl⟩ : ∃ x, v = some (.int x) := by
      obtain ⟨⟨_, ⟨-, -, rfl⟩⟩, -⟩ := hQ0 <;> exact ⟨_, rfl⟩
    have hQ := hQ0
    refine lv_i2l hx hb dL_money_7 rfl ?_
    refine xlast hx hb hE.1.1 hS ho3 ho dL_money_8 (fun H2 locs2 ho2 z2 oq2 hS => ?_)
    refine lv_goto (tgt := 15) hx hb dL_money_9 (by decide) ?_
    refine lv_iconst (v := 0) hx hb dL_money_15 (by decide) ?_
    exact kiret hx hb hr hlocks hS (by decide) (by decide) dL_money_16 (Or.inl ⟨_, _, rfl, hQ, ho2, z2, oq2⟩)
def qP_moneyBySeen (G : GE) (A : Nat → Prop) (ad : Nat → Nat → Nat) (σ : SG) (qs : Nat → List Nat) (nT : Nat) (nW : Nat) (hh : Int32) (f : Nat) (v : Option Value) (H : Heap) : Prop := (∃ j, j < 5 ∧ hh + 1 = nI j ∧ v = some (.int (σ 2 j + σ 3 j + σ 4 j + fBrT σ hh f + fBrM σ hh f))) ∧ PX G A ad σ qs nT nW H
def xP_moneyBySeen (G : GE) (A : Nat → Prop) (ad : Nat → Nat → Nat) (σ : SG) (qs : Nat → List Nat) (nT : Nat) (nW : Nat) (hh : Int32) (f : Nat) (E : String) (H : Heap) : Prop := PX G A ad σ qs nT nW H ∧ ((E = xIO ∧ ¬ (∃ j, j < 5 ∧ hh + 1 = nI j)))
theorem wCW_L_moneyBySeen : Cond.codeWith yL_moneyBySeen cL_moneyBySeen 4 (Option.some Jvm.ClassFile.FieldType.int) [(0, 9, 12, 13)] ∈ gTb := gm (List.mem_of_getElem? (i := 1108) (by decide +kernel)) rfl
set_option maxHeartbeats 4000000 in
set_option maxRecDepth 100000 in
theorem hL_moneyBySeen (l : Launch) (G : GE) (Ax A : Nat → Prop) (o : Nat) (hAx : ∀ q, Ax q → A q) (ho : A o) (hno : ¬ Ax o) (ad : Nat → Nat → Nat) (σ : SG) (qs : Nat → List Nat) (nT nW : Nat) (hl9 : l.stackTraces = false) (hh : Int32) (f : Nat) (hf : σ 26 0 = nI f) (hfn : f ≤ nT) (hnT : nT ≤ 80) : HM l G A yL_moneyBySeen cL_moneyBySeen 4 (some .int) [(0, 9, 12, 13)] (rmL 7 2 12) [.ref (ad 0 0), .int hh, .ref o] (fun H => PX G Ax ad σ qs nT nW H ∧ (∃ y, va_at G.1 mcl (o, LO G y) H) ∧ ∀ q, H.size ≤ q → Ax q) (fun v H => (∃ (x : Int32) (H1 : Heap), v = some (.int 0) ∧ qP_moneyBySeen G Ax ad σ qs nT nW hh f (some (.int x)) H1 ∧ va_at G.1 mcl (o, LO G x.toInt64) H ∧ H.size = H1.size ∧ ∀ q, q ≠ o → H[q]? = H1[q]?) ∨ (∃ E, xP_moneyBySeen G Ax ad σ qs nT nW hh f E H ∧ ((E = xIO ∧ v = some (.int 1))) ∧ ∃ y, va_at G.1 mcl (o, LO G y) H)) := by
  refine HM.of (by decide) (Nat.le_of_ble_eq_true rfl) ?_
  intro p e s m args below meth c F hP ls hl
  obtain ⟨hP, ⟨y0, ho9⟩, hnew⟩ := hP
  have hx := F.1.1
  have hb := F.1.2.1
  have hown := F.1.2.2.2.1
  have hts := F.1.2.2.2.2
  have hr := F.2.1
  have hlocks := F.2.2.1
  have hE := F.2.2.2.2.1
  have hN := F.2.2.2.2.2.1
  have hA := F.2.2.2.2.2.2
  have hS : va_S A s.heap s.heap [] := va_S.rf
  have hl : lv_has ls 4 [(0, .ref (ad 0 0)), (1, .int hh), (2, .ref o)] := hl
  refine lv_aload_n hx hb dL_moneyBySeen_0 rfl (lv_at hl 2 rfl) ?_
  refine lv_iconst (v := 0) hx hb dL_moneyBySeen_1 (by decide) ?_
  refine lv_aload_n hx hb dL_moneyBySeen_2 rfl (lv_at hl 0 rfl) ?_
  refine lv_iload_n hx hb dL_moneyBySeen_3 rfl (lv_at hl 1 rfl) ?_
  refine hcallV (n := 1) F.1 hE (kP_moneyBySeen l G (fun q => s.heap.size ≤ q) Ax ad σ qs nT nW hl9 hh f hf hfn hnT) wML_L_92 wIM_X5_moneyBySeen wSE_X5_X5_moneyBySeen wIN_X5 wCO_X5_moneyBySeen (by decide) rfl ⟨by decide, by decide⟩ (orec hE (hP.main rfl) (show mcl[7]? = some (RX5, TX5, 8) from rfl)) hS (fun q h => hA q h) (fun q h => h) hP rfl hl.1 (Nat.le_of_ble_eq_true rfl) dL_moneyBySeen_4 ⟨by decide, by decide⟩ (fun E ce q9 H1 locs1 hx9 hk hS hc9 hv9 hf9 => ?_) (fun v H1 locs1 hv hk hS => ?_)
  · have ho2 := ho9.kept (hk.2 _ ho9.lt (Nat.not_le.mpr ho9.lt))
    have hx9 : xP_moneyBySeen G Ax ad σ qs nT nW hh f E H1 := ⟨hP.old hk, hx9⟩
    have hEE : E = xIO := by
      obtain ⟨-, ⟨hEE, -⟩⟩ := hx9 <;> simp [hEE]
    subst hEE
    refine vx_catch (own := RL) (name := xIO) F.1.2.2.2.1 [] ⟨0, 9, 12, 13⟩ [] (by rw [F.2.2.2.1]; rfl) (fun z hz => absurd hz List.not_mem_nil) (by decide) (by decide) (hts _ wCL_L_13) (va_Nw.use rfl (hE.1.2.1 (xIO, xIO) (by simp [nwCast]))) hc9 hv9 hf9 ?_
    refine W.eq (g2 := F0 m 12 ls [.ref q9]) rfl ?_
    refine lv_astore_n (lv' := [(3, .ref q9), (0, .ref (ad 0 0)), (1, .int hh), (2, .ref o)]) hx hb dL_moneyBySeen_12 rfl hl (by decide) rfl (fun ls hl => ?_)
    refine lv_iconst (v := 1) hx hb dL_moneyBySeen_13 (by decide) ?_
    exact kiret hx hb hr hlocks hS (by decide) (by decide) dL_moneyBySeen_14 (Or.inr ⟨_, hx9, ⟨rfl, rfl⟩, _, ho2⟩)
  · have ho3 := ho9.kept (hk.2 _ ho9.lt (Nat.not_le.mpr ho9.lt))
    have hQ0 : qP_moneyBySeen G Ax ad σ qs nT nW hh f v H1 := ⟨hv, hP.old hk⟩
    obtain ⟨x, rfl⟩ : ∃ x, v = some (.int x) := by
      obtain ⟨⟨_, ⟨-, -, rfl⟩⟩, -⟩ := hQ0 <;> exact ⟨_, rfl⟩
    have hQ := hQ0
    refine lv_i2l hx hb dL_moneyBySeen_7 rfl ?_
    refine xlast hx hb hE.1.1 hS ho3 ho dL_moneyBySeen_8 (fun H2 locs2 ho2 z2 oq2 hS => ?_)
    refine lv_goto (tgt := 15) hx hb dL_moneyBySeen_9 (by decide) ?_
    refine lv_iconst (v := 0) hx hb dL_moneyBySeen_15 (by decide) ?_
    exact kiret hx hb hr hlocks hS (by decide) (by decide) dL_moneyBySeen_16 (Or.inl ⟨_, _, rfl, hQ, ho2, z2, oq2⟩)
