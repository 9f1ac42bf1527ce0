theorem KF.new {B : Nat → Prop} {H0 H H1 : Heap} (h : KF (fun z => H0.size ≤ z) H0 H) (k : KF B H H1) (hB : ∀ q, B q → H0.size ≤ q) : KF (fun z => H0.size ≤ z) H0 H1 :=
  ⟨Nat.le_trans h.1 k.1, fun q hq hn => (k.2 q (Nat.lt_of_lt_of_le hq h.1) (fun z => hn (hB q z))).trans (h.2 q hq hn)⟩
def fNew (σ : SG) (n : Nat) (so ho me co : Int32) : SG := up (up (up (up (up (up (up (up σ 10 n so) 11 n ho) 12 n me) 13 n co) 14 n 0) 15 n 0) 16 n (-1)) 17 n 0
def fNewW (σ : SG) (n r : Nat) : SG := up (up (up (up (up (up (up σ 18 n (nI (r / 3))) 19 n (nI r)) 20 n 0) 21 n 0) 22 n 0) 23 n 20) 24 n 0
theorem up_o {σ : SG} {f i g j kn jn : Nat} {v : Int32} (h : ¬ (fk g = kn ∧ j = jn)) (hf : fk f = kn) (hi : i = jn) : up σ f i v g j = σ g j := by
  unfold up
  exact if_neg fun ⟨e1, e2⟩ => h ⟨by rw [e1, hf], by rw [e2, hi]⟩
theorem fNew_o {σ : SG} {n : Nat} {so ho me co : Int32} (g j : Nat) (h : ¬ (fk g = 10 ∧ j = n)) : fNew σ n so ho me co g j = σ g j := by
  unfold fNew
  rw [up_o h rfl rfl, up_o h rfl rfl, up_o h rfl rfl, up_o h rfl rfl, up_o h rfl rfl, up_o h rfl rfl, up_o h rfl rfl, up_o h rfl rfl]
theorem fNewW_o {σ : SG} {n r : Nat} (g j : Nat) (h : ¬ (fk g = 9 ∧ j = n)) : fNewW σ n r g j = σ g j := by
  unfold fNewW
  rw [up_o h rfl rfl, up_o h rfl rfl, up_o h rfl rfl, up_o h rfl rfl, up_o h rfl rfl, up_o h rfl rfl, up_o h rfl rfl]
theorem el_w {G : GE} {A : Nat → Prop} {ad : Nat → Nat → Nat} {σ : SG} {qs : Nat → List Nat} {nT nW i aA n : Nat} {H : Heap} (h : PX G A ad σ qs nT nW H) (hap : ∀ k' i', dmO nT nW k' i' → ad k' i' ≠ ad 7 i ∧ (n ≠ 0 → ad k' i' ≠ aA)) {t : Nat} (ht : t < nW) : EL G (AL1 (ad 7 i) aA n H.size) (ad 9 t) H := by
  have hd : dmO nT nW 9 t := by unfold dmO; omega
  refine ⟨⟨6, _, Or.inr rfl, (h.work ht)⟩, fun z => ?_⟩
  rcases z with z | ⟨z1, z2⟩ | z
  · exact (hap 9 t hd).1 z
  · exact (hap 9 t hd).2 z1 z2
  · exact absurd z (Nat.not_le.mpr (h.work ht).lt)
theorem fNew_27 {σ : SG} {n : Nat} {so ho me co : Int32} : fNew σ n so ho me co 27 0 = σ 27 0 := fNew_o _ _ (fun z => absurd z.1 (by decide))
set_option maxHeartbeats 4000000 in
set_option maxRecDepth 100000 in
theorem kX5_issue (l : Launch) (G : GE) (A : Nat → Prop) (ad : Nat → Nat → Nat) (σ : SG) (qs : Nat → List Nat) (nT nW : Nat) (so ho me co : Int32) (hnT : nT < 80) : KM l G A yX5_issue cX5_issue 6 (some .int) (rmL 8 2 209) [.ref (ad 0 0), .int so, .int ho, .int me, .int co] (PX G A ad σ qs nT nW) (fun v H => v = some (.int (nI nT)) ∧ ∃ q, PX G A (adN ad 10 nT q) (up (fNew σ nT so ho me co) 27 0 (σ 27 0 + co)) qs (nT + 1) nW H) (fun _ _ => False) := by
  refine KM.of (by decide) (Nat.le_of_ble_eq_true rfl) ?_
  intro p e s m args below meth c F hP ls hl
  have hx := F.1.1
  have hb := F.1.2.1
  have hown := F.1.2.2.2.1
  have hts := F.1.2.2.2.2
  have hr := F.2.1
  have hlocks := F.2.2.1
  have hE := F.2.2.2.2.2.1
  have hA := F.2.2.2.2.2.2
  have hS : va_S A s.heap s.heap [] := va_S.rf
  have hl : lv_has ls 6 [(0, .ref (ad 0 0)), (1, .int so), (2, .int ho), (3, .int me), (4, .int co)] := hl
  have hP := hP
  refine xnew (ci := 4) (N := 9) hx hb hts inG_X2 tyX2 tyX2_ok hown wCL_X5_96 wIS_X2 wIN_X2 hE.1.1 hS (show mcl[4]? = some (RX2, TX2, 9) from rfl) (fs := [.int 0, .int 0, .int 0, .int 0, .int 0, .int 0, .int 0, .int 0, .int 0]) (by decide) (Nat.le_of_ble_eq_true rfl) (Nat.le_of_ble_eq_true rfl) dX5_issue_0 (fun H1 he z1 oq1 hS => ?_)
  have hP0 := hP
  have hk0 : KF (fun z => s.heap.size ≤ z) s.heap H1 := ⟨by omega, fun q hq _ => oq1 q hq⟩
  have hP := hP0.old hk0
  refine lv_dup hx hb dX5_issue_3 rfl ?_
  refine lv_aload_n hx hb dX5_issue_4 rfl (lv_at hl 0 rfl) ?_
  refine gX5 F (hP.main rfl) 3 (by decide) wFL_X5_30 (fun _ h9 => h9) (v := .ref (ad 7 12)) rfl dX5_issue_5 ?_
  refine kcallV (n := 0) F (cQ_size l G (fun q => H1.size ≤ q) A ad σ qs nT nW 12 (by decide)) wML_X5_173 wIM_Jx4a65c_size_8abf5 wSE_Jx4a65c_Jx4a65c_size_8abf5 wIN_Jx4a65c wCO_Jx4a65c_size_8abf5 (by decide) rfl ⟨by decide, by decide⟩ (by obtain ⟨_, _, h⟩ := hP.lobj (i := 12) (by decide); exact frec F h _ rfl) hS (fun q h => hA q (Nat.le_trans hS.1 h)) (fun q h => h) hP rfl hl.1 (Nat.le_of_ble_eq_true rfl) dX5_issue_8 ⟨by decide, by decide⟩ (fun E ce q9 H1 locs1 hx9 _ _ _ _ _ => hx9.elim) (fun v H1 locs1 hv hk hS => ?_)
  have hP := hP.old hk
  rw [lsX_12, List.length_map, List.length_range] at hv
  subst hv
  have he := atO he hk
  have hk0 := hk0.new hk (fun q h => Nat.le_trans hk0.1 h)
  refine lv_iload_n hx hb dX5_issue_11 rfl (lv_at hl 1 rfl) ?_
  refine lv_iload_n hx hb dX5_issue_12 rfl (lv_at hl 2 rfl) ?_
  refine lv_iload_n hx hb dX5_issue_13 rfl (lv_at hl 3 rfl) ?_
  refine lv_iload hx hb dX5_issue_14 (lv_at hl 4 rfl) ?_
  refine kcallI (n := 5) F (cX2_initC l G (fun q => s.heap.size ≤ q) s.heap.size (nI nT) so ho me co (Nat.le_refl _)) wML_X5_308 wIM_X2_init wIN_X2 wCO_X2_init rfl (by decide) rfl ⟨by decide, by decide⟩ hS (fun q h => hA q (Nat.le_trans (by first | exact Nat.le_refl _ | exact hle0) h)) (fun q h => Nat.le_trans hk0.1 h) he rfl hl.1 (Nat.le_of_ble_eq_true rfl) dX5_issue_16 ⟨by decide, by decide⟩ (fun E ce q9 H1 locs1 hx9 _ _ _ _ _ => hx9.elim) (fun v H1 locs1 hv hk hS => ?_)
  obtain ⟨rfl, he⟩ := hv
  have hk0 := hk0.new hk (fun q h => h)
  have hP := hP0.old hk0
  refine lv_astore (lv' := [(5, .ref s.heap.size), (0, .ref (ad 0 0)), (1, .int so), (2, .int ho), (3, .int me), (4, .int co)]) hx hb dX5_issue_19 hl (by decide) rfl (fun ls hl => ?_)
  refine lv_aload_n hx hb dX5_issue_21 rfl (lv_at hl 1 rfl) ?_
  refine gX5 F (hP.main rfl) 3 (by decide) wFL_X5_30 (fun _ h9 => h9) (v := .ref (ad 7 12)) rfl dX5_issue_22 ?_
  refine lv_aload hx hb dX5_issue_25 (lv_at hl 0 rfl) ?_
  have hqH := he.lt
  obtain ⟨aA, n, mc, hLL, o1, o2, o3, o4, o5, hcl⟩ := hP0.lstN (q := s.heap.size) (σ' := fNew σ nT so ho me co) hk0 (Or.inl ⟨rfl, rfl, rfl, rfl, rfl, hnT⟩) (Nat.le_refl _) hqH (hA _ (by first | exact Nat.le_refl _ | exact hle0)) (by exact fNew_o)
  rename Heap => H2
  have hS0 := hS
  refine kcallV (n := 1) F (cL_add l G (AL1 (ad 7 12) aA n H2.size) (ad 7 12) aA n H2.size s.heap.size mc (lsX ad qs nT nW 12) (by rw [lsX_12, List.length_map, List.length_range]; omega) (Or.inl rfl) (fun h => Or.inr (Or.inl ⟨h, rfl⟩))) wML_X5_184 wIM_Jx4a65c_add_9ea2d wSE_Jx4a65c_Jx4a65c_add_9ea2d wIN_Jx4a65c wCO_Jx4a65c_add_9ea2d (by decide) rfl ⟨by decide, by decide⟩ (by obtain ⟨_, _, h⟩ := hP.lobj (i := 12) (by decide); exact frec F h _ rfl) hS (fun q h => by rcases h with rfl | ⟨h1, rfl⟩ | h <;> first | exact o1 | exact o2 h1 | exact hA q (Nat.le_trans hS.1 h)) (fun q h => Or.inr (Or.inr h)) ⟨rfl, hLL, (fun z hz => by rw [lsX_12] at hz; obtain ⟨t, h1, rfl⟩ := List.mem_map.mp hz; exact el_q hP o3 (List.mem_range.mp h1)), ⟨⟨4, _, Or.inl rfl, he⟩, fun z => z.elim o4 (fun z => z.elim (fun z => o5 z.1 z.2) (fun z => absurd z (Nat.not_le.mpr hqH)))⟩⟩ rfl hl.1 (Nat.le_of_ble_eq_true rfl) dX5_issue_27 ⟨by decide, by decide⟩ (fun E ce q9 H1 locs1 hx9 _ _ _ _ _ => hx9.elim) (fun v H1 locs1 hv hk hS => ?_)
  obtain ⟨rfl, aA9, n9, hLL9, hn9, h9⟩ := hv
  have he := he.kept (hk.2 _ hqH (fun z => z.elim o4 (fun z => z.elim (fun z => o5 z.1 z.2) (fun z => absurd z (Nat.not_le.mpr hqH)))))
  have hP := hcl H1 aA9 n9 _ hLL9 (h9.elim Or.inl (fun z => Or.inr (Or.inl z))) (fun _ => h9.elim (fun z => z.2 ▸ o2 z.1) (fun z => hA _ (Nat.le_trans hS0.1 z))) hk (by simpa [ceO, fNew, up] using he)
  obtain ⟨ad', hd⟩ : ∃ ad', ad' = adN ad 10 nT s.heap.size := ⟨_, rfl⟩
  obtain ⟨σ', hs⟩ : ∃ σ', σ' = fNew σ nT so ho me co := ⟨_, rfl⟩
  rw [← hd, ← hs] at hP
  have e0 : ad 0 0 = ad' 0 0 := by rw [hd]; unfold adN; rw [if_neg (by omega)]
  have e1 : s.heap.size = ad' 10 nT := by rw [hd]; unfold adN; rw [if_pos ⟨rfl, rfl⟩]
  rw [e0, e1] at hl
  refine lv_pop hx hb dX5_issue_30 rfl ?_
  refine lv_aload_n hx hb dX5_issue_31 rfl (lv_at hl 1 rfl) ?_
  refine lv_dup hx hb dX5_issue_32 rfl ?_
  refine gX5 F (hP.main rfl) 7 (by decide) wFL_X5_113 (fun _ h9 => h9) (v := .int (σ' 27 0)) rfl dX5_issue_33 ?_
  refine lv_iload hx hb dX5_issue_36 (lv_at hl 5 rfl) ?_
  refine lv_iadd hx hb dX5_issue_38 ?_
  refine pX5 F hS (hP.main rfl) (hP.omain rfl) 7 (by decide) wFL_X5_113 (fun _ h9 => h9) rfl rfl rfl (by simp) dX5_issue_39 (fun H1 locs1 he1 z1 oq1 hS => ?_)
  have hP := hP.p27 rfl he1 oq1
  refine lv_aload hx hb dX5_issue_42 (lv_at hl 0 rfl) ?_
  refine gX2 F (hP.tick (Nat.lt_succ_self _)) 0 (by decide) wFL_X5_238 (fun _ h9 => h9) (v := .int (nI nT)) rfl dX5_issue_44 ?_
  exact kiret hx hb hr hlocks hS (by decide) (by decide) dX5_issue_47 (by subst hd; subst hs; rw [fNew_27] at hP; exact ⟨rfl, _, hP⟩)

