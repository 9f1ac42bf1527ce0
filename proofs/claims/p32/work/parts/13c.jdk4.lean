set_option maxHeartbeats 4000000 in
set_option maxRecDepth 100000 in
theorem cL_range (l : Launch) (G : GE) (A1 : Nat → Prop) (aL aA k cn : Nat) (mc : Int32) (hk : k ≤ cn) (hc : cn < 2 ^ 31) : KM l G A1 yJx4a65c_rangeCheckForAdd_d00df cJx4a65c_rangeCheckForAdd_d00df 2 none (rmL 1 0 0) [.ref aL, .int (nI k)] (fun H => va_at G.1 mcl (aL, .inr (1, [.int mc, .ref aA, .int (nI cn)])) H) (fun v _ => v = none) (fun _ _ => False) := by
  refine KM.of (by decide) (Nat.le_of_ble_eq_true rfl) ?_
  intro p e s m args below meth c F hP ls hl
  have hx := F.1.1
  have hb := F.1.2.1
  have hown := F.1.2.2.2.1
  have hts := F.1.2.2.2.2
  have hr := F.2.1
  have hlocks := F.2.2.1
  have hE := F.2.2.2.2.2.1
  have hA := F.2.2.2.2.2.2
  have hS : va_S A1 s.heap s.heap [] := va_S.rf
  have hl : lv_has ls 2 [(0, .ref aL), (1, .int (nI k))] := hl
  have hO := hP
  refine lv_iload_n hx hb dJx4a65c_rangeCheckForAdd_d00df_0 rfl (lv_at hl 1 rfl) ?_
  refine lv_aload_n hx hb dJx4a65c_rangeCheckForAdd_d00df_1 rfl (lv_at hl 0 rfl) ?_
  refine gJx4a65c F hO 2 (by decide) wFL_Jx4a65c_48 (fun _ h9 => h9) (v := .int (nI cn)) rfl dJx4a65c_rangeCheckForAdd_d00df_2 ?_
  refine lv_icmp_gt (tgt := 12) hx hb dJx4a65c_rangeCheckForAdd_d00df_5 (by decide) (fun c_5_1 => ?_) (fun c_5_1 => ?_)
  · exact absurd c_5_1 (nI_nlt hk hc)
  · refine lv_iload_n hx hb dJx4a65c_rangeCheckForAdd_d00df_8 rfl (lv_at hl 1 rfl) ?_
    refine lv_if_ge (tgt := 25) hx hb dJx4a65c_rangeCheckForAdd_d00df_9 (by decide) (fun c_9_2 => ?_) (fun c_9_2 => ?_)
    · exact kvret hx hb hr hlocks hS (by decide) (by decide) dJx4a65c_rangeCheckForAdd_d00df_25 (rfl)
    · exact absurd (nI_pos' (by omega)) c_9_2

theorem LL.old {G : GE} {aL aA n : Nat} {mc : Int32} {t : List Nat} {H H1 : Heap} (h : LL G aL aA n mc t H) (k : KF (fun q => H.size ≤ q) H H1) : LL G aL aA n mc t H1 := by
  obtain ⟨hO, h1, h2, h3⟩ := h
  refine ⟨atO hO k, h1, h2, ?_⟩
  rcases h3 with h3 | ⟨h4, h5, h6⟩
  · exact Or.inl h3
  · exact Or.inr ⟨h4, h5, atO h6 k⟩
set_option maxHeartbeats 4000000 in
set_option maxRecDepth 100000 in
theorem cL_addAt (l : Launch) (G : GE) (A1 : Nat → Prop) (aL aA n sz y k : Nat) (mc : Int32) (t : List Nat) (ht : t.length ≤ 100) (hAL : A1 aL) (hAA : n ≠ 0 → A1 aA) (hk : k ≤ t.length) : KM l G A1 yJx4a65c_add_7a177 cJx4a65c_add_7a177 5 none (rmL 7 1 200) [.ref aL, .int (nI k), .ref y] (fun H => H.size = sz ∧ LL G aL aA n mc t H ∧ (∀ x ∈ t, EL G A1 x H) ∧ EL G A1 y H) (fun v H => v = none ∧ ∃ aA' n', LL G aL aA' n' (mc + 1) (t.insertIdx k y) H ∧ n' ≠ 0 ∧ ((n ≠ 0 ∧ aA' = aA) ∨ sz ≤ aA')) (fun _ _ => False) := by
  refine KM.of (by decide) (Nat.le_of_ble_eq_true rfl) ?_
  intro p e s m args below meth c F hP ls hl
  have hx := F.1.1
  have hb := F.1.2.1
  have hown := F.1.2.2.2.1
  have hts := F.1.2.2.2.2
  have hr := F.2.1
  have hlocks := F.2.2.1
  have hE := F.2.2.2.2.2.1
  have hA := F.2.2.2.2.2.2
  have hS : va_S A1 s.heap s.heap [] := va_S.rf
  have hl : lv_has ls 5 [(0, .ref aL), (1, .int (nI k)), (2, .ref y)] := hl
  obtain ⟨hsz, hLL, hel, hy⟩ := hP
  have hO := hLL.1
  refine lv_aload_n hx hb dJx4a65c_add_7a177_0 rfl (lv_at hl 0 rfl) ?_
  refine lv_iload_n hx hb dJx4a65c_add_7a177_1 rfl (lv_at hl 1 rfl) ?_
  refine kcallV (n := 1) F (cL_range l G (fun q => s.heap.size ≤ q) aL aA k t.length mc hk (by omega)) wML_Jx4a65c_135 wIM_Jx4a65c_rangeCheckForAdd_d00df wSE_Jx4a65c_Jx4a65c_rangeCheckForAdd_d00df wIN_Jx4a65c wCO_Jx4a65c_rangeCheckForAdd_d00df (by decide) rfl ⟨by decide, by decide⟩ (frec F hO _ rfl) hS hA (fun q h => h) hO rfl hl.1 (Nat.le_of_ble_eq_true rfl) dJx4a65c_add_7a177_2 ⟨by decide, by decide⟩ (fun E ce q9 H1 locs1 hx9 _ _ _ _ _ => hx9.elim) (fun v H1 locs1 hv hk8 hS => ?_)
  subst hv
  have hLL := hLL.old hk8
  have hO := hLL.1
  refine lv_aload_n hx hb dJx4a65c_add_7a177_5 rfl (lv_at hl 0 rfl) ?_
  refine lv_dup hx hb dJx4a65c_add_7a177_6 rfl ?_
  refine gJx4a65c F hO 0 (by decide) wFL_Jx4a65c_63 (u_same (hts _ wSF_Jx4a65c_modCount)) (v := .int mc) rfl dJx4a65c_add_7a177_7 ?_
  refine lv_iconst (v := 1) hx hb dJx4a65c_add_7a177_10 (by decide) ?_
  refine lv_iadd hx hb dJx4a65c_add_7a177_11 ?_
  refine pJx4a65c F hS hO hAL 0 (by decide) wFL_Jx4a65c_63 (u_same (hts _ wSF_Jx4a65c_modCount)) rfl rfl rfl (by simp) dJx4a65c_add_7a177_12 (fun H5 locs1 hO z5 oq5 hS => ?_)
  have hLL : LL G aL aA n (mc + 1) t H5 := hLL.mod hO oq5
  have hO := hLL.1
  refine lv_aload_n hx hb dJx4a65c_add_7a177_15 rfl (lv_at hl 0 rfl) ?_
  refine gJx4a65c F hO 2 (by decide) wFL_Jx4a65c_48 (fun _ h9 => h9) (v := .int (nI t.length)) rfl dJx4a65c_add_7a177_16 ?_
  refine lv_dup hx hb dJx4a65c_add_7a177_19 rfl ?_
  refine lv_istore_n (lv' := [(3, .int (nI t.length)), (0, .ref aL), (1, .int (nI k)), (2, .ref y)]) hx hb dJx4a65c_add_7a177_20 rfl hl (by decide) rfl (fun ls hl => ?_)
  refine lv_aload_n hx hb dJx4a65c_add_7a177_21 rfl (lv_at hl 1 rfl) ?_
  refine gJx4a65c F hO 1 (by decide) wFL_Jx4a65c_9 (fun _ h9 => h9) (v := .ref aA) rfl dJx4a65c_add_7a177_22 ?_
  refine lv_dup hx hb dJx4a65c_add_7a177_25 rfl ?_
  refine lv_astore (lv' := [(4, .ref aA), (3, .int (nI t.length)), (0, .ref aL), (1, .int (nI k)), (2, .ref y)]) hx hb dJx4a65c_add_7a177_26 hl (by decide) rfl (fun ls hl => ?_)
  refine xlenLL F hS hLL dJx4a65c_add_7a177_28 ?_
  refine lv_icmp_ne (tgt := 38) hx hb dJx4a65c_add_7a177_29 (by decide) (fun c_29_1 => ?_) (fun c_29_1 => ?_)
  · obtain ⟨hn0, hne, hV⟩ : n ≠ 0 ∧ aA ≠ aL ∧ va_at G.1 mcl (aA, rArr (G.2.1 5) n (fun j => t[j]?)) H5 := by
      rcases hLL.2.2.2 with h | h
      · exact absurd (by rw [h.1, show t.length = 0 from by have := hLL.2.1; omega]) c_29_1
      · exact h
    have hlt : t.length < n := by
      have h1 := hLL.2.1
      have h2 : t.length ≠ n := fun e => c_29_1 (by rw [e])
      omega
    have hn200 := hLL.2.2.1
    have hAq := hAA hn0
    refine lv_aload hx hb dJx4a65c_add_7a177_38 (lv_at hl 0 rfl) ?_
    refine lv_iload_n hx hb dJx4a65c_add_7a177_40 rfl (lv_at hl 3 rfl) ?_
    refine lv_aload hx hb dJx4a65c_add_7a177_41 (lv_at hl 0 rfl) ?_
    refine lv_iload_n hx hb dJx4a65c_add_7a177_43 rfl (lv_at hl 3 rfl) ?_
    refine lv_iconst (v := 1) hx hb dJx4a65c_add_7a177_44 (by decide) ?_
    refine lv_iadd hx hb dJx4a65c_add_7a177_45 ?_
    refine W.eq (g2 := F0 m 46 ls [.int (nI (k + 1)), .ref aA, .int (nI k), .ref aA]) (congrArg (fun z => F0 m 46 ls [.int z, .ref aA, .int (nI k), .ref aA]) (nI_1 k)) ?_
    refine lv_iload_n hx hb dJx4a65c_add_7a177_46 rfl (lv_at hl 1 rfl) ?_
    refine lv_iload_n hx hb dJx4a65c_add_7a177_47 rfl (lv_at hl 3 rfl) ?_
    refine lv_isub hx hb dJx4a65c_add_7a177_48 ?_
    refine W.eq (g2 := F0 m 49 ls [.int (nI (t.length - k)), .int (nI (k + 1)), .ref aA, .int (nI k), .ref aA]) (congrArg (fun z => F0 m 49 ls [.int z, .int (nI (k + 1)), .ref aA, .int (nI k), .ref aA]) (pk_sub hk)) ?_
    refine va_copyM (E0 := "java/lang/Object") (E1 := "java/lang/Object") (ws := [(aA, rArr (G.2.1 5) n (fun j => t[j]?)), (aL, .inr (1, [.int (mc + 1), .ref aA, .int (nI t.length)]))]) (c0 := G.2.1 5) (c1 := G.2.1 5) (n0 := n) (n1 := n) (f := fun j => t[j]?) (g := fun j => t[j]?) hx hb (F.1.2.2.1.trans hl.1.symm) hown (hts _ wMA_Jx4a65c_112) (hts _ wNA_arraycopy) (hts _ wST_arraycopy) (hts _ wINs_J10) hE.1.1 (vat2 hV hO) (vD2 hne hAq hAL) hS 0 0 5 5 rfl rfl rfl rfl (nI_pos (by omega)) (nI_pos (by omega)) (nI_pos (by omega)) (by rw [nI_clamp (by omega), nI_clamp (by omega)]; omega) (by rw [nI_clamp (by omega), nI_clamp (by omega)]; omega) (fun i hi y9 hy9 => ((hel y9 (List.mem_of_getElem? hy9)).now hS).any hE) (by decide) (Nat.le_of_ble_eq_true rfl) dJx4a65c_add_7a177_49 (fun H7 locs1 hP2 hD2 hS => ?_)
    obtain ⟨hV, hO⟩ := P2 hP2
    rw [nI_clamp (by omega), nI_clamp (by omega), nI_clamp (by omega)] at hV
    refine lv_aload hx hb dJx4a65c_add_7a177_52 (lv_at hl 0 rfl) ?_
    refine lv_iload_n hx hb dJx4a65c_add_7a177_54 rfl (lv_at hl 3 rfl) ?_
    refine lv_aload_n hx hb dJx4a65c_add_7a177_55 rfl (lv_at hl 4 rfl) ?_
    refine xaast hx hb hE.1.1 hS hV hAq 5 rfl ((hy.now hS).any hE) rfl (k := k) (by omega) (by omega) dJx4a65c_add_7a177_56 (fun H8 locs1 hV z4 oq4 hS => ?_)
    have hO := hO.kept (oq4 _ hne.symm)
    rw [lf_ins t y k hk] at hV
    refine lv_aload_n hx hb dJx4a65c_add_7a177_57 rfl (lv_at hl 2 rfl) ?_
    refine lv_iload_n hx hb dJx4a65c_add_7a177_58 rfl (lv_at hl 1 rfl) ?_
    refine lv_iconst (v := 1) hx hb dJx4a65c_add_7a177_59 (by decide) ?_
    refine lv_iadd hx hb dJx4a65c_add_7a177_60 ?_
    refine pJx4a65c F hS hO hAL 2 (by decide) wFL_Jx4a65c_48 (fun _ h9 => h9) rfl rfl rfl (by simp) dJx4a65c_add_7a177_61 (fun H6 locs1 hO z5 oq5 hS => ?_)
    have hO : va_at G.1 mcl (aL, .inr (1, [.int (mc + 1), .ref aA, .int ((nI t.length) + 1)])) H6 := hO
    have hV := hV.kept (oq5 _ hne)
    exact kvret hx hb hr hlocks hS (by decide) (by decide) dJx4a65c_add_7a177_64 (⟨rfl, ⟨aA, n, ⟨by rw [show (t.insertIdx k y).length = t.length + 1 from by rw [List.length_insertIdx, if_pos hk], ← nI_1]; exact hO, by rw [show (t.insertIdx k y).length = t.length + 1 from by rw [List.length_insertIdx, if_pos hk]]; omega, hn200, Or.inr ⟨hn0, hne, hV⟩⟩, hn0, Or.inl ⟨hn0, rfl⟩⟩⟩)
  · refine lv_aload_n hx hb dJx4a65c_add_7a177_32 rfl (lv_at hl 2 rfl) ?_
    obtain rfl : t.length = n := by
      by_cases e : t.length = n
      · exact e
      · exact absurd c_29_1 (fun h => e ((nI_eq (by omega) (by have := hLL.2.2.1; omega)).mp h))
    have hz5 : s.heap.size ≤ H5.size := hS.1
    refine kcallV (n := 0) F (cL_growE l G A1 aL aA H5.size (mc + 1) t ht hAL hAA) wML_Jx4a65c_129 wIM_Jx4a65c_grow_d5877 wSE_Jx4a65c_Jx4a65c_grow_d5877 wIN_Jx4a65c wCO_Jx4a65c_grow_d5877 (by decide) rfl ⟨by decide, by decide⟩ (frec F hO _ rfl) hS (fun _ h => h) (fun q h => hA q (Nat.le_trans hS.1 h)) ⟨rfl, hLL, fun x hx => (hel x hx).now hS⟩ rfl hl.1 (Nat.le_of_ble_eq_true rfl) dJx4a65c_add_7a177_33 ⟨by decide, by decide⟩ (fun E ce q9 H1 locs1 hx9 _ _ _ _ _ => hx9.elim) (fun v H1 locs1 hv hk8 hS => ?_)
    obtain ⟨q, n', rfl, hq, hnn, hn2, hO, hV⟩ := hv
    have hAq : A1 q := hA q (by omega)
    have hneq : q ≠ aL := fun e => absurd hLL.1.lt (by rw [← e]; omega)
    refine lv_astore (lv' := [(4, .ref q), (3, .int (nI t.length)), (0, .ref aL), (1, .int (nI k)), (2, .ref y)]) hx hb dJx4a65c_add_7a177_36 hl (by decide) rfl (fun ls hl => ?_)
    refine lv_aload hx hb dJx4a65c_add_7a177_38 (lv_at hl 0 rfl) ?_
    refine lv_iload_n hx hb dJx4a65c_add_7a177_40 rfl (lv_at hl 3 rfl) ?_
    refine lv_aload hx hb dJx4a65c_add_7a177_41 (lv_at hl 0 rfl) ?_
    refine lv_iload_n hx hb dJx4a65c_add_7a177_43 rfl (lv_at hl 3 rfl) ?_
    refine lv_iconst (v := 1) hx hb dJx4a65c_add_7a177_44 (by decide) ?_
    refine lv_iadd hx hb dJx4a65c_add_7a177_45 ?_
    refine W.eq (g2 := F0 m 46 ls [.int (nI (k + 1)), .ref q, .int (nI k), .ref q]) (congrArg (fun z => F0 m 46 ls [.int z, .ref q, .int (nI k), .ref q]) (nI_1 k)) ?_
    refine lv_iload_n hx hb dJx4a65c_add_7a177_46 rfl (lv_at hl 1 rfl) ?_
    refine lv_iload_n hx hb dJx4a65c_add_7a177_47 rfl (lv_at hl 3 rfl) ?_
    refine lv_isub hx hb dJx4a65c_add_7a177_48 ?_
    refine W.eq (g2 := F0 m 49 ls [.int (nI (t.length - k)), .int (nI (k + 1)), .ref q, .int (nI k), .ref q]) (congrArg (fun z => F0 m 49 ls [.int z, .int (nI (k + 1)), .ref q, .int (nI k), .ref q]) (pk_sub hk)) ?_
    refine va_copyM (E0 := "java/lang/Object") (E1 := "java/lang/Object") (ws := [(q, rArr (G.2.1 5) n' (fun j => t[j]?)), (aL, .inr (1, [.int (mc + 1), .ref q, .int (nI t.length)]))]) (c0 := G.2.1 5) (c1 := G.2.1 5) (n0 := n') (n1 := n') (f := fun j => t[j]?) (g := fun j => t[j]?) hx hb (F.1.2.2.1.trans hl.1.symm) hown (hts _ wMA_Jx4a65c_112) (hts _ wNA_arraycopy) (hts _ wST_arraycopy) (hts _ wINs_J10) hE.1.1 (vat2 hV hO) (vD2 hneq hAq hAL) hS 0 0 5 5 rfl rfl rfl rfl (nI_pos (by omega)) (nI_pos (by omega)) (nI_pos (by omega)) (by rw [nI_clamp (by omega), nI_clamp (by omega)]; omega) (by rw [nI_clamp (by omega), nI_clamp (by omega)]; omega) (fun i hi y9 hy9 => ((hel y9 (List.mem_of_getElem? hy9)).now hS).any hE) (by decide) (Nat.le_of_ble_eq_true rfl) dJx4a65c_add_7a177_49 (fun H7 locs1 hP2 hD2 hS => ?_)
    obtain ⟨hV, hO⟩ := P2 hP2
    rw [nI_clamp (by omega), nI_clamp (by omega), nI_clamp (by omega)] at hV
    refine lv_aload hx hb dJx4a65c_add_7a177_52 (lv_at hl 0 rfl) ?_
    refine lv_iload_n hx hb dJx4a65c_add_7a177_54 rfl (lv_at hl 3 rfl) ?_
    refine lv_aload_n hx hb dJx4a65c_add_7a177_55 rfl (lv_at hl 4 rfl) ?_
    refine xaast hx hb hE.1.1 hS hV hAq 5 rfl ((hy.now hS).any hE) rfl (k := k) (by omega) (by omega) dJx4a65c_add_7a177_56 (fun H8 locs1 hV z4 oq4 hS => ?_)
    have hO := hO.kept (oq4 _ hneq.symm)
    rw [lf_ins t y k hk] at hV
    refine lv_aload_n hx hb dJx4a65c_add_7a177_57 rfl (lv_at hl 2 rfl) ?_
    refine lv_iload_n hx hb dJx4a65c_add_7a177_58 rfl (lv_at hl 1 rfl) ?_
    refine lv_iconst (v := 1) hx hb dJx4a65c_add_7a177_59 (by decide) ?_
    refine lv_iadd hx hb dJx4a65c_add_7a177_60 ?_
    refine pJx4a65c F hS hO hAL 2 (by decide) wFL_Jx4a65c_48 (fun _ h9 => h9) rfl rfl rfl (by simp) dJx4a65c_add_7a177_61 (fun H6 locs1 hO z5 oq5 hS => ?_)
    have hO : va_at G.1 mcl (aL, .inr (1, [.int (mc + 1), .ref q, .int ((nI t.length) + 1)])) H6 := hO
    have hV := hV.kept (oq5 _ hneq)
    exact kvret hx hb hr hlocks hS (by decide) (by decide) dJx4a65c_add_7a177_64 (⟨rfl, ⟨q, n', ⟨by rw [show (t.insertIdx k y).length = t.length + 1 from by rw [List.length_insertIdx, if_pos hk], ← nI_1]; exact hO, by rw [show (t.insertIdx k y).length = t.length + 1 from by rw [List.length_insertIdx, if_pos hk]]; omega, hn2, Or.inr ⟨by omega, hneq, hV⟩⟩, by omega, Or.inr (by omega)⟩⟩)

set_option maxHeartbeats 4000000 in
set_option maxRecDepth 100000 in
theorem cL_fastRemove (l : Launch) (G : GE) (A1 : Nat → Prop) (aL aA n k : Nat) (mc : Int32) (t : List Nat) (hAL : A1 aL) (hAA : n ≠ 0 → A1 aA) (hk : k < t.length) : KM l G A1 yJx4a65c_fastRemove_b59b0 cJx4a65c_fastRemove_b59b0 4 none (rmL 2 0 0) [.ref aL, .ref aA, .int (nI k)] (fun H => LL G aL aA n mc t H ∧ (∀ x ∈ t, EL G A1 x H)) (fun v H => v = none ∧ LL G aL aA n (mc + 1) (t.eraseIdx k) H) (fun _ _ => False) := by
  refine KM.of (by decide) (Nat.le_of_ble_eq_true rfl) ?_
  intro p e s m args below meth c F hP ls hl
  have hx := F.1.1
  have hb := F.1.2.1
  have hown := F.1.2.2.2.1
  have hts := F.1.2.2.2.2
  have hr := F.2.1
  have hlocks := F.2.2.1
  have hE := F.2.2.2.2.2.1
  have hA := F.2.2.2.2.2.2
  have hS : va_S A1 s.heap s.heap [] := va_S.rf
  have hl : lv_has ls 4 [(0, .ref aL), (1, .ref aA), (2, .int (nI k))] := hl
  obtain ⟨hLL, hel⟩ := hP
  have hO := hLL.1
  have hn0 : n ≠ 0 := by have := hLL.2.1; omega
  have hAq := hAA hn0
  have hn200 := hLL.2.2.1
  have hln := hLL.2.1
  refine lv_aload_n hx hb dJx4a65c_fastRemove_b59b0_0 rfl (lv_at hl 0 rfl) ?_
  refine lv_dup hx hb dJx4a65c_fastRemove_b59b0_1 rfl ?_
  refine gJx4a65c F hO 0 (by decide) wFL_Jx4a65c_63 (u_same (hts _ wSF_Jx4a65c_modCount)) (v := .int mc) rfl dJx4a65c_fastRemove_b59b0_2 ?_
  refine lv_iconst (v := 1) hx hb dJx4a65c_fastRemove_b59b0_5 (by decide) ?_
  refine lv_iadd hx hb dJx4a65c_fastRemove_b59b0_6 ?_
  refine pJx4a65c F hS hO hAL 0 (by decide) wFL_Jx4a65c_63 (u_same (hts _ wSF_Jx4a65c_modCount)) rfl rfl rfl (by simp) dJx4a65c_fastRemove_b59b0_7 (fun H5 locs1 hO z5 oq5 hS => ?_)
  have hLL : LL G aL aA n (mc + 1) t H5 := hLL.mod hO oq5
  have hO := hLL.1
  obtain ⟨-, hne, hV⟩ : n ≠ 0 ∧ aA ≠ aL ∧ va_at G.1 mcl (aA, rArr (G.2.1 5) n (fun j => t[j]?)) H5 := by
    rcases hLL.2.2.2 with h | h
    · exact absurd h.1 hn0
    · exact h
  refine lv_aload_n hx hb dJx4a65c_fastRemove_b59b0_10 rfl (lv_at hl 0 rfl) ?_
  refine gJx4a65c F hO 2 (by decide) wFL_Jx4a65c_48 (fun _ h9 => h9) (v := .int (nI t.length)) rfl dJx4a65c_fastRemove_b59b0_11 ?_
  refine lv_iconst (v := 1) hx hb dJx4a65c_fastRemove_b59b0_14 (by decide) ?_
  refine lv_isub hx hb dJx4a65c_fastRemove_b59b0_15 ?_
  refine W.eq (g2 := F0 m 16 ls [.int (nI (t.length - 1))]) (congrArg (fun z => F0 m 16 ls [.int z]) (by rw [show (1 : Int32) = nI 1 from rfl, pk_sub (by omega)])) ?_
  refine lv_dup hx hb dJx4a65c_fastRemove_b59b0_16 rfl ?_
  refine lv_istore_n (lv' := [(3, .int (nI (t.length - 1))), (0, .ref aL), (1, .ref aA), (2, .int (nI k))]) hx hb dJx4a65c_fastRemove_b59b0_17 rfl hl (by decide) rfl (fun ls hl => ?_)
  refine lv_iload_n hx hb dJx4a65c_fastRemove_b59b0_18 rfl (lv_at hl 3 rfl) ?_
  refine lv_icmp_le (tgt := 34) hx hb dJx4a65c_fastRemove_b59b0_19 (by decide) (fun c_19_1 => ?_) (fun c_19_1 => ?_)
  · have hk1 : k = t.length - 1 := by have := (nI_leI (by omega) (by omega)).mp c_19_1; omega
    refine lv_aload_n hx hb dJx4a65c_fastRemove_b59b0_34 rfl (lv_at hl 2 rfl) ?_
    refine lv_aload_n hx hb dJx4a65c_fastRemove_b59b0_35 rfl (lv_at hl 1 rfl) ?_
    refine lv_iload_n hx hb dJx4a65c_fastRemove_b59b0_36 rfl (lv_at hl 0 rfl) ?_
    refine lv_dup_x1 hx hb dJx4a65c_fastRemove_b59b0_37 rfl rfl ?_
    refine pJx4a65c F hS hO hAL 2 (by decide) wFL_Jx4a65c_48 (fun _ h9 => h9) rfl rfl rfl (by simp) dJx4a65c_fastRemove_b59b0_38 (fun H6 locs1 hO z5 oq5 hS => ?_)
    have hO : va_at G.1 mcl (aL, .inr (1, [.int (mc + 1), .ref aA, .int (nI (t.length - 1))])) H6 := hO
    have hV := hV.kept (oq5 _ hne)
    refine lv_null hx hb dJx4a65c_fastRemove_b59b0_41 ?_
    refine xaastN hx hb hE.1.1 hS hV hAq 5 rfl rfl (k := t.length - 1) (by omega) (by omega) dJx4a65c_fastRemove_b59b0_42 (fun H8 locs1 hV z4 oq4 hS => ?_)
    have hO := hO.kept (oq4 _ hne.symm)
    rw [lf_rem0 t (by omega)] at hV
    rw [← hk1] at hV
    exact kvret hx hb hr hlocks hS (by decide) (by decide) dJx4a65c_fastRemove_b59b0_43 (⟨rfl, by rw [List.length_eraseIdx_of_lt hk]; exact hO, by rw [List.length_eraseIdx_of_lt hk]; omega, hn200, Or.inr ⟨hn0, hne, hV⟩⟩)
  · have hk1 : k < t.length - 1 := by
      rcases Nat.lt_or_ge k (t.length - 1) with q | q
      · exact q
      · exact absurd (nI_le q (by omega)) c_19_1
    refine lv_aload_n hx hb dJx4a65c_fastRemove_b59b0_22 rfl (lv_at hl 2 rfl) ?_
    refine lv_iload_n hx hb dJx4a65c_fastRemove_b59b0_23 rfl (lv_at hl 3 rfl) ?_
    refine lv_iconst (v := 1) hx hb dJx4a65c_fastRemove_b59b0_24 (by decide) ?_
    refine lv_iadd hx hb dJx4a65c_fastRemove_b59b0_25 ?_
    refine W.eq (g2 := F0 m 26 ls [.int (nI (k + 1)), .ref aA]) (congrArg (fun z => F0 m 26 ls [.int z, .ref aA]) (nI_1 k)) ?_
    refine lv_aload_n hx hb dJx4a65c_fastRemove_b59b0_26 rfl (lv_at hl 2 rfl) ?_
    refine lv_iload_n hx hb dJx4a65c_fastRemove_b59b0_27 rfl (lv_at hl 3 rfl) ?_
    refine lv_iload_n hx hb dJx4a65c_fastRemove_b59b0_28 rfl (lv_at hl 0 rfl) ?_
    refine lv_iload_n hx hb dJx4a65c_fastRemove_b59b0_29 rfl (lv_at hl 3 rfl) ?_
    refine lv_isub hx hb dJx4a65c_fastRemove_b59b0_30 ?_
    refine W.eq (g2 := F0 m 31 ls [.int (nI (t.length - 1 - k)), .int (nI k), .ref aA, .int (nI (k + 1)), .ref aA]) (congrArg (fun z => F0 m 31 ls [.int z, .int (nI k), .ref aA, .int (nI (k + 1)), .ref aA]) (pk_sub (by omega))) ?_
    refine va_copyM (E0 := "java/lang/Object") (E1 := "java/lang/Object") (ws := [(aA, rArr (G.2.1 5) n (fun j => t[j]?)), (aL, .inr (1, [.int (mc + 1), .ref aA, .int (nI t.length)]))]) (c0 := G.2.1 5) (c1 := G.2.1 5) (n0 := n) (n1 := n) (f := fun j => t[j]?) (g := fun j => t[j]?) hx hb (F.1.2.2.1.trans hl.1.symm) hown (hts _ wMA_Jx4a65c_112) (hts _ wNA_arraycopy) (hts _ wST_arraycopy) (hts _ wINs_J10) hE.1.1 (vat2 hV hO) (vD2 hne hAq hAL) hS 0 0 5 5 rfl rfl rfl rfl (nI_pos (by omega)) (nI_pos (by omega)) (nI_pos (by omega)) (by rw [nI_clamp (by omega), nI_clamp (by omega)]; omega) (by rw [nI_clamp (by omega), nI_clamp (by omega)]; omega) (fun i hi y9 hy9 => ((hel y9 (List.mem_of_getElem? hy9)).now hS).any hE) (by decide) (Nat.le_of_ble_eq_true rfl) dJx4a65c_fastRemove_b59b0_31 (fun H7 locs1 hP2 hD2 hS => ?_)
    obtain ⟨hV, hO⟩ := P2 hP2
    rw [nI_clamp (by omega), nI_clamp (by omega), nI_clamp (by omega)] at hV
    refine lv_aload_n hx hb dJx4a65c_fastRemove_b59b0_34 rfl (lv_at hl 2 rfl) ?_
    refine lv_aload_n hx hb dJx4a65c_fastRemove_b59b0_35 rfl (lv_at hl 1 rfl) ?_
    refine lv_iload_n hx hb dJx4a65c_fastRemove_b59b0_36 rfl (lv_at hl 0 rfl) ?_
    refine lv_dup_x1 hx hb dJx4a65c_fastRemove_b59b0_37 rfl rfl ?_
    refine pJx4a65c F hS hO hAL 2 (by decide) wFL_Jx4a65c_48 (fun _ h9 => h9) rfl rfl rfl (by simp) dJx4a65c_fastRemove_b59b0_38 (fun H6 locs1 hO z5 oq5 hS => ?_)
    have hO : va_at G.1 mcl (aL, .inr (1, [.int (mc + 1), .ref aA, .int (nI (t.length - 1))])) H6 := hO
    have hV := hV.kept (oq5 _ hne)
    refine lv_null hx hb dJx4a65c_fastRemove_b59b0_41 ?_
    refine xaastN hx hb hE.1.1 hS hV hAq 5 rfl rfl (k := t.length - 1) (by omega) (by omega) dJx4a65c_fastRemove_b59b0_42 (fun H8 locs1 hV z4 oq4 hS => ?_)
    have hO := hO.kept (oq4 _ hne.symm)
    rw [lf_rem t k hk] at hV
    exact kvret hx hb hr hlocks hS (by decide) (by decide) dJx4a65c_fastRemove_b59b0_43 (⟨rfl, by rw [List.length_eraseIdx_of_lt hk]; exact hO, by rw [List.length_eraseIdx_of_lt hk]; omega, hn200, Or.inr ⟨hn0, hne, hV⟩⟩)

set_option maxHeartbeats 4000000 in
set_option maxRecDepth 100000 in
theorem cL_remove (l : Launch) (G : GE) (A1 : Nat → Prop) (aL aA n k : Nat) (mc : Int32) (t : List Nat) (hAL : A1 aL) (hAA : n ≠ 0 → A1 aA) (y : Nat) (hy : t[k]? = some y) : KM l G A1 yJx4a65c_remove_915e3 cJx4a65c_remove_915e3 4 (some (.object "java/lang/Object")) (rmL 3 0 0) [.ref aL, .int (nI k)] (fun H => LL G aL aA n mc t H ∧ (∀ x ∈ t, EL G A1 x H)) (fun v H => v = some (.ref y) ∧ LL G aL aA n (mc + 1) (t.eraseIdx k) H) (fun _ _ => False) := by
  refine KM.of (by decide) (Nat.le_of_ble_eq_true rfl) ?_
  intro p e s m args below meth c F hP ls hl
  have hx := F.1.1
  have hb := F.1.2.1
  have hown := F.1.2.2.2.1
  have hts := F.1.2.2.2.2
  have hr := F.2.1
  have hlocks := F.2.2.1
  have hE := F.2.2.2.2.2.1
  have hA := F.2.2.2.2.2.2
  have hS : va_S A1 s.heap s.heap [] := va_S.rf
  have hl : lv_has ls 4 [(0, .ref aL), (1, .int (nI k))] := hl
  have hk : k < t.length := (List.getElem?_eq_some_iff.mp hy).1
  obtain ⟨hLL, hel⟩ := hP
  have hO := hLL.1
  have hn0 : n ≠ 0 := by have := hLL.2.1; omega
  have hAq := hAA hn0
  have hn200 := hLL.2.2.1
  have hln := hLL.2.1
  refine lv_iload_n hx hb dJx4a65c_remove_915e3_0 rfl (lv_at hl 1 rfl) ?_
  refine lv_aload_n hx hb dJx4a65c_remove_915e3_1 rfl (lv_at hl 0 rfl) ?_
  refine gJx4a65c F hO 2 (by decide) wFL_Jx4a65c_48 (fun _ h9 => h9) (v := .int (nI t.length)) rfl dJx4a65c_remove_915e3_2 ?_
  refine kcallS (n := 2) F (cJ_checkIndex2 l G (fun q => s.heap.size ≤ q) k t.length hk (by omega)) wML_Jx4a65c_118 wST_J15_checkIndex_7cf53 wIN_J15 wCO_J15_checkIndex_7cf53 (by decide) rfl ⟨by decide, by decide⟩ hS hA (fun q h => h) trivial rfl hl.1 (Nat.le_of_ble_eq_true rfl) dJx4a65c_remove_915e3_5 ⟨by decide, by decide⟩ (fun E ce q9 H1 locs1 hx9 _ _ _ _ _ => hx9.elim) (fun v H1 locs1 hv hk8 hS => ?_)
  subst hv
  have hLL := hLL.old hk8
  have hO := hLL.1
  obtain ⟨-, hne, hV⟩ : n ≠ 0 ∧ aA ≠ aL ∧ va_at G.1 mcl (aA, rArr (G.2.1 5) n (fun j => t[j]?)) H1 := by
    rcases hLL.2.2.2 with h | h
    · exact absurd h.1 hn0
    · exact h
  refine lv_pop hx hb dJx4a65c_remove_915e3_8 rfl ?_
  refine lv_aload_n hx hb dJx4a65c_remove_915e3_9 rfl (lv_at hl 0 rfl) ?_
  refine gJx4a65c F hO 1 (by decide) wFL_Jx4a65c_9 (fun _ h9 => h9) (v := .ref aA) rfl dJx4a65c_remove_915e3_10 ?_
  refine lv_astore_n (lv' := [(2, .ref aA), (0, .ref aL), (1, .int (nI k))]) hx hb dJx4a65c_remove_915e3_13 rfl hl (by decide) rfl (fun ls hl => ?_)
  refine lv_aload_n hx hb dJx4a65c_remove_915e3_14 rfl (lv_at hl 0 rfl) ?_
  refine lv_iload_n hx hb dJx4a65c_remove_915e3_15 rfl (lv_at hl 2 rfl) ?_
  refine xaald hx hb hE.1.1 hV 5 rfl rfl (by omega) (by omega) hy dJx4a65c_remove_915e3_16 ?_
  refine lv_astore_n (lv' := [(3, .ref y), (2, .ref aA), (0, .ref aL), (1, .int (nI k))]) hx hb dJx4a65c_remove_915e3_17 rfl hl (by decide) rfl (fun ls hl => ?_)
  refine lv_aload_n hx hb dJx4a65c_remove_915e3_18 rfl (lv_at hl 2 rfl) ?_
  refine lv_aload_n hx hb dJx4a65c_remove_915e3_19 rfl (lv_at hl 1 rfl) ?_
  refine lv_iload_n hx hb dJx4a65c_remove_915e3_20 rfl (lv_at hl 3 rfl) ?_
  refine kcallV (n := 2) F (cL_fastRemove l G A1 aL aA n k mc t hAL hAA hk) wML_Jx4a65c_144 wIM_Jx4a65c_fastRemove_b59b0 wSE_Jx4a65c_Jx4a65c_fastRemove_b59b0 wIN_Jx4a65c wCO_Jx4a65c_fastRemove_b59b0 (by decide) rfl ⟨by decide, by decide⟩ (frec F hO _ rfl) hS (fun _ h => h) (fun q h => hA q (Nat.le_trans hS.1 h)) ⟨hLL, fun x hx => (hel x hx).now hS⟩ rfl hl.1 (Nat.le_of_ble_eq_true rfl) dJx4a65c_remove_915e3_21 ⟨by decide, by decide⟩ (fun E ce q9 H1 locs1 hx9 _ _ _ _ _ => hx9.elim) (fun v H1 locs1 hv hk8 hS => ?_)
  obtain ⟨rfl, hR⟩ := hv
  refine lv_aload_n hx hb dJx4a65c_remove_915e3_24 rfl (lv_at hl 0 rfl) ?_
  exact karet hx hb hr hlocks hS (by decide) (by decide) dJx4a65c_remove_915e3_25 (⟨rfl, hR⟩)

/-- while clear() runs: the first i places are null -/
def CLR (G : GE) (aL aA n : Nat) (mc : Int32) (L i : Nat) (t : List Nat) (H : Heap) : Prop :=
  va_at G.1 mcl (aL, .inr (1, [.int mc, .ref aA, .int 0])) H ∧ L ≤ n ∧ n ≤ 200 ∧ ((n = 0 ∧ aA = G.2.2.1) ∨ (n ≠ 0 ∧ aA ≠ aL ∧ va_at G.1 mcl (aA, rArr (G.2.1 5) n (fun j => if j < i then none else t[j]?)) H))
theorem lf_clr (t : List Nat) (i : Nat) : va_up (fun j => if j < i then none else t[j]?) i none = fun j => if j < i + 1 then none else t[j]? := by
  funext j
  simp only [va_up]
  by_cases h : j = i
  · rw [if_pos h, if_pos (by omega)]
  · rw [if_neg h]
    by_cases h2 : j < i
    · rw [if_pos h2, if_pos (by omega)]
    · rw [if_neg h2, if_neg (by omega)]
theorem CLR.end {G : GE} {aL aA n : Nat} {mc : Int32} {t : List Nat} {H : Heap} (h : CLR G aL aA n mc t.length t.length t H) : LL G aL aA n mc [] H := by
  obtain ⟨h1, h2, h3, h4⟩ := h
  refine ⟨h1, Nat.zero_le _, h3, ?_⟩
  rcases h4 with h4 | ⟨h5, h6, h7⟩
  · exact Or.inl h4
  · refine Or.inr ⟨h5, h6, ?_⟩
    have e : (fun j => if j < t.length then none else t[j]?) = fun j => ([] : List Nat)[j]? := by
      funext j
      by_cases h : j < t.length
      · rw [if_pos h]; rfl
      · rw [if_neg h, List.getElem?_eq_none (by omega)]; rfl
    rw [e] at h7
    exact h7
set_option maxHeartbeats 4000000 in
set_option maxRecDepth 100000 in
theorem cL_clear (l : Launch) (G : GE) (A1 : Nat → Prop) (aL aA n : Nat) (mc : Int32) (t : List Nat) (hAL : A1 aL) (hAA : n ≠ 0 → A1 aA) : KM l G A1 yJx4a65c_clear_da8c8 cJx4a65c_clear_da8c8 4 none (rmL 1 0 0) [.ref aL] (fun H => LL G aL aA n mc t H) (fun v H => v = none ∧ LL G aL aA n (mc + 1) [] H) (fun _ _ => False) := by
  refine KM.of (by decide) (Nat.le_of_ble_eq_true rfl) ?_
  intro p e s m args below meth c F hP ls hl
  have hx := F.1.1
  have hb := F.1.2.1
  have hown := F.1.2.2.2.1
  have hts := F.1.2.2.2.2
  have hr := F.2.1
  have hlocks := F.2.2.1
  have hE := F.2.2.2.2.2.1
  have hA := F.2.2.2.2.2.2
  have hS : va_S A1 s.heap s.heap [] := va_S.rf
  have hl : lv_has ls 4 [(0, .ref aL)] := hl
  have hLL := hP
  have hO := hLL.1
  have hn200 := hLL.2.2.1
  have hln := hLL.2.1
  refine lv_aload_n hx hb dJx4a65c_clear_da8c8_0 rfl (lv_at hl 0 rfl) ?_
  refine lv_dup hx hb dJx4a65c_clear_da8c8_1 rfl ?_
  refine gJx4a65c F hO 0 (by decide) wFL_Jx4a65c_63 (u_same (hts _ wSF_Jx4a65c_modCount)) (v := .int mc) rfl dJx4a65c_clear_da8c8_2 ?_
  refine lv_iconst (v := 1) hx hb dJx4a65c_clear_da8c8_5 (by decide) ?_
  refine lv_iadd hx hb dJx4a65c_clear_da8c8_6 ?_
  refine pJx4a65c F hS hO hAL 0 (by decide) wFL_Jx4a65c_63 (u_same (hts _ wSF_Jx4a65c_modCount)) rfl rfl rfl (by simp) dJx4a65c_clear_da8c8_7 (fun H5 locs1 hO z5 oq5 hS => ?_)
  have hLL : LL G aL aA n (mc + 1) t H5 := hLL.mod hO oq5
  have hO := hLL.1
  refine lv_aload_n hx hb dJx4a65c_clear_da8c8_10 rfl (lv_at hl 0 rfl) ?_
  refine gJx4a65c F hO 1 (by decide) wFL_Jx4a65c_9 (fun _ h9 => h9) (v := .ref aA) rfl dJx4a65c_clear_da8c8_11 ?_
  refine lv_astore_n (lv' := [(1, .ref aA), (0, .ref aL)]) hx hb dJx4a65c_clear_da8c8_14 rfl hl (by decide) rfl (fun ls hl => ?_)
  refine lv_aload_n hx hb dJx4a65c_clear_da8c8_15 rfl (lv_at hl 1 rfl) ?_
  refine gJx4a65c F hO 2 (by decide) wFL_Jx4a65c_48 (fun _ h9 => h9) (v := .int (nI t.length)) rfl dJx4a65c_clear_da8c8_16 ?_
  refine lv_istore_n (lv' := [(2, .int (nI t.length)), (1, .ref aA), (0, .ref aL)]) hx hb dJx4a65c_clear_da8c8_19 rfl hl (by decide) rfl (fun ls hl => ?_)
  refine lv_aload_n hx hb dJx4a65c_clear_da8c8_20 rfl (lv_at hl 2 rfl) ?_
  refine lv_iconst (v := 0) hx hb dJx4a65c_clear_da8c8_21 (by decide) ?_
  refine lv_dup_x1 hx hb dJx4a65c_clear_da8c8_22 rfl rfl ?_
  refine pJx4a65c F hS hO hAL 2 (by decide) wFL_Jx4a65c_48 (fun _ h9 => h9) rfl rfl rfl (by simp) dJx4a65c_clear_da8c8_23 (fun H6 locs1 hO z5 oq5 hS => ?_)
  have hC : CLR G aL aA n (mc + 1) t.length 0 t H6 := ⟨hO, hLL.2.1, hLL.2.2.1, hLL.2.2.2.imp_right (fun h => ⟨h.1, h.2.1, (h.2.2.kept (oq5 _ h.2.1))⟩)⟩
  refine lv_istore_n (lv' := [(3, .int 0), (2, .int (nI t.length)), (1, .ref aA), (0, .ref aL)]) hx hb dJx4a65c_clear_da8c8_26 rfl hl (by decide) rfl (fun ls hl => ?_)
  have L27 : ∀ (n9 : Nat) (i : Nat) (h1 : i ≤ t.length) (h2 : t.length < i + n9) (H : Heap) (locs : List Loc) (ls : Array Slot), va_S A1 s.heap H locs → CLR G aL aA n (mc + 1) t.length i t H → lv_has ls 4 [(3, .int (nI i)), (2, .int (nI t.length)), (1, .ref aA), (0, .ref aL)] → W p l e (rmL 1 0 0) s m args below meth c H locs 0 0 (KE below A1 (fun v H => v = none ∧ LL G aL aA n (mc + 1) [] H) (fun _ _ => False) args s (rmL 1 0 0)) (F0 m 27 ls []) := by
    intro n9
    induction n9 with
    | zero =>
      intro i h1 h2 H locs ls hS hC hl
      exact absurd True.intro (by omega)
    | succ n9 ih27 =>
      intro i h1 h2 H locs ls hS hC hl
      refine lv_iload_n hx hb dJx4a65c_clear_da8c8_27 rfl (lv_at hl 0 rfl) ?_
      refine lv_iload_n hx hb dJx4a65c_clear_da8c8_28 rfl (lv_at hl 1 rfl) ?_
      refine lv_icmp_ge (tgt := 42) hx hb dJx4a65c_clear_da8c8_29 (by decide) (fun c_29_1 => ?_) (fun c_29_1 => ?_)
      · obtain rfl : i = t.length := by
          rcases Nat.lt_or_ge i t.length with q | q
          · exact absurd c_29_1 (nI_ge q (by omega))
          · omega
        exact kvret hx hb hr hlocks hS (by decide) (by decide) dJx4a65c_clear_da8c8_42 (⟨rfl, hC.end⟩)
      · have hi : i < t.length := by
          rcases Nat.lt_or_ge i t.length with q | q
          · exact q
          · exact absurd (nI_le q (by omega)) c_29_1
        obtain ⟨hO, hLn, hn200, hcase⟩ := hC
        obtain ⟨hn0, hne, hV⟩ : n ≠ 0 ∧ aA ≠ aL ∧ va_at G.1 mcl (aA, rArr (G.2.1 5) n (fun j => if j < i then none else t[j]?)) H := by
          rcases hcase with h | h
          · omega
          · exact h
        refine lv_aload_n hx hb dJx4a65c_clear_da8c8_32 rfl (lv_at hl 2 rfl) ?_
        refine lv_iload_n hx hb dJx4a65c_clear_da8c8_33 rfl (lv_at hl 0 rfl) ?_
        refine lv_null hx hb dJx4a65c_clear_da8c8_34 ?_
        refine xaastN hx hb hE.1.1 hS hV (hAA hn0) 5 rfl rfl (k := i) (by omega) (by omega) dJx4a65c_clear_da8c8_35 (fun H8 locs1 hV z4 oq4 hS => ?_)
        have hO := hO.kept (oq4 _ hne.symm)
        rw [lf_clr] at hV
        refine lv_iinc (v := (nI (i + 1))) (lv' := [(3, .int (nI (i + 1))), (2, .int (nI t.length)), (1, .ref aA), (0, .ref aL)]) hx hb dJx4a65c_clear_da8c8_36 hl (k := 0) rfl (nI_1 i) (by decide) rfl (fun ls hl => ?_)
        refine lv_goto (tgt := 27) hx hb dJx4a65c_clear_da8c8_39 (by decide) ?_
        exact ih27 (i + 1) (by omega) (by omega) H8 locs1 ls hS ⟨hO, hLn, hn200, Or.inr ⟨hn0, hne, hV⟩⟩ (lv_sub hl [0, 1, 2, 3] rfl)
  exact L27 (t.length + 1) 0 (by omega) (by omega) H6 locs1 ls hS hC (lv_sub hl [0, 1, 2, 3] rfl)

