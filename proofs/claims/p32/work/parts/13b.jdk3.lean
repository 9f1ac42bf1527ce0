theorem cL_grow (l : Launch) (G : GE) (A1 : Nat → Prop) (aL aA sz : Nat) (mc : Int32) (t : List Nat) (ht : t.length ≤ 100) (hAL : A1 aL) (hAA : t.length ≠ 0 → A1 aA) : KM l G A1 yJx4a65c_grow_92f84 cJx4a65c_grow_92f84 4 (some (.array (.object "java/lang/Object"))) (rmL 4 1 200) [.ref aL, .int (nI (t.length + 1))] (fun H => H.size = sz ∧ LL G aL aA t.length mc t H ∧ ∀ y ∈ t, EL G A1 y H) (fun v H => ∃ q n', v = some (.ref q) ∧ sz ≤ q ∧ t.length < n' ∧ n' ≤ 200 ∧ va_at G.1 mcl (aL, .inr (1, [.int mc, .ref q, .int (nI t.length)])) H ∧ va_at G.1 mcl (q, rArr (G.2.1 5) n' (fun j => t[j]?)) H) (fun _ _ => False) := by
  by_cases h : t.length = 0
  · exact cL_grow0 l G A1 aL aA sz mc t ht hAL hAA h
  · exact cL_growN l G A1 aL aA sz mc t ht hAL hAA h
theorem lf_ins (t : List Nat) (y k : Nat) (hk : k ≤ t.length) : va_up (va_cpy (fun j => t[j]?) (fun j => t[j]?) k (k + 1) (t.length - k)) k (some y) = fun j => (t.insertIdx k y)[j]? := by
  funext j
  simp only [va_up, va_cpy]
  rw [List.getElem?_insertIdx]
  by_cases h1 : j < k
  · rw [if_neg (by omega), if_neg (by omega), if_pos h1]
  · rw [if_neg h1]
    by_cases h2 : j = k
    · rw [if_pos h2, if_pos h2, if_pos (by omega)]
    · rw [if_neg h2, if_neg h2]
      by_cases h3 : j < t.length + 1
      · rw [if_pos (by omega)]
        congr 1
        omega
      · rw [if_neg (by omega), List.getElem?_eq_none (by omega), List.getElem?_eq_none (by omega)]
theorem lf_rem (t : List Nat) (k : Nat) (hk : k < t.length) : va_up (va_cpy (fun j => t[j]?) (fun j => t[j]?) (k + 1) k (t.length - 1 - k)) (t.length - 1) none = fun j => (t.eraseIdx k)[j]? := by
  funext j
  simp only [va_up, va_cpy]
  rw [List.getElem?_eraseIdx]
  by_cases h1 : j < k
  · rw [if_neg (by omega), if_neg (by omega), if_pos h1]
  · rw [if_neg h1]
    by_cases h2 : j = t.length - 1
    · rw [if_pos h2, List.getElem?_eq_none (by omega)]
    · rw [if_neg h2]
      by_cases h3 : j < t.length - 1
      · rw [if_pos (by omega)]
        congr 1
        omega
      · rw [if_neg (by omega), List.getElem?_eq_none (by omega), List.getElem?_eq_none (by omega)]
theorem lf_rem0 (t : List Nat) (hk : 0 < t.length) : va_up (fun j => t[j]?) (t.length - 1) none = fun j => (t.eraseIdx (t.length - 1))[j]? := by
  funext j
  simp only [va_up]
  rw [List.getElem?_eraseIdx]
  by_cases h2 : j = t.length - 1
  · rw [if_pos h2, if_neg (by omega), List.getElem?_eq_none (by omega)]
  · rw [if_neg h2]
    by_cases h3 : j < t.length - 1
    · rw [if_pos h3]
    · rw [if_neg h3, List.getElem?_eq_none (by omega), List.getElem?_eq_none (by omega)]
set_option maxHeartbeats 4000000 in
set_option maxRecDepth 100000 in
theorem cL_growE (l : Launch) (G : GE) (A1 : Nat → Prop) (aL aA sz : Nat) (mc : Int32) (t : List Nat) (ht : t.length ≤ 100) (hAL : A1 aL) (hAA : t.length ≠ 0 → A1 aA) : KM l G A1 yJx4a65c_grow_d5877 cJx4a65c_grow_d5877 1 (some (.array (.object "java/lang/Object"))) (rmL 5 1 200) [.ref aL] (fun H => H.size = sz ∧ LL G aL aA t.length mc t H ∧ ∀ y ∈ t, EL G A1 y H) (fun v H => ∃ q n', v = some (.ref q) ∧ sz ≤ q ∧ t.length < n' ∧ n' ≤ 200 ∧ va_at G.1 mcl (aL, .inr (1, [.int mc, .ref q, .int (nI t.length)])) H ∧ va_at G.1 mcl (q, rArr (G.2.1 5) n' (fun j => t[j]?)) H) (fun _ _ => False) := by
  refine KM.of (by decide) (Nat.le_of_ble_eq_true rfl) ?_
  intro p e s m args below meth c F hP ls hl
  have hx := F.1.1
  have hb := F.1.2.1
  have hown := F.1.2.2.2.1
  have hts := F.1.2.2.2.2
  have hr := F.2.1
  have hlocks := F.2.2.1
  have hE := F.2.2.2.2.2.1
  have hA := F.2.2.2.2.2.2
  have hS : va_S A1 s.heap s.heap [] := va_S.rf
  have hl : lv_has ls 1 [(0, .ref aL)] := hl
  obtain ⟨hsz, hLL, hel⟩ := hP
  have hO := hLL.1
  refine lv_aload_n hx hb dJx4a65c_grow_d5877_0 rfl (lv_at hl 0 rfl) ?_
  refine lv_aload_n hx hb dJx4a65c_grow_d5877_1 rfl (lv_at hl 0 rfl) ?_
  refine gJx4a65c F hO 2 (by decide) wFL_Jx4a65c_48 (fun _ h9 => h9) (v := .int (nI t.length)) rfl dJx4a65c_grow_d5877_2 ?_
  refine lv_iconst (v := 1) hx hb dJx4a65c_grow_d5877_5 (by decide) ?_
  refine lv_iadd hx hb dJx4a65c_grow_d5877_6 ?_
  refine W.eq (g2 := F0 m 7 ls [.int (nI (t.length + 1)), .ref aL]) (congrArg (fun z => F0 m 7 ls [.int z, .ref aL]) (nI_1 _)) ?_
  refine kcallV (n := 1) F (cL_grow l G A1 aL aA sz mc t ht hAL hAA) wML_Jx4a65c_69 wIM_Jx4a65c_grow_92f84 wSE_Jx4a65c_Jx4a65c_grow_92f84 wIN_Jx4a65c wCO_Jx4a65c_grow_92f84 (by decide) rfl ⟨by decide, by decide⟩ (frec F hO _ rfl) hS (fun _ h => h) (fun q h => hA q (Nat.le_trans hS.1 h)) ⟨hsz, hLL, hel⟩ rfl hl.1 (Nat.le_of_ble_eq_true rfl) dJx4a65c_grow_d5877_7 ⟨by decide, by decide⟩ (fun E ce q9 H1 locs1 hx9 _ _ _ _ _ => hx9.elim) (fun v H1 locs1 hv hk hS => ?_)
  obtain ⟨q, n', rfl, hq, hnn, hn2, hO, hV⟩ := hv
  exact karetA hx hb hr hlocks hS (by decide) (by decide) dJx4a65c_grow_d5877_10 (⟨q, n', rfl, hq, hnn, hn2, hO, hV⟩)

set_option maxHeartbeats 4000000 in
set_option maxRecDepth 100000 in
theorem cL_add3 (l : Launch) (G : GE) (A1 : Nat → Prop) (aL aA n sz y : Nat) (mc : Int32) (t : List Nat) (ht : t.length ≤ 100) (hAL : A1 aL) (hAA : n ≠ 0 → A1 aA) : KM l G A1 yJx4a65c_add_72be8 cJx4a65c_add_72be8 4 none (rmL 6 1 200) [.ref aL, .ref y, .ref aA, .int (nI t.length)] (fun H => H.size = sz ∧ LL G aL aA n mc t H ∧ (∀ x ∈ t, EL G A1 x H) ∧ EL G A1 y H) (fun v H => v = none ∧ ∃ aA' n', LL G aL aA' n' mc (t ++ [y]) H ∧ n' ≠ 0 ∧ ((n ≠ 0 ∧ aA' = aA) ∨ sz ≤ aA')) (fun _ _ => False) := by
  refine KM.of (by decide) (Nat.le_of_ble_eq_true rfl) ?_
  intro p e s m args below meth c F hP ls hl
  have hx := F.1.1
  have hb := F.1.2.1
  have hown := F.1.2.2.2.1
  have hts := F.1.2.2.2.2
  have hr := F.2.1
  have hlocks := F.2.2.1
  have hE := F.2.2.2.2.2.1
  have hA := F.2.2.2.2.2.2
  have hS : va_S A1 s.heap s.heap [] := va_S.rf
  have hl : lv_has ls 4 [(0, .ref aL), (1, .ref y), (2, .ref aA), (3, .int (nI t.length))] := hl
  obtain ⟨hsz, hLL, hel, hy⟩ := hP
  have hO := hLL.1
  refine lv_iload_n hx hb dJx4a65c_add_72be8_0 rfl (lv_at hl 3 rfl) ?_
  refine lv_aload_n hx hb dJx4a65c_add_72be8_1 rfl (lv_at hl 2 rfl) ?_
  refine xlenLL F hS hLL dJx4a65c_add_72be8_2 ?_
  refine lv_icmp_ne (tgt := 11) hx hb dJx4a65c_add_72be8_3 (by decide) (fun c_3_1 => ?_) (fun c_3_1 => ?_)
  · obtain ⟨hn0, hne, hV⟩ : n ≠ 0 ∧ aA ≠ aL ∧ va_at G.1 mcl (aA, rArr (G.2.1 5) n (fun j => t[j]?)) s.heap := by
      rcases hLL.2.2.2 with h | h
      · exact absurd (by rw [h.1, show t.length = 0 from by have := hLL.2.1; omega]) c_3_1
      · exact h
    have hlt : t.length < n := by
      have h1 := hLL.2.1
      have h2 : t.length ≠ n := fun e => c_3_1 (by rw [e])
      omega
    have hn200 := hLL.2.2.1
    refine lv_aload_n hx hb dJx4a65c_add_72be8_11 rfl (lv_at hl 2 rfl) ?_
    refine lv_iload_n hx hb dJx4a65c_add_72be8_12 rfl (lv_at hl 3 rfl) ?_
    refine lv_aload_n hx hb dJx4a65c_add_72be8_13 rfl (lv_at hl 1 rfl) ?_
    refine xaast hx hb hE.1.1 hS hV (hAA hn0) 5 rfl ((hy.now hS).any hE) rfl (by omega) (by omega) dJx4a65c_add_72be8_14 (fun H4 locs1 hV z4 oq4 hS => ?_)
    have hO := hO.kept (oq4 _ hne.symm)
    rw [lf_push] at hV
    refine lv_aload_n hx hb dJx4a65c_add_72be8_15 rfl (lv_at hl 0 rfl) ?_
    refine lv_iload_n hx hb dJx4a65c_add_72be8_16 rfl (lv_at hl 3 rfl) ?_
    refine lv_iconst (v := 1) hx hb dJx4a65c_add_72be8_17 (by decide) ?_
    refine lv_iadd hx hb dJx4a65c_add_72be8_18 ?_
    refine pJx4a65c F hS hO hAL 2 (by decide) wFL_Jx4a65c_48 (fun _ h9 => h9) rfl rfl rfl (by simp) dJx4a65c_add_72be8_19 (fun H5 locs1 hO z5 oq5 hS => ?_)
    have hO : va_at G.1 mcl (aL, .inr (1, [.int mc, .ref aA, .int ((nI t.length) + 1)])) H5 := hO
    have hV := hV.kept (oq5 _ hne)
    exact kvret hx hb hr hlocks hS (by decide) (by decide) dJx4a65c_add_72be8_22 (⟨rfl, ⟨aA, n, ⟨by rw [List.length_append, List.length_singleton, ← nI_1]; exact hO, by rw [List.length_append, List.length_singleton]; omega, hLL.2.2.1, Or.inr ⟨hn0, hne, hV⟩⟩, hn0, Or.inl ⟨hn0, rfl⟩⟩⟩)
  · refine lv_aload_n hx hb dJx4a65c_add_72be8_6 rfl (lv_at hl 0 rfl) ?_
    obtain rfl : t.length = n := by
      by_cases e : t.length = n
      · exact e
      · exact absurd c_3_1 (fun h => e ((nI_eq (by omega) (by have := hLL.2.2.1; omega)).mp h))
    refine kcallV (n := 0) F (cL_growE l G A1 aL aA sz mc t ht hAL hAA) wML_Jx4a65c_129 wIM_Jx4a65c_grow_d5877 wSE_Jx4a65c_Jx4a65c_grow_d5877 wIN_Jx4a65c wCO_Jx4a65c_grow_d5877 (by decide) rfl ⟨by decide, by decide⟩ (frec F hO _ rfl) hS (fun _ h => h) (fun q h => hA q (Nat.le_trans hS.1 h)) ⟨hsz, hLL, hel⟩ rfl hl.1 (Nat.le_of_ble_eq_true rfl) dJx4a65c_add_72be8_7 ⟨by decide, by decide⟩ (fun E ce q9 H1 locs1 hx9 _ _ _ _ _ => hx9.elim) (fun v H1 locs1 hv hk hS => ?_)
    obtain ⟨q, n', rfl, hq, hnn, hn2, hO, hV⟩ := hv
    have hAq : A1 q := hA q (by omega)
    have hneq : q ≠ aL := fun e => absurd hLL.1.lt (by rw [← e]; omega)
    refine lv_astore_n (lv' := [(2, .ref q), (0, .ref aL), (1, .ref y), (3, .int (nI t.length))]) hx hb dJx4a65c_add_72be8_10 rfl hl (by decide) rfl (fun ls hl => ?_)
    refine lv_aload_n hx hb dJx4a65c_add_72be8_11 rfl (lv_at hl 0 rfl) ?_
    refine lv_iload_n hx hb dJx4a65c_add_72be8_12 rfl (lv_at hl 3 rfl) ?_
    refine lv_aload_n hx hb dJx4a65c_add_72be8_13 rfl (lv_at hl 2 rfl) ?_
    refine xaast hx hb hE.1.1 hS hV hAq 5 rfl ((hy.now hS).any hE) rfl (by omega) (by omega) dJx4a65c_add_72be8_14 (fun H4 locs1 hV z4 oq4 hS => ?_)
    have hO := hO.kept (oq4 _ hneq.symm)
    rw [lf_push] at hV
    refine lv_aload_n hx hb dJx4a65c_add_72be8_15 rfl (lv_at hl 1 rfl) ?_
    refine lv_iload_n hx hb dJx4a65c_add_72be8_16 rfl (lv_at hl 3 rfl) ?_
    refine lv_iconst (v := 1) hx hb dJx4a65c_add_72be8_17 (by decide) ?_
    refine lv_iadd hx hb dJx4a65c_add_72be8_18 ?_
    refine pJx4a65c F hS hO hAL 2 (by decide) wFL_Jx4a65c_48 (fun _ h9 => h9) rfl rfl rfl (by simp) dJx4a65c_add_72be8_19 (fun H5 locs1 hO z5 oq5 hS => ?_)
    have hO : va_at G.1 mcl (aL, .inr (1, [.int mc, .ref q, .int ((nI t.length) + 1)])) H5 := hO
    have hV := hV.kept (oq5 _ hneq)
    exact kvret hx hb hr hlocks hS (by decide) (by decide) dJx4a65c_add_72be8_22 (⟨rfl, ⟨q, n', ⟨by rw [List.length_append, List.length_singleton, ← nI_1]; exact hO, by rw [List.length_append, List.length_singleton]; omega, hn2, Or.inr ⟨by omega, hneq, hV⟩⟩, by omega, Or.inr hq⟩⟩)

theorem LL.mod {G : GE} {aL aA n : Nat} {mc mc' : Int32} {t : List Nat} {H H1 : Heap} (h : LL G aL aA n mc t H) (hO : va_at G.1 mcl (aL, .inr (1, [.int mc', .ref aA, .int (nI t.length)])) H1) (oq : ∀ q, q ≠ aL → H1[q]? = H[q]?) : LL G aL aA n mc' t H1 := by
  obtain ⟨-, h1, h2, h3⟩ := h
  refine ⟨hO, h1, h2, ?_⟩
  rcases h3 with h3 | ⟨h4, h5, h6⟩
  · exact Or.inl h3
  · exact Or.inr ⟨h4, h5, h6.kept (oq _ h5)⟩
set_option maxHeartbeats 4000000 in
set_option maxRecDepth 100000 in
theorem cL_add (l : Launch) (G : GE) (A1 : Nat → Prop) (aL aA n sz y : Nat) (mc : Int32) (t : List Nat) (ht : t.length ≤ 100) (hAL : A1 aL) (hAA : n ≠ 0 → A1 aA) : KM l G A1 yJx4a65c_add_9ea2d cJx4a65c_add_9ea2d 2 (some .boolean) (rmL 7 1 200) [.ref aL, .ref y] (fun H => H.size = sz ∧ LL G aL aA n mc t H ∧ (∀ x ∈ t, EL G A1 x H) ∧ EL G A1 y H) (fun v H => v = some (.int 1) ∧ ∃ aA' n', LL G aL aA' n' (mc + 1) (t ++ [y]) H ∧ n' ≠ 0 ∧ ((n ≠ 0 ∧ aA' = aA) ∨ sz ≤ aA')) (fun _ _ => False) := by
  refine KM.of (by decide) (Nat.le_of_ble_eq_true rfl) ?_
  intro p e s m args below meth c F hP ls hl
  have hx := F.1.1
  have hb := F.1.2.1
  have hown := F.1.2.2.2.1
  have hts := F.1.2.2.2.2
  have hr := F.2.1
  have hlocks := F.2.2.1
  have hE := F.2.2.2.2.2.1
  have hA := F.2.2.2.2.2.2
  have hS : va_S A1 s.heap s.heap [] := va_S.rf
  have hl : lv_has ls 2 [(0, .ref aL), (1, .ref y)] := hl
  obtain ⟨hsz, hLL, hel, hy⟩ := hP
  have hO := hLL.1
  refine lv_aload_n hx hb dJx4a65c_add_9ea2d_0 rfl (lv_at hl 0 rfl) ?_
  refine lv_dup hx hb dJx4a65c_add_9ea2d_1 rfl ?_
  refine gJx4a65c F hO 0 (by decide) wFL_Jx4a65c_63 (u_same (hts _ wSF_Jx4a65c_modCount)) (v := .int mc) rfl dJx4a65c_add_9ea2d_2 ?_
  refine lv_iconst (v := 1) hx hb dJx4a65c_add_9ea2d_5 (by decide) ?_
  refine lv_iadd hx hb dJx4a65c_add_9ea2d_6 ?_
  refine pJx4a65c F hS hO hAL 0 (by decide) wFL_Jx4a65c_63 (u_same (hts _ wSF_Jx4a65c_modCount)) rfl rfl rfl (by simp) dJx4a65c_add_9ea2d_7 (fun H5 locs1 hO z5 oq5 hS => ?_)
  have hLL : LL G aL aA n (mc + 1) t H5 := hLL.mod hO oq5
  refine lv_aload_n hx hb dJx4a65c_add_9ea2d_10 rfl (lv_at hl 0 rfl) ?_
  refine lv_aload_n hx hb dJx4a65c_add_9ea2d_11 rfl (lv_at hl 1 rfl) ?_
  refine lv_aload_n hx hb dJx4a65c_add_9ea2d_12 rfl (lv_at hl 0 rfl) ?_
  refine gJx4a65c F hO 1 (by decide) wFL_Jx4a65c_9 (fun _ h9 => h9) (v := .ref aA) rfl dJx4a65c_add_9ea2d_13 ?_
  refine lv_aload_n hx hb dJx4a65c_add_9ea2d_16 rfl (lv_at hl 0 rfl) ?_
  refine gJx4a65c F hO 2 (by decide) wFL_Jx4a65c_48 (fun _ h9 => h9) (v := .int (nI t.length)) rfl dJx4a65c_add_9ea2d_17 ?_
  refine kcallV (n := 3) F (cL_add3 l G A1 aL aA n H5.size y (mc + 1) t ht hAL hAA) wML_Jx4a65c_131 wIM_Jx4a65c_add_72be8 wSE_Jx4a65c_Jx4a65c_add_72be8 wIN_Jx4a65c wCO_Jx4a65c_add_72be8 (by decide) rfl ⟨by decide, by decide⟩ (frec F hO _ rfl) hS (fun _ h => h) (fun q h => hA q (Nat.le_trans hS.1 h)) ⟨rfl, hLL, fun x hx => (hel x hx).now hS, hy.now hS⟩ rfl hl.1 (Nat.le_of_ble_eq_true rfl) dJx4a65c_add_9ea2d_20 ⟨by decide, by decide⟩ (fun E ce q9 H1 locs1 hx9 _ _ _ _ _ => hx9.elim) (fun v H1 locs1 hv hk hS => ?_)
  obtain ⟨rfl, aA', n', hR, hn0', hor⟩ := hv
  refine lv_iconst (v := 1) hx hb dJx4a65c_add_9ea2d_23 (by decide) ?_
  exact kzret hx hb hr hlocks hS (by decide) (by decide) (Or.inr rfl) dJx4a65c_add_9ea2d_24 (⟨rfl, aA', n', hR, hn0', hor.imp_right (fun h => by omega)⟩)

