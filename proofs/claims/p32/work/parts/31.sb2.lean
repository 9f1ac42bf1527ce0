section ROWSB
variable {p : Program} {l : Launch} {e : Env} {R : Room} {s : State} {m : MethodId} {args : Array Value} {below : List Frame} {meth : Method} {c : Code} {H : Heap} {locs : List Loc} {cells slots : Nat} {Q : State → Prop}
variable {cc : ByteArray} {pc : Nat} {ls : Array Slot} {rest : List Value} {D : va_G} {cl : List vw_C} {A : Nat → Prop} {a : Nat} {tys : List (ClassId × FieldType)} {H0 : Heap}
theorem xbald (hexec : p.tables.exec = Jvm.exec) (hb : c.code = cc) (hK : va_K D cl tys s) {cA : ClassId} {n : Nat} {f : Nat → Int32} (ha : va_at D cl (a, .inl (cA, n, .inl f)) H) (t0 : Nat) (ht : tys[t0]? = some (cA, .byte)) {k : Nat} {i : Int32} (hi : i = nI k) (hk : k < n) (hn : n < 2 ^ 31) (hdg : decode cc pc = .ok (.baload, 1))
    (kk : W p l e R s m args below meth c H locs cells slots Q (F0 m (pc + 1) ls (.int (f k) :: rest))) : W p l e R s m args below meth c H locs cells slots Q (F0 m pc ls (.int i :: .ref a :: rest)) := by
  subst hi
  refine va_bald (ws := [(a, .inl (cA, n, .inl f))]) hexec hb hK (at1 ha) 0 t0 rfl ht (vp_in_nI hk hn) hdg ?_
  rw [nI_clamp (by omega)]
  exact kk
theorem xbast (hexec : p.tables.exec = Jvm.exec) (hb : c.code = cc) (hK : va_K D cl tys s) (hS : va_S A H0 H locs) {cA : ClassId} {n : Nat} {f : Nat → Int32} (ha : va_at D cl (a, .inl (cA, n, .inl f)) H) (hA : A a) (t0 : Nat) (ht : tys[t0]? = some (cA, .byte)) {k : Nat} {i x x' : Int32} (hi : i = nI k) (hk : k < n) (hn : n < 2 ^ 31) (hx' : vp_nar .byte x = x') (hdg : decode cc pc = .ok (.bastore, 1))
    (kk : ∀ (H1 : Heap) (locs1 : List Loc), va_at D cl (a, .inl (cA, n, .inl (upd f k x'))) H1 → H1.size = H.size → (∀ q, q ≠ a → H1[q]? = H[q]?) → va_S A H0 H1 locs1 → W p l e R s m args below meth c H1 locs1 cells slots Q (F0 m (pc + 1) ls rest)) : W p l e R s m args below meth c H locs cells slots Q (F0 m pc ls (.int x :: .int i :: .ref a :: rest)) := by
  subst hi
  have hin := vp_in_nI hk hn
  refine W.bast hexec hb ha ((hK.2 t0 _ ht).1 n (fun j => .int (f j))) (fun q => by cases q) (by show ¬ (nI k < 0 ∨ (arrV _ _ _).slots.size ≤ _); rw [arrV_size]; exact hin) rfl rfl hdg fun H1 e z oq => ?_
  refine kk H1 _ ?_ z oq (hS.put z oq hA)
  show H1[a]? = some (vp_cell _ _)
  rw [e, vp_cell_i, vp_cell_i, arrV_store, nI_clamp (by omega), ← hx']
  congr 2
  funext q
  by_cases hq : q = k
  · subst hq
    simp [updV, upd, vp_nar]
    try rfl
  · simp [updV, upd, hq]
theorem xgcs {y : MethodName} {nL : Nat} {ret : Option FieldType} {G : GE} (F : FX l p m meth c cc nL ret s args y A G) (hS : va_S A s.heap H locs) {index : Nat} (hl : Cond.fieldLink y.cls index RJ0 "COMPACT_STRINGS" "Z" ∈ gTb) (hdg : decode cc pc = .ok (.getstatic index, 3))
    (kk : W p l e R s m args below meth c H locs cells slots Q (F0 m (pc + 3) ls (.int 1 :: rest))) : W p l e R s m args below meth c H locs cells slots Q (F0 m pc ls rest) :=
  va_gets F.1.1 F.1.2.1 F.2.2.2.2.2.1.2.2.2.1.1 hS F.1.2.2.2.1 (F.1.2.2.2.2 _ hl) (fun _ h9 => h9) hdg kk
end ROWSB
theorem sb_ens (k : Nat) (hk : k ≤ 16) : nI k - nI 16 >>> ((0 : Int32) &&& 31) ≤ 0 := (by decide : ∀ k, k < 17 → nI k - nI 16 >>> ((0 : Int32) &&& 31) ≤ 0) k (by omega)
theorem sb_chr (k : Nat) (hk : k < 128) : vp_nar .byte ((nI k).toInt8.toInt32) = nI k := (by decide +kernel : ∀ k, k < 128 → vp_nar .byte ((nI k).toInt8.toInt32) = nI k) k hk
set_option maxHeartbeats 4000000 in
set_option maxRecDepth 100000 in
theorem cB_isLatin1 (l : Launch) (G : GE) (A1 : Nat → Prop) (aS aV n : Nat) : KM l G A1 yJ5_isLatin1_aae02 cJ5_isLatin1_aae02 1 (some .boolean) (rmL 1 0 0) [.ref aS] (fun H => va_at G.1 mcl (aS, .inr (0, [.ref aV, .int 0, .int 0, .int (nI n)])) H) (fun v _ => v = some (.int 1)) (fun _ _ => False) := by
  refine KM.of (by decide) (Nat.le_of_ble_eq_true rfl) ?_
  intro p e s m args below meth c F hP ls hl
  have hx := F.1.1
  have hb := F.1.2.1
  have hown := F.1.2.2.2.1
  have hts := F.1.2.2.2.2
  have hr := F.2.1
  have hlocks := F.2.2.1
  have hE := F.2.2.2.2.2.1
  have hA := F.2.2.2.2.2.2
  have hS : va_S A1 s.heap s.heap [] := va_S.rf
  have hl : lv_has ls 1 [(0, .ref aS)] := hl
  have hO := hP
  refine xgcs F hS wFL_J5_18 dJ5_isLatin1_aae02_0 ?_
  refine lv_if_eq (tgt := 17) hx hb dJ5_isLatin1_aae02_3 (by decide) (fun c_3_1 => ?_) (fun c_3_1 => ?_)
  · exact absurd c_3_1 (by decide)
  · refine lv_aload_n hx hb dJ5_isLatin1_aae02_6 rfl (lv_at hl 0 rfl) ?_
    refine gJ4 F hO 1 (by decide) wFL_J5_22 (fun _ h9 => h9) (v := .int 0) rfl dJ5_isLatin1_aae02_7 ?_
    refine lv_if_ne (tgt := 17) hx hb dJ5_isLatin1_aae02_10 (by decide) (fun c_10_2 => ?_) (fun c_10_2 => ?_)
    · exact absurd rfl c_10_2
    · refine lv_iconst (v := 1) hx hb dJ5_isLatin1_aae02_13 (by decide) ?_
      refine lv_goto (tgt := 18) hx hb dJ5_isLatin1_aae02_14 (by decide) ?_
      exact kzret hx hb hr hlocks hS (by decide) (by decide) (Or.inr rfl) dJ5_isLatin1_aae02_18 (rfl)

set_option maxHeartbeats 4000000 in
set_option maxRecDepth 100000 in
theorem cB_length5 (l : Launch) (G : GE) (A1 : Nat → Prop) (aS aV n : Nat) : KM l G A1 yJ5_length_8abf5 cJ5_length_8abf5 1 (some .int) (rmL 1 0 0) [.ref aS] (fun H => va_at G.1 mcl (aS, .inr (0, [.ref aV, .int 0, .int 0, .int (nI n)])) H) (fun v _ => v = some (.int (nI n))) (fun _ _ => False) := by
  refine KM.of (by decide) (Nat.le_of_ble_eq_true rfl) ?_
  intro p e s m args below meth c F hP ls hl
  have hx := F.1.1
  have hb := F.1.2.1
  have hown := F.1.2.2.2.1
  have hts := F.1.2.2.2.2
  have hr := F.2.1
  have hlocks := F.2.2.1
  have hE := F.2.2.2.2.2.1
  have hA := F.2.2.2.2.2.2
  have hS : va_S A1 s.heap s.heap [] := va_S.rf
  have hl : lv_has ls 1 [(0, .ref aS)] := hl
  have hO := hP
  refine lv_aload_n hx hb dJ5_length_8abf5_0 rfl (lv_at hl 0 rfl) ?_
  refine gJ4 F hO 3 (by decide) wFL_J5_79 (fun _ h9 => h9) (v := .int (nI n)) rfl dJ5_length_8abf5_1 ?_
  exact kiret hx hb hr hlocks hS (by decide) (by decide) dJ5_length_8abf5_4 (rfl)

set_option maxHeartbeats 4000000 in
set_option maxRecDepth 100000 in
theorem cB_ensure (l : Launch) (G : GE) (A1 : Nat → Prop) (aS aV n : Nat) (f : Nat → Int32) (k : Nat) (hk : k ≤ 16) : KM l G A1 yJ5_ensureCapacityInternal_d00df cJ5_ensureCapacityInternal_d00df 3 none (rmL 1 0 0) [.ref aS, .int (nI k)] (fun H => va_at G.1 mcl (aS, .inr (0, [.ref aV, .int 0, .int 0, .int (nI n)])) H ∧ va_at G.1 mcl (aV, .inl (G.2.1 7, 16, .inl f)) H) (fun v _ => v = none) (fun _ _ => False) := by
  refine KM.of (by decide) (Nat.le_of_ble_eq_true rfl) ?_
  intro p e s m args below meth c F hP ls hl
  have hx := F.1.1
  have hb := F.1.2.1
  have hown := F.1.2.2.2.1
  have hts := F.1.2.2.2.2
  have hr := F.2.1
  have hlocks := F.2.2.1
  have hE := F.2.2.2.2.2.1
  have hA := F.2.2.2.2.2.2
  have hS : va_S A1 s.heap s.heap [] := va_S.rf
  have hl : lv_has ls 3 [(0, .ref aS), (1, .int (nI k))] := hl
  obtain ⟨hO, hV⟩ := hP
  refine lv_aload_n hx hb dJ5_ensureCapacityInternal_d00df_0 rfl (lv_at hl 0 rfl) ?_
  refine gJ4 F hO 0 (by decide) wFL_J5_15 (fun _ h9 => h9) (v := .ref aV) rfl dJ5_ensureCapacityInternal_d00df_1 ?_
  refine xalen hx hb hE.1.1 hV 7 rfl dJ5_ensureCapacityInternal_d00df_4 ?_
  refine lv_aload_n hx hb dJ5_ensureCapacityInternal_d00df_5 rfl (lv_at hl 0 rfl) ?_
  refine gJ4 F hO 1 (by decide) wFL_J5_22 (fun _ h9 => h9) (v := .int 0) rfl dJ5_ensureCapacityInternal_d00df_6 ?_
  refine lv_ishr hx hb dJ5_ensureCapacityInternal_d00df_9 ?_
  refine lv_istore_n (lv' := [(2, .int ((nI 16) >>> (0 &&& 31))), (0, .ref aS), (1, .int (nI k))]) hx hb dJ5_ensureCapacityInternal_d00df_10 rfl hl (by decide) rfl (fun ls hl => ?_)
  refine lv_iload_n hx hb dJ5_ensureCapacityInternal_d00df_11 rfl (lv_at hl 2 rfl) ?_
  refine lv_iload_n hx hb dJ5_ensureCapacityInternal_d00df_12 rfl (lv_at hl 0 rfl) ?_
  refine lv_isub hx hb dJ5_ensureCapacityInternal_d00df_13 ?_
  refine lv_if_le (tgt := 38) hx hb dJ5_ensureCapacityInternal_d00df_14 (by decide) (fun c_14_1 => ?_) (fun c_14_1 => ?_)
  · exact kvret hx hb hr hlocks hS (by decide) (by decide) dJ5_ensureCapacityInternal_d00df_38 (rfl)
  · exact absurd (sb_ens k hk) c_14_1

set_option maxHeartbeats 4000000 in
set_option maxRecDepth 100000 in
theorem cB_canEncode (l : Launch) (G : GE) (A1 : Nat → Prop) (k : Nat) (hk : k < 128) : KM l G A1 yJ1_canEncode_fc78d cJ1_canEncode_fc78d 1 (some .boolean) (rmL 1 0 0) [.int (nI k)] (fun _ => True) (fun v _ => v = some (.int 1)) (fun _ _ => False) := by
  refine KM.of (by decide) (Nat.le_of_ble_eq_true rfl) ?_
  intro p e s m args below meth c F hP ls hl
  have hx := F.1.1
  have hb := F.1.2.1
  have hown := F.1.2.2.2.1
  have hts := F.1.2.2.2.2
  have hr := F.2.1
  have hlocks := F.2.2.1
  have hE := F.2.2.2.2.2.1
  have hA := F.2.2.2.2.2.2
  have hS : va_S A1 s.heap s.heap [] := va_S.rf
  have hl : lv_has ls 1 [(0, .int (nI k))] := hl
  have hP := hP
  refine lv_iload_n hx hb dJ1_canEncode_fc78d_0 rfl (lv_at hl 0 rfl) ?_
  refine lv_sipush (v := 255) hx hb dJ1_canEncode_fc78d_1 (by decide) ?_
  refine lv_icmp_gt (tgt := 11) hx hb dJ1_canEncode_fc78d_4 (by decide) (fun c_4_1 => ?_) (fun c_4_1 => ?_)
  · exact absurd c_4_1 (nI_nlt (b := k) (a := 255) (by omega) (by decide))
  · refine lv_iconst (v := 1) hx hb dJ1_canEncode_fc78d_7 (by decide) ?_
    refine lv_goto (tgt := 12) hx hb dJ1_canEncode_fc78d_8 (by decide) ?_
    exact kzret hx hb hr hlocks hS (by decide) (by decide) (Or.inr rfl) dJ1_canEncode_fc78d_12 (rfl)

set_option maxHeartbeats 4000000 in
set_option maxRecDepth 100000 in
theorem cB_app5 (l : Launch) (G : GE) (A1 : Nat → Prop) (aS aV n : Nat) (hAS : A1 aS) (hAV : A1 aV) (hne : aS ≠ aV) (f : Nat → Int32) (k : Nat) (hk9 : k < 128) (hn9 : n < 16) : KM l G A1 yJ5_append_3fe6f cJ5_append_3fe6f 2 (some (.object "java/lang/AbstractStringBuilder")) (rmL 2 0 0) [.ref aS, .int (nI k)] (fun H => va_at G.1 mcl (aS, .inr (0, [.ref aV, .int 0, .int 0, .int (nI n)])) H ∧ va_at G.1 mcl (aV, .inl (G.2.1 7, 16, .inl f)) H) (fun v H => v = some (.ref aS) ∧ va_at G.1 mcl (aS, .inr (0, [.ref aV, .int 0, .int 0, .int (nI (n + 1))])) H ∧ va_at G.1 mcl (aV, .inl (G.2.1 7, 16, .inl (upd f n (nI k)))) H) (fun _ _ => False) := by
  refine KM.of (by decide) (Nat.le_of_ble_eq_true rfl) ?_
  intro p e s m args below meth c F hP ls hl
  have hx := F.1.1
  have hb := F.1.2.1
  have hown := F.1.2.2.2.1
  have hts := F.1.2.2.2.2
  have hr := F.2.1
  have hlocks := F.2.2.1
  have hE := F.2.2.2.2.2.1
  have hA := F.2.2.2.2.2.2
  have hS : va_S A1 s.heap s.heap [] := va_S.rf
  have hl : lv_has ls 2 [(0, .ref aS), (1, .int (nI k))] := hl
  obtain ⟨hO, hV⟩ := hP
  refine lv_aload_n hx hb dJ5_append_3fe6f_0 rfl (lv_at hl 0 rfl) ?_
  refine lv_aload_n hx hb dJ5_append_3fe6f_1 rfl (lv_at hl 0 rfl) ?_
  refine gJ4 F hO 3 (by decide) wFL_J5_79 (fun _ h9 => h9) (v := .int (nI n)) rfl dJ5_append_3fe6f_2 ?_
  refine lv_iconst (v := 1) hx hb dJ5_append_3fe6f_5 (by decide) ?_
  refine lv_iadd hx hb dJ5_append_3fe6f_6 ?_
  refine W.eq (g2 := F0 m 7 ls [.int (nI (n + 1)), .ref aS]) (congrArg (fun z => F0 m 7 ls [.int z, .ref aS]) (nI_1 n)) ?_
  refine kcallVC (n := 1) (C9 := RJ4) F (cB_ensure l G (fun q => s.heap.size ≤ q) aS aV n f (n + 1) (by omega)) wML_J5_100 wIM_J5_ensureCapacityInternal_d00df hE.1.2.2.2.2.1.2 wIN_J5 wCO_J5_ensureCapacityInternal_d00df (by decide) rfl ⟨by decide, by decide⟩ (frec F hO _ rfl) hS (fun q h => hA q (Nat.le_trans hS.1 h)) (fun q h => h) ⟨hO, hV⟩ rfl hl.1 (Nat.le_of_ble_eq_true rfl) dJ5_append_3fe6f_7 ⟨by decide, by decide⟩ (fun E ce q9 H1 locs1 hx9 _ _ _ _ _ => hx9.elim) (fun v H1 locs1 hv hk hS => ?_)
  subst hv
  have hO := atO hO hk
  have hV := atO hV hk
  refine lv_aload_n hx hb dJ5_append_3fe6f_10 rfl (lv_at hl 0 rfl) ?_
  refine kcallVC (n := 0) (C9 := RJ4) F (cB_isLatin1 l G (fun q => H1.size ≤ q) aS aV n) wML_J5_83 wIM_J5_isLatin1_aae02 (hts _ wSE_J4_J5_isLatin1_aae02) wIN_J5 wCO_J5_isLatin1_aae02 (by decide) rfl ⟨by decide, by decide⟩ (frec F hO _ rfl) hS (fun q h => hA q (Nat.le_trans hS.1 h)) (fun q h => h) hO rfl hl.1 (Nat.le_of_ble_eq_true rfl) dJ5_append_3fe6f_11 ⟨by decide, by decide⟩ (fun E ce q9 H1 locs1 hx9 _ _ _ _ _ => hx9.elim) (fun v H1 locs1 hv hk hS => ?_)
  subst hv
  have hO := atO hO hk
  have hV := atO hV hk
  refine lv_if_eq (tgt := 45) hx hb dJ5_append_3fe6f_14 (by decide) (fun c_14_1 => ?_) (fun c_14_1 => ?_)
  · exact absurd c_14_1 (by decide)
  · refine lv_iload_n hx hb dJ5_append_3fe6f_17 rfl (lv_at hl 1 rfl) ?_
    refine kcallS (n := 1) F (cB_canEncode l G (fun q => H1.size ≤ q) k hk9) wML_J5_191 wST_J1_canEncode_fc78d wIN_J1 wCO_J1_canEncode_fc78d (by decide) rfl ⟨by decide, by decide⟩ hS (fun q h => hA q (Nat.le_trans hS.1 h)) (fun q h => h) trivial rfl hl.1 (Nat.le_of_ble_eq_true rfl) dJ5_append_3fe6f_18 ⟨by decide, by decide⟩ (fun E ce q9 H1 locs1 hx9 _ _ _ _ _ => hx9.elim) (fun v H1 locs1 hv hk hS => ?_)
    subst hv
    have hO := atO hO hk
    have hV := atO hV hk
    refine lv_if_eq (tgt := 45) hx hb dJ5_append_3fe6f_21 (by decide) (fun c_21_2 => ?_) (fun c_21_2 => ?_)
    · exact absurd c_21_2 (by decide)
    · refine lv_aload_n hx hb dJ5_append_3fe6f_24 rfl (lv_at hl 0 rfl) ?_
      refine gJ4 F hO 0 (by decide) wFL_J5_15 (fun _ h9 => h9) (v := .ref aV) rfl dJ5_append_3fe6f_25 ?_
      refine lv_aload_n hx hb dJ5_append_3fe6f_28 rfl (lv_at hl 0 rfl) ?_
      refine lv_dup hx hb dJ5_append_3fe6f_29 rfl ?_
      refine gJ4 F hO 3 (by decide) wFL_J5_79 (fun _ h9 => h9) (v := .int (nI n)) rfl dJ5_append_3fe6f_30 ?_
      refine lv_dup_x1 hx hb dJ5_append_3fe6f_33 rfl rfl ?_
      refine lv_iconst (v := 1) hx hb dJ5_append_3fe6f_34 (by decide) ?_
      refine lv_iadd hx hb dJ5_append_3fe6f_35 ?_
      refine W.eq (g2 := F0 m 36 ls [.int (nI (n + 1)), .ref aS, .int (nI n), .ref aV]) (congrArg (fun z => F0 m 36 ls [.int z, .ref aS, .int (nI n), .ref aV]) (nI_1 n)) ?_
      refine pJ4 F hS hO hAS 3 (by decide) wFL_J5_79 (fun _ h9 => h9) rfl rfl rfl (by simp) dJ5_append_3fe6f_36 (fun H_3 locs1 hO z1 oq1 hS => ?_)
      have hO : va_at G.1 mcl (aS, .inr (0, [.ref aV, .int 0, .int 0, .int (nI (n + 1))])) H_3 := hO
      have hV := hV.kept (oq1 _ (Ne.symm hne))
      refine lv_iload_n hx hb dJ5_append_3fe6f_39 rfl (lv_at hl 1 rfl) ?_
      refine lv_i2b hx hb dJ5_append_3fe6f_40 rfl ?_
      refine xbast hx hb hE.1.1 hS hV hAV 7 rfl (k := n) (x' := (nI k)) rfl hn9 (by decide) (sb_chr k hk9) dJ5_append_3fe6f_41 (fun H2 locs1 hV z2 oq2 hS => ?_)
      have hO := hO.kept (oq2 _ hne)
      refine lv_goto (tgt := 75) hx hb dJ5_append_3fe6f_42 (by decide) ?_
      refine lv_aload_n hx hb dJ5_append_3fe6f_75 rfl (lv_at hl 0 rfl) ?_
      exact karet hx hb hr hlocks hS (by decide) (by decide) dJ5_append_3fe6f_76 (⟨rfl, hO, hV⟩)

set_option maxHeartbeats 4000000 in
set_option maxRecDepth 100000 in
theorem cB_app (l : Launch) (G : GE) (A1 : Nat → Prop) (aS aV n : Nat) (hAS : A1 aS) (hAV : A1 aV) (hne : aS ≠ aV) (f : Nat → Int32) (k : Nat) (hk9 : k < 128) (hn9 : n < 16) : KM l G A1 yJ4_append_cf468 cJ4_append_cf468 2 (some (.object "java/lang/StringBuilder")) (rmL 3 0 0) [.ref aS, .int (nI k)] (fun H => va_at G.1 mcl (aS, .inr (0, [.ref aV, .int 0, .int 0, .int (nI n)])) H ∧ va_at G.1 mcl (aV, .inl (G.2.1 7, 16, .inl f)) H) (fun v H => v = some (.ref aS) ∧ va_at G.1 mcl (aS, .inr (0, [.ref aV, .int 0, .int 0, .int (nI (n + 1))])) H ∧ va_at G.1 mcl (aV, .inl (G.2.1 7, 16, .inl (upd f n (nI k)))) H) (fun _ _ => False) := by
  refine KM.of (by decide) (Nat.le_of_ble_eq_true rfl) ?_
  intro p e s m args below meth c F hP ls hl
  have hx := F.1.1
  have hb := F.1.2.1
  have hown := F.1.2.2.2.1
  have hts := F.1.2.2.2.2
  have hr := F.2.1
  have hlocks := F.2.2.1
  have hE := F.2.2.2.2.2.1
  have hA := F.2.2.2.2.2.2
  have hS : va_S A1 s.heap s.heap [] := va_S.rf
  have hl : lv_has ls 2 [(0, .ref aS), (1, .int (nI k))] := hl
  obtain ⟨hO, hV⟩ := hP
  refine lv_aload_n hx hb dJ4_append_cf468_0 rfl (lv_at hl 0 rfl) ?_
  refine lv_iload_n hx hb dJ4_append_cf468_1 rfl (lv_at hl 1 rfl) ?_
  refine kcallSU (n := 1) (C9 := RJ4) (hE.1.1.1 0 _ rfl).2 F (cB_app5 l G A1 aS aV n hAS hAV hne f k hk9 hn9) wML_J4_50 wIM_J5_append_3fe6f wSM_J5_append_1088 wSU_J4 wIN_J5 wCO_J5_append_3fe6f (by decide) (by decide) rfl ⟨by decide, by decide⟩ (frec F hO _ rfl) hS (fun _ h => h) (fun q h => hA q (Nat.le_trans hS.1 h)) ⟨hO, hV⟩ rfl hl.1 (Nat.le_of_ble_eq_true rfl) dJ4_append_cf468_2 ⟨by decide, by decide⟩ (fun E ce q9 H1 locs1 hx9 _ _ _ _ _ => hx9.elim) (fun v H1 locs1 hv hk hS => ?_)
  obtain ⟨rfl, hv⟩ := hv
  refine lv_pop hx hb dJ4_append_cf468_5 rfl ?_
  refine lv_aload_n hx hb dJ4_append_cf468_6 rfl (lv_at hl 0 rfl) ?_
  exact karet hx hb hr hlocks hS (by decide) (by decide) dJ4_append_cf468_7 (⟨rfl, hv⟩)

set_option maxHeartbeats 4000000 in
set_option maxRecDepth 100000 in
theorem cB_length (l : Launch) (G : GE) (A1 : Nat → Prop) (aS aV n : Nat) : KM l G A1 yJ4_length_8abf5 cJ4_length_8abf5 1 (some .int) (rmL 2 0 0) [.ref aS] (fun H => va_at G.1 mcl (aS, .inr (0, [.ref aV, .int 0, .int 0, .int (nI n)])) H) (fun v _ => v = some (.int (nI n))) (fun _ _ => False) := by
  refine KM.of (by decide) (Nat.le_of_ble_eq_true rfl) ?_
  intro p e s m args below meth c F hP ls hl
  have hx := F.1.1
  have hb := F.1.2.1
  have hown := F.1.2.2.2.1
  have hts := F.1.2.2.2.2
  have hr := F.2.1
  have hlocks := F.2.2.1
  have hE := F.2.2.2.2.2.1
  have hA := F.2.2.2.2.2.2
  have hS : va_S A1 s.heap s.heap [] := va_S.rf
  have hl : lv_has ls 1 [(0, .ref aS)] := hl
  have hO := hP
  refine lv_aload_n hx hb dJ4_length_8abf5_0 rfl (lv_at hl 0 rfl) ?_
  refine kcallSU (n := 0) (C9 := RJ4) (hE.1.1.1 0 _ rfl).2 F (cB_length5 l G (fun q => s.heap.size ≤ q) aS aV n) wML_J4_343 wIM_J5_length_8abf5 wSM_J5_length_848 wSU_J4 wIN_J5 wCO_J5_length_8abf5 (by decide) (by decide) rfl ⟨by decide, by decide⟩ (frec F hO _ rfl) hS (fun q h => hA q (Nat.le_trans hS.1 h)) (fun q h => h) hO rfl hl.1 (Nat.le_of_ble_eq_true rfl) dJ4_length_8abf5_1 ⟨by decide, by decide⟩ (fun E ce q9 H1 locs1 hx9 _ _ _ _ _ => hx9.elim) (fun v H1 locs1 hv hk hS => ?_)
  subst hv
  exact kiret hx hb hr hlocks hS (by decide) (by decide) dJ4_length_8abf5_4 (rfl)

