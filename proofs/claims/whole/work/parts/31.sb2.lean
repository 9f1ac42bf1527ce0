section ROWSB
variable {p : Program} {l : Launch} {e : Env} {R : Room} {s : State} {m : MethodId} {args : Array Value} {below : List Frame} {meth : Method} {c : Code} {H : Heap} {locs : List Loc} {cells slots : Nat} {Q : State → Prop}
variable {cc : ByteArray} {pc : Nat} {ls : Array Slot} {rest : List Value} {D : va_G} {cl : List vw_C} {A : Nat → Prop} {a : Nat} {tys : List (ClassId × FieldType)} {H0 : Heap}
theorem xbald (hexec : p.tables.exec = Jvm.exec) (hb : c.code = cc) (hK : va_K D cl tys s) {cA : ClassId} {n : Nat} {f : Nat → Int32} (ha : va_at D cl (a, .inl (cA, n, .inl f)) H) (t0 : Nat) (ht : tys[t0]? = some (cA, .byte)) {k : Nat} {i : Int32} (hi : i = nI k) (hk : k < n) (hn : n < 2 ^ 31) (hdg : decode cc pc = .ok (.baload, 1))
    (kk : W p l e R s m args below meth c H locs cells slots Q (F0 m (pc + 1) ls (.int (f k) :: rest))) : W p l e R s m args below meth c H locs cells slots Q (F0 m pc ls (.int i :: .ref a :: rest)) := by
  subst hi
  refine va_bald (ws := [(a, .inl (cA, n, .inl f))]) hexec hb hK (at1 ha) 0 t0 rfl ht (vp_in_nI hk hn) hdg ?_
  rw [nI_clamp (by omega)]
  exact kk
theorem xbast (hexec : p.tables.exec = Jvm.exec) (hb : c.code = cc) (hK : va_K D cl tys s) (hS : va_S A H0 H locs) {cA : ClassId} {n : Nat} {f : Nat → Int32} (ha : va_at D cl (a, .inl (cA, n, .inl f)) H) (hA : A a) (t0 : Nat) (ht : tys[t0]? = some (cA, .byte)) {k : Nat} {i x x' : Int32} (hi : i = nI k) (hk : k < n) (hn : n < 2 ^ 31) (hx' : vp_nar .byte x = x') (hdg : decode cc pc = .ok (.bastore, 1))
    (kk : ∀ (H1 : Heap) (locs1 : List Loc), va_at D cl (a, .inl (cA, n, .inl (upd f k x'))) H1 → H1.size = H.size → (∀ q, q ≠ a → H1[q]? = H[q]?) → va_S A H0 H1 locs1 → W p l e R s m args below meth c H1 locs1 cells slots Q (F0 m (pc + 1) ls rest)) : W p l e R s m args below meth c H locs cells slots Q (F0 m pc ls (.int x :: .int i :: .ref a :: rest)) := by
  subst hi
  have hin := vp_in_nI hk hn
  refine W.bast hexec hb ha ((hK.2 t0 _ ht).1 n (fun j => .int (f j))) (fun q => by cases q) (by show ¬ (nI k < 0 ∨ (arrV _ _ _).slots.size ≤ _); rw [arrV_size]; exact hin) rfl rfl hdg fun H1 e z oq => ?_
  refine kk H1 _ ?_ z oq (hS.put z oq hA)
  show H1[a]? = some (vp_cell _ _)
  rw [e, vp_cell_i, vp_cell_i, arrV_store, nI_clamp (by omega), ← hx']
  congr 2
  funext q
  by_cases hq : q = k
  · subst hq
    simp [updV, upd, vp_nar]
    try rfl
  · simp [updV, upd, hq]
theorem xgcs {y : MethodName} {nL : Nat} {ret : Option FieldType} {G : GE} (F : FX l p m meth c cc nL ret s args y A G) (hS : va_S A s.heap H locs) {index : Nat} (hl : Cond.fieldLink y.cls index RJ0 "COMPACT_STRINGS" "Z" ∈ gTb) (hdg : decode cc pc = .ok (.getstatic index, 3))
    (kk : W p l e R s m args below meth c H locs cells slots Q (F0 m (pc + 3) ls (.int 1 :: rest))) : W p l e R s m args below meth c H locs cells slots Q (F0 m pc ls rest) :=
  va_gets F.1.1 F.1.2.1 F.2.2.2.2.2.1.2.2.2.1 hS F.1.2.2.2.1 (F.1.2.2.2.2 _ hl) (fun _ h9 => h9) hdg kk
end ROWSB
theorem sb_ens (k : Nat) (hk : k ≤ 16) : nI k - nI 16 >>> ((0 : Int32) &&& 31) ≤ 0 := (by decide : ∀ k, k < 17 → nI k - nI 16 >>> ((0 : Int32) &&& 31) ≤ 0) k (by omega)
theorem sb_chr (k : Nat) (hk : k < 128) : vp_nar .byte ((nI k).toInt8.toInt32) = nI k := (by decide : ∀ k, k < 128 → vp_nar .byte ((nI k).toInt8.toInt32) = nI k) k hk
set_option maxHeartbeats 4000000 in
set_option maxRecDepth 100000 in
theorem cB_isLatin1 (l : Launch) (G : GE) (A1 : Nat → Prop) (aS aV n : Nat) : KM l G A1 yJ5_isLatin1_aae02 cJ5_isLatin1_aae02 1 (some .boolean) (rmL 1 0 0) [.ref aS] (fun H => va_at G.1 mcl (aS, .inr (0, [.ref aV, .int 0, .int 0, .int (nI n)])) H) (fun v _ => v = some (.int 1)) (fun _ _ => False) := by
  refine KM.of (by decide) (Nat.le_of_ble_eq_true rfl) ?_
  intro p e s m args below meth c F hP ls hl
  have hx := F.1.1
  have hb := F.1.2.1
  have hown := F.1.2.2.2.1
  have hts := F.1.2.2.2.2
  have hr := F.2.1
  have hlocks := F.2.2.1
  have hE := F.2.2.2.2.2.1
  have hA := F.2.2.2.2.2.2
  have hS : va_S A1 s.heap s.heap [] := va_S.rf
  have hl : lv_has ls 1 [(0, .ref aS)] := hl
  have hO := hP
  refine xgcs F hS wFL_J5_18 dJ5_isLatin1_aae02_0 ?_
  refine lv_if_eq (tgt := 17) hx hb dJ5_isLatin1_aae02_3 (by decide) (fun c_3_1 => ?_) (fun c_3_1 => ?_)
  · exact absurd c_3_1 (by decide)
  · refine lv_aload_n hx hb dJ5_isLatin1_aae02_6 rfl (lv_at hl 0 rfl) ?_
    refine gJ4 F hO 1 (by decide) wFL_J5_22 (fun _ h9 => h9) (v := .int 0) rfl dJ5_isLatin1_aae02_7 ?_
    refine lv_if_ne (tgt := 17) hx hb dJ5_isLatin1_aae02_10 (by decide) (fun c_10_2 => ?_) (fun c_10_2 => ?_)
    · exact absurd rfl c_10_2
    · refine lv_iconst (v := 1) hx hb dJ5_isLatin1_aae02_13 (by decide) ?_
      refine lv_goto (tgt := 18) hx hb dJ5_isLatin1_aae02_14 (by decide) ?_
      exact kzret hx hb hr hlocks hS (by decide) (by decide) (Or.inr rfl) dJ5_isLatin1_aae02_18 (rfl)

set_option maxHeartbeats 4000000 in
set_option maxRecDepth 100000 in
theorem cB_length5 (l : Launch) (G : GE) (A1 : Nat → Prop) (aS aV n : Nat) : KM l G A1 yJ5_length_8abf5 cJ5_length_8abf5 1 (some .int) (rmL 1 0 0) [.ref aS] (fun H => va_at G.1 mcl (aS, .inr (0, [.ref aV, .int 0, .int 0, .int (nI n)])) H) (fun v _ => v = some (.int (nI n))) (fun _ _ => False) := by
  refine KM.of (by decide) (Nat.le_of_ble_eq_true rfl) ?_
  intro p e s m args below meth c F hP ls hl
  have hx := F.1.1
  have hb := F.1.2.1
  have hown := F.1.2.2.2.1
  have hts := F.1.2.2.2.2
  have hr := F.2.1
  have hlocks := F.2.2.1
  have hE := F.2.2.2.2.2.1
  have hA := F.2.2.2.2.2.2
  have hS : va_S A1 s.heap s.heap [] := va_S.rf
  have hl : lv_has ls 1 [(0, .ref aS)] := hl
  have hO := hP
  refine lv_aload_n hx hb dJ5_length_8abf5_0 rfl (lv_at hl 0 rfl) ?_
  refine gJ4 F hO 3 (by decide) wFL_J5_79 (fun _ h9 => h9) (v := .int (nI n)) rfl dJ5_length_8abf5_1 ?_
  exact kiret hx hb hr hlocks hS (by decide) (by decide) dJ5_length_8abf5_4 (rfl)

set_option maxHeartbeats 4000000 in
set_option maxRecDepth 100000 in
theorem cB_ensure (l : Launch) (G : GE) (A1 : Nat → Prop) (aS aV n : Nat) (f : Nat → Int32) (k : Nat) (hk : k ≤ 16) : KM l G A1 yJ5_ensureCapacityInternal_d00df cJ5_ensureCapacityInternal_d00df 3 none (rmL 1 0 0) [.ref aS, .int (nI k)] (fun H => va_at G.1 mcl (aS, .inr (0, [.ref aV, .int 0, .int 0, .int (nI n)])) H ∧ va_at G.1 mcl (aV, .inl (G.2.1 7, 16, .inl f)) H) (fun v _ => v = none) (fun _ _ => False) := by
  refine KM.of (by decide) (Nat.le_of_ble_eq_true rfl) ?_
  intro p e s m args below meth c F hP ls hl
  have hx := F.1.1
  have hb := F.1.2.1
  have hown := F.1.2.2.2.1
  have hts := F.1.2.2.2.2
  have hr := F.2.1
  have hlocks := F.2.2.1
  have hE := F.2.2.2.2.2.1
  have hA := F.2.2.2.2.2.2
  have hS : va_S A1 s.heap s.heap [] := va_S.rf
  have hl : lv_has ls 3 [(0, .ref aS), (1, .int (nI k))] := hl
  obtain ⟨hO, hV⟩ := hP
  refine lv_aload_n hx hb dJ5_ensureCapacityInternal_d00df_0 rfl (lv_at hl 0 rfl) ?_
  refine gJ4 F hO 0 (by decide) wFL_J5_15 (fun _ h9 => h9) (v := .ref aV) rfl dJ5_ensureCapacityInternal_d00df_1 ?_
  refine xalen hx hb hE.1.1 hV 7 rfl dJ5_ensureCapacityInternal_d00df_4 ?_
  refine lv_aload_n hx hb dJ5_ensureCapacityInternal_d00df_5 rfl (lv_at hl 0 rfl) ?_
  refine gJ4 F hO 1 (by decide) wFL_J5_22 (fun _ h9 => h9) (v := .int 0) rfl dJ5_ensureCapacityInternal_d00df_6 ?_
  refine lv_ishr hx hb dJ5_ensureCapacityInternal_d00df_9 ?_
  refine lv_istore_n (lv' := [(2, .int ((nI 16) >>> (0 &&& 31))), (0, .ref aS), (1, .int (nI k))]) hx hb dJ5_ensureCapacityInternal_d00df_10 rfl hl (by decide) rfl (fun ls hl => ?_)
  refine lv_iload_n hx hb dJ5_ensureCapacityInternal_d00df_11 rfl (lv_at hl 2 rfl) ?_
  refine lv_iload_n hx hb dJ5_ensureCapacityInternal_d00df_12 rfl (lv_at hl 0 rfl) ?_
  refine lv_isub hx hb dJ5_ensureCapacityInternal_d00df_13 ?_
  refine lv_if_le (tgt := 38) hx hb dJ5_ensureCapacityInternal_d00df_14 (by decide) (fun c_14_1 => ?_) (fun c_14_1 => ?_)
  · exact kvret hx hb hr hlocks hS (by decide) (by decide) dJ5_ensureCapacityInternal_d00df_38 (rfl)
  · exact absurd (sb_ens k hk) c_14_1

set_option maxHeartbeats 4000000 in
set_option maxRecDepth 100000 in
theorem cB_canEncode (l : Launch) (G : GE) (A1 : Nat → Prop) (k : Nat) (hk : k < 128) : KM l G A1 yJ1_canEncode_fc78d cJ1_canEncode_fc78d 1 (some .boolean) (rmL 1 0 0) [.int (nI k)] (fun _ => True) (fun v _ => v = some (.int 1)) (fun _ _ => False) := by
  refine KM.of (by decide) (Nat.le_of_ble_eq_true rfl) ?_
  intro p e s m args below meth c F hP ls hl
  have hx := F.1.1
  have hb := F.1.2.1
  have hown := F.1.2.2.2.1
  have hts := F.1.2.2.2.2
  have hr := F.2.1
  have hlocks := F.2.2.1
  have hE := F.2.2.2.2.2.1
  have hA := F.2.2.2.2.2.2
  have hS : va_S A1 s.heap s.heap [] := va_S.rf
  have hl : lv_has ls 1 [(0, .int (nI k))] := hl
  have hP := hP
  refine lv_iload_n hx hb dJ1_canEncode_fc78d_0 rfl (lv_at hl 0 rfl) ?_
  refine lv_sipush (v := 255) hx hb dJ1_canEncode_fc78d_1 (by decide) ?_
  refine lv_icmp_gt (tgt := 11) hx hb dJ1_canEncode_fc78d_4 (by decide) (fun c_4_1 => ?_) (fun c_4_1 => ?_)
  · exact absurd c_4_1 (nI_nlt (b := k) (a := 255) (by omega) (by decide))
  · refine lv_iconst (v := 1) hx hb dJ1_canEncode_fc78d_7 (by decide) ?_
    refine lv_goto (tgt := 12) hx hb dJ1_canEncode_fc78d_8 (by decide) ?_
    exact kzret hx hb hr hlocks hS (by decide) (by decide) (Or.inr rfl) dJ1_canEncode_fc78d_12 (rfl)

