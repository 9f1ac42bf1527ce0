def dg (q u : Nat) : Int32 := nI (48 + q / u % 10)
def mApp (τ : SG) (k : Nat) (ch : Int32) : SG := up (up τ 28 k ch) 29 0 (nI (k + 1))
def mPut (τ : SG) (k q : Nat) : SG := if q < 10 then mApp τ k (dg q 1) else if q < 100 then mApp (mApp τ k (dg q 10)) (k + 1) (dg q 1) else if q < 1000 then mApp (mApp (mApp τ k (dg q 100)) (k + 1) (dg q 10)) (k + 1 + 1) (dg q 1) else mApp (mApp (mApp (mApp τ k (dg q 1000)) (k + 1) (dg q 100)) (k + 1 + 1) (dg q 10)) (k + 1 + 1 + 1) (dg q 1)
theorem mApp_29 {τ : SG} {k : Nat} {ch : Int32} : mApp τ k ch 29 0 = nI (k + 1) := up_s
theorem mApp_ne {τ : SG} {k : Nat} {ch : Int32} {g j : Nat} (hg : g ≠ 28 ∧ g ≠ 29) : mApp τ k ch g j = τ g j := by simp [mApp, up, hg]
theorem mPut_29 {τ : SG} {k q : Nat} : mPut τ k q 29 0 = nI (k + dgn q) := by
  unfold mPut dgn
  split
  · exact mApp_29
  · split
    · exact mApp_29
    · split <;> exact mApp_29
theorem mPut_ne {τ : SG} {k q : Nat} {g j : Nat} (hg : g ≠ 28 ∧ g ≠ 29) : mPut τ k q g j = τ g j := by
  unfold mPut
  split
  · exact mApp_ne hg
  · split
    · rw [mApp_ne hg, mApp_ne hg]
    · split
      · rw [mApp_ne hg, mApp_ne hg, mApp_ne hg]
      · rw [mApp_ne hg, mApp_ne hg, mApp_ne hg, mApp_ne hg]
theorem dg_1000 (q : Nat) (hq : q ≤ 1000) : 48 + (nI q / 1000 - nI q / 1000 / 10 * 10) = dg q 1000 := (by decide +kernel : ∀ q, q < 1001 → 48 + (nI q / 1000 - nI q / 1000 / 10 * 10) = dg q 1000) q (by omega)
theorem dg_100 (q : Nat) (hq : q ≤ 1000) : 48 + (nI q / 100 - nI q / 100 / 10 * 10) = dg q 100 := (by decide +kernel : ∀ q, q < 1001 → 48 + (nI q / 100 - nI q / 100 / 10 * 10) = dg q 100) q (by omega)
theorem dg_10 (q : Nat) (hq : q ≤ 1000) : 48 + (nI q / 10 - nI q / 10 / 10 * 10) = dg q 10 := (by decide +kernel : ∀ q, q < 1001 → 48 + (nI q / 10 - nI q / 10 / 10 * 10) = dg q 10) q (by omega)
theorem dg_1 (q : Nat) (hq : q ≤ 1000) : 48 + (nI q / 1 - nI q / 1 / 10 * 10) = dg q 1 := (by decide +kernel : ∀ q, q < 1001 → 48 + (nI q / 1 - nI q / 1 / 10 * 10) = dg q 1) q (by omega)
set_option maxHeartbeats 4000000 in
set_option maxRecDepth 100000 in
theorem kM_put (l : Launch) (G : GE) (A : Nat → Prop) (ad : Nat → Nat) (τ : SG) (k : Nat) (hk : τ 29 0 = nI k) (hk16 : k < 16) (ch : Int32) : KM l G A yX6_put cX6_put 2 none (rmL 1 0 0) [.ref (ad 30), .int ch] (PM G A ad τ) (fun v H => v = none ∧ PM G A ad (mApp τ k ch) H) (fun _ _ => False) := by
  refine KM.of (by decide) (Nat.le_of_ble_eq_true rfl) ?_
  intro p e s m args below meth c F hP ls hl
  have hx := F.1.1
  have hb := F.1.2.1
  have hown := F.1.2.2.2.1
  have hts := F.1.2.2.2.2
  have hr := F.2.1
  have hlocks := F.2.2.1
  have hE := F.2.2.2.2.2.1
  have hA := F.2.2.2.2.2.2
  have hS : va_S A s.heap s.heap [] := va_S.rf
  have hl : lv_has ls 2 [(0, .ref (ad 30)), (1, .int ch)] := hl
  have hP := hP
  refine lv_aload_n hx hb dX6_put_0 rfl (lv_at hl 0 rfl) ?_
  refine gX6 F hP.main 28 (by decide) wFL_X6_74 (fun _ h9 => h9) (v := .ref (ad 28)) rfl dX6_put_1 ?_
  refine lv_aload_n hx hb dX6_put_4 rfl (lv_at hl 0 rfl) ?_
  refine gX6 F hP.main 29 (by decide) wFL_X6_171 (fun _ h9 => h9) (v := .int (nI k)) (by simp [up, thr, hk]) dX6_put_5 ?_
  refine lv_iload_n hx hb dX6_put_8 rfl (lv_at hl 1 rfl) ?_
  refine xiast hx hb hE.1.1 hS (hP.arr 28 (by decide) (by decide)) (hP.oarr 28 (by decide)) 0 rfl (k := k) rfl (show _ < 16 by omega) (by decide) dX6_put_9 (fun H1 locs1 he1 z1 oq1 hS => ?_)
  have hP := hP.parr 28 k (by decide) (by decide) he1 oq1
  refine lv_aload_n hx hb dX6_put_10 rfl (lv_at hl 0 rfl) ?_
  refine lv_dup hx hb dX6_put_11 rfl ?_
  refine gX6 F hP.main 29 (by decide) wFL_X6_171 (fun _ h9 => h9) (v := .int (nI k)) (by simp [up, thr, hk]) dX6_put_12 ?_
  refine lv_iconst (v := 1) hx hb dX6_put_15 (by decide) ?_
  refine lv_iadd hx hb dX6_put_16 ?_
  refine W.eq (g2 := F0 m 17 ls [.int (nI (k + 1)), .ref (ad 30)]) (congrArg (fun z => F0 m 17 ls [.int z, .ref (ad 30)]) (nI_1 _)) ?_
  refine pX6 F hS hP.main hP.omain 29 (by decide) wFL_X6_171 (fun _ h9 => h9) rfl rfl rfl (by simp) dX6_put_17 (fun H1 locs1 he1 z1 oq1 hS => ?_)
  have hP := hP.p29 he1 oq1
  exact kvret hx hb hr hlocks hS (by decide) (by decide) dX6_put_20 (⟨rfl, hP⟩)

set_option maxHeartbeats 4000000 in
set_option maxRecDepth 100000 in
theorem kM_putNumber (l : Launch) (G : GE) (A : Nat → Prop) (ad : Nat → Nat) (τ : SG) (k q : Nat) (hk : τ 29 0 = nI k) (hk16 : k + 4 ≤ 16) (hq8 : q ≤ 1000) : KM l G A yX6_putNumber cX6_putNumber 3 none (rmL 2 0 0) [.ref (ad 30), .int (nI q)] (PM G A ad τ) (fun v H => v = none ∧ PM G A ad (mPut τ k q) H) (fun _ _ => False) := by
  refine KM.of (by decide) (Nat.le_of_ble_eq_true rfl) ?_
  intro p e s m args below meth c F hP ls hl
  have hx := F.1.1
  have hb := F.1.2.1
  have hown := F.1.2.2.2.1
  have hts := F.1.2.2.2.2
  have hr := F.2.1
  have hlocks := F.2.2.1
  have hE := F.2.2.2.2.2.1
  have hA := F.2.2.2.2.2.2
  have hS : va_S A s.heap s.heap [] := va_S.rf
  have hl : lv_has ls 3 [(0, .ref (ad 30)), (1, .int (nI q))] := hl
  have hP := hP
  refine lv_sipush (v := 1000) hx hb dX6_putNumber_0 (by decide) ?_
  refine lv_istore_n (lv' := [(2, .int 1000), (0, .ref (ad 30)), (1, .int (nI q))]) hx hb dX6_putNumber_3 rfl hl (by decide) rfl (fun ls hl => ?_)
  refine lv_iload_n hx hb dX6_putNumber_4 rfl (lv_at hl 0 rfl) ?_
  refine lv_if_le (tgt := 39) hx hb dX6_putNumber_5 (by decide) (fun c_5_1 => ?_) (fun c_5_1 => ?_)
  · exact absurd c_5_1 (by decide)
  · refine lv_iload_n hx hb dX6_putNumber_8 rfl (lv_at hl 2 rfl) ?_
    refine lv_iload_n hx hb dX6_putNumber_9 rfl (lv_at hl 0 rfl) ?_
    refine lv_icmp_ge (tgt := 18) hx hb dX6_putNumber_10 (by decide) (fun c_10_2 => ?_) (fun c_10_2 => ?_)
    · have hq1000 : 1000 ≤ q := (nI_leI (a := 1000) (by decide) (by omega)).mp c_10_2
      refine lv_aload_n hx hb dX6_putNumber_18 rfl (lv_at hl 1 rfl) ?_
      refine lv_bipush (v := 48) hx hb dX6_putNumber_19 (by decide) ?_
      refine lv_iload_n hx hb dX6_putNumber_21 rfl (lv_at hl 2 rfl) ?_
      refine lv_iload_n hx hb dX6_putNumber_22 rfl (lv_at hl 0 rfl) ?_
      refine lv_idiv hx hb dX6_putNumber_23 (by decide) ?_
      refine lv_bipush (v := 10) hx hb dX6_putNumber_24 (by decide) ?_
      refine lv_irem hx hb dX6_putNumber_26 (by decide) ?_
      refine lv_iadd hx hb dX6_putNumber_27 ?_
      refine W.eq (g2 := F0 m 28 ls [.int (dg q 1000), .ref (ad 30)]) (congrArg (fun z => F0 m 28 ls [.int z, .ref (ad 30)]) (dg_1000 q hq8)) ?_
      refine kcallV (n := 1) F (kM_put l G A ad τ k hk (by omega) (dg q 1000)) wML_X6_174 wIM_X6_put wSE_X6_X6_put wIN_X6 wCO_X6_put (by decide) rfl ⟨by decide, by decide⟩ (frec F hP.main _ rfl) hS (fun _ h => h) (fun q h => hA q (Nat.le_trans hS.1 h)) hP rfl hl.1 (Nat.le_of_ble_eq_true rfl) dX6_putNumber_28 ⟨by decide, by decide⟩ (fun E ce q9 H1 locs1 hx9 _ _ _ _ _ => hx9.elim) (fun v H1 locs1 hv hk hS => ?_)
      obtain ⟨rfl, hP⟩ := hv
      refine lv_iload_n hx hb dX6_putNumber_31 rfl (lv_at hl 0 rfl) ?_
      refine lv_bipush (v := 10) hx hb dX6_putNumber_32 (by decide) ?_
      refine lv_idiv hx hb dX6_putNumber_34 (by decide) ?_
      refine W.eq (g2 := F0 m 35 ls [.int (100)]) (congrArg (fun z => F0 m 35 ls [.int z]) ((by decide : (1000 : Int32) / 10 = 100))) ?_
      refine lv_istore_n (lv' := [(2, .int 100), (0, .ref (ad 30)), (1, .int (nI q))]) hx hb dX6_putNumber_35 rfl hl (by decide) rfl (fun ls hl => ?_)
      refine lv_goto (tgt := 4) hx hb dX6_putNumber_36 (by decide) ?_
      refine lv_iload_n hx hb dX6_putNumber_4 rfl (lv_at hl 0 rfl) ?_
      refine lv_if_le (tgt := 39) hx hb dX6_putNumber_5 (by decide) (fun c_5_3 => ?_) (fun c_5_3 => ?_)
      · exact absurd c_5_3 (by decide)
      · refine lv_iload_n hx hb dX6_putNumber_8 rfl (lv_at hl 2 rfl) ?_
        refine lv_iload_n hx hb dX6_putNumber_9 rfl (lv_at hl 0 rfl) ?_
        refine lv_icmp_ge (tgt := 18) hx hb dX6_putNumber_10 (by decide) (fun c_10_4 => ?_) (fun c_10_4 => ?_)
        · have hq100 : 100 ≤ q := (nI_leI (a := 100) (by decide) (by omega)).mp c_10_4
          refine lv_aload_n hx hb dX6_putNumber_18 rfl (lv_at hl 1 rfl) ?_
          refine lv_bipush (v := 48) hx hb dX6_putNumber_19 (by decide) ?_
          refine lv_iload_n hx hb dX6_putNumber_21 rfl (lv_at hl 2 rfl) ?_
          refine lv_iload_n hx hb dX6_putNumber_22 rfl (lv_at hl 0 rfl) ?_
          refine lv_idiv hx hb dX6_putNumber_23 (by decide) ?_
          refine lv_bipush (v := 10) hx hb dX6_putNumber_24 (by decide) ?_
          refine lv_irem hx hb dX6_putNumber_26 (by decide) ?_
          refine lv_iadd hx hb dX6_putNumber_27 ?_
          refine W.eq (g2 := F0 m 28 ls [.int (dg q 100), .ref (ad 30)]) (congrArg (fun z => F0 m 28 ls [.int z, .ref (ad 30)]) (dg_100 q hq8)) ?_
          refine kcallV (n := 1) F (kM_put l G A ad (mApp τ k (dg q 1000)) (k + 1) mApp_29 (by omega) (dg q 100)) wML_X6_174 wIM_X6_put wSE_X6_X6_put wIN_X6 wCO_X6_put (by decide) rfl ⟨by decide, by decide⟩ (frec F hP.main _ rfl) hS (fun _ h => h) (fun q h => hA q (Nat.le_trans hS.1 h)) hP rfl hl.1 (Nat.le_of_ble_eq_true rfl) dX6_putNumber_28 ⟨by decide, by decide⟩ (fun E ce q9 H1 locs1 hx9 _ _ _ _ _ => hx9.elim) (fun v H1 locs1 hv hk hS => ?_)
          obtain ⟨rfl, hP⟩ := hv
          refine lv_iload_n hx hb dX6_putNumber_31 rfl (lv_at hl 0 rfl) ?_
          refine lv_bipush (v := 10) hx hb dX6_putNumber_32 (by decide) ?_
          refine lv_idiv hx hb dX6_putNumber_34 (by decide) ?_
          refine W.eq (g2 := F0 m 35 ls [.int (10)]) (congrArg (fun z => F0 m 35 ls [.int z]) ((by decide : (100 : Int32) / 10 = 10))) ?_
          refine lv_istore_n (lv' := [(2, .int 10), (0, .ref (ad 30)), (1, .int (nI q))]) hx hb dX6_putNumber_35 rfl hl (by decide) rfl (fun ls hl => ?_)
          refine lv_goto (tgt := 4) hx hb dX6_putNumber_36 (by decide) ?_
          refine lv_iload_n hx hb dX6_putNumber_4 rfl (lv_at hl 0 rfl) ?_
          refine lv_if_le (tgt := 39) hx hb dX6_putNumber_5 (by decide) (fun c_5_5 => ?_) (fun c_5_5 => ?_)
          · exact absurd c_5_5 (by decide)
          · refine lv_iload_n hx hb dX6_putNumber_8 rfl (lv_at hl 2 rfl) ?_
            refine lv_iload_n hx hb dX6_putNumber_9 rfl (lv_at hl 0 rfl) ?_
            refine lv_icmp_ge (tgt := 18) hx hb dX6_putNumber_10 (by decide) (fun c_10_6 => ?_) (fun c_10_6 => ?_)
            · have hq10 : 10 ≤ q := (nI_leI (a := 10) (by decide) (by omega)).mp c_10_6
              refine lv_aload_n hx hb dX6_putNumber_18 rfl (lv_at hl 1 rfl) ?_
              refine lv_bipush (v := 48) hx hb dX6_putNumber_19 (by decide) ?_
              refine lv_iload_n hx hb dX6_putNumber_21 rfl (lv_at hl 2 rfl) ?_
              refine lv_iload_n hx hb dX6_putNumber_22 rfl (lv_at hl 0 rfl) ?_
              refine lv_idiv hx hb dX6_putNumber_23 (by decide) ?_
              refine lv_bipush (v := 10) hx hb dX6_putNumber_24 (by decide) ?_
              refine lv_irem hx hb dX6_putNumber_26 (by decide) ?_
              refine lv_iadd hx hb dX6_putNumber_27 ?_
              refine W.eq (g2 := F0 m 28 ls [.int (dg q 10), .ref (ad 30)]) (congrArg (fun z => F0 m 28 ls [.int z, .ref (ad 30)]) (dg_10 q hq8)) ?_
              refine kcallV (n := 1) F (kM_put l G A ad (mApp (mApp τ k (dg q 1000)) (k + 1) (dg q 100)) (k + 1 + 1) mApp_29 (by omega) (dg q 10)) wML_X6_174 wIM_X6_put wSE_X6_X6_put wIN_X6 wCO_X6_put (by decide) rfl ⟨by decide, by decide⟩ (frec F hP.main _ rfl) hS (fun _ h => h) (fun q h => hA q (Nat.le_trans hS.1 h)) hP rfl hl.1 (Nat.le_of_ble_eq_true rfl) dX6_putNumber_28 ⟨by decide, by decide⟩ (fun E ce q9 H1 locs1 hx9 _ _ _ _ _ => hx9.elim) (fun v H1 locs1 hv hk hS => ?_)
              obtain ⟨rfl, hP⟩ := hv
              refine lv_iload_n hx hb dX6_putNumber_31 rfl (lv_at hl 0 rfl) ?_
              refine lv_bipush (v := 10) hx hb dX6_putNumber_32 (by decide) ?_
              refine lv_idiv hx hb dX6_putNumber_34 (by decide) ?_
              refine W.eq (g2 := F0 m 35 ls [.int (1)]) (congrArg (fun z => F0 m 35 ls [.int z]) ((by decide : (10 : Int32) / 10 = 1))) ?_
              refine lv_istore_n (lv' := [(2, .int 1), (0, .ref (ad 30)), (1, .int (nI q))]) hx hb dX6_putNumber_35 rfl hl (by decide) rfl (fun ls hl => ?_)
              refine lv_goto (tgt := 4) hx hb dX6_putNumber_36 (by decide) ?_
              refine lv_iload_n hx hb dX6_putNumber_4 rfl (lv_at hl 0 rfl) ?_
              refine lv_if_le (tgt := 39) hx hb dX6_putNumber_5 (by decide) (fun c_5_7 => ?_) (fun c_5_7 => ?_)
              · exact absurd c_5_7 (by decide)
              · refine lv_iload_n hx hb dX6_putNumber_8 rfl (lv_at hl 2 rfl) ?_
                refine lv_iload_n hx hb dX6_putNumber_9 rfl (lv_at hl 0 rfl) ?_
                refine lv_icmp_ge (tgt := 18) hx hb dX6_putNumber_10 (by decide) (fun c_10_8 => ?_) (fun c_10_8 => ?_)
                · have hq1 : 1 ≤ q := (nI_leI (a := 1) (by decide) (by omega)).mp c_10_8
                  refine lv_aload_n hx hb dX6_putNumber_18 rfl (lv_at hl 1 rfl) ?_
                  refine lv_bipush (v := 48) hx hb dX6_putNumber_19 (by decide) ?_
                  refine lv_iload_n hx hb dX6_putNumber_21 rfl (lv_at hl 2 rfl) ?_
                  refine lv_iload_n hx hb dX6_putNumber_22 rfl (lv_at hl 0 rfl) ?_
                  refine lv_idiv hx hb dX6_putNumber_23 (by decide) ?_
                  refine lv_bipush (v := 10) hx hb dX6_putNumber_24 (by decide) ?_
                  refine lv_irem hx hb dX6_putNumber_26 (by decide) ?_
                  refine lv_iadd hx hb dX6_putNumber_27 ?_
                  refine W.eq (g2 := F0 m 28 ls [.int (dg q 1), .ref (ad 30)]) (congrArg (fun z => F0 m 28 ls [.int z, .ref (ad 30)]) (dg_1 q hq8)) ?_
                  refine kcallV (n := 1) F (kM_put l G A ad (mApp (mApp (mApp τ k (dg q 1000)) (k + 1) (dg q 100)) (k + 1 + 1) (dg q 10)) (k + 1 + 1 + 1) mApp_29 (by omega) (dg q 1)) wML_X6_174 wIM_X6_put wSE_X6_X6_put wIN_X6 wCO_X6_put (by decide) rfl ⟨by decide, by decide⟩ (frec F hP.main _ rfl) hS (fun _ h => h) (fun q h => hA q (Nat.le_trans hS.1 h)) hP rfl hl.1 (Nat.le_of_ble_eq_true rfl) dX6_putNumber_28 ⟨by decide, by decide⟩ (fun E ce q9 H1 locs1 hx9 _ _ _ _ _ => hx9.elim) (fun v H1 locs1 hv hk hS => ?_)
                  obtain ⟨rfl, hP⟩ := hv
                  refine lv_iload_n hx hb dX6_putNumber_31 rfl (lv_at hl 0 rfl) ?_
                  refine lv_bipush (v := 10) hx hb dX6_putNumber_32 (by decide) ?_
                  refine lv_idiv hx hb dX6_putNumber_34 (by decide) ?_
                  refine W.eq (g2 := F0 m 35 ls [.int (0)]) (congrArg (fun z => F0 m 35 ls [.int z]) ((by decide : (1 : Int32) / 10 = 0))) ?_
                  refine lv_istore_n (lv' := [(2, .int 0), (0, .ref (ad 30)), (1, .int (nI q))]) hx hb dX6_putNumber_35 rfl hl (by decide) rfl (fun ls hl => ?_)
                  refine lv_goto (tgt := 4) hx hb dX6_putNumber_36 (by decide) ?_
                  refine lv_iload_n hx hb dX6_putNumber_4 rfl (lv_at hl 0 rfl) ?_
                  refine lv_if_le (tgt := 39) hx hb dX6_putNumber_5 (by decide) (fun c_5_9 => ?_) (fun c_5_9 => ?_)
                  · exact kvret hx hb hr hlocks hS (by decide) (by decide) dX6_putNumber_39 (⟨rfl, by rw [mPut, if_neg (by omega), if_neg (by omega), if_neg (by omega)]; exact hP⟩)
                  · exact absurd c_5_9 (by decide)
                · have hq1 : q < 1 := Nat.lt_of_not_le (fun z => c_10_8 ((nI_leI (a := 1) (by decide) (by omega)).mpr z))
                  exact absurd hq1 (by omega)
            · have hq10 : q < 10 := Nat.lt_of_not_le (fun z => c_10_6 ((nI_leI (a := 10) (by decide) (by omega)).mpr z))
              exact absurd hq10 (by omega)
        · have hq100 : q < 100 := Nat.lt_of_not_le (fun z => c_10_4 ((nI_leI (a := 100) (by decide) (by omega)).mpr z))
          exact absurd hq100 (by omega)
    · have hq1000 : q < 1000 := Nat.lt_of_not_le (fun z => c_10_2 ((nI_leI (a := 1000) (by decide) (by omega)).mpr z))
      refine lv_iload_n hx hb dX6_putNumber_13 rfl (lv_at hl 0 rfl) ?_
      refine lv_iconst (v := 1) hx hb dX6_putNumber_14 (by decide) ?_
      refine lv_icmp_ne (tgt := 31) hx hb dX6_putNumber_15 (by decide) (fun c_15_10 => ?_) (fun c_15_10 => ?_)
      · refine lv_iload_n hx hb dX6_putNumber_31 rfl (lv_at hl 0 rfl) ?_
        refine lv_bipush (v := 10) hx hb dX6_putNumber_32 (by decide) ?_
        refine lv_idiv hx hb dX6_putNumber_34 (by decide) ?_
        refine W.eq (g2 := F0 m 35 ls [.int (100)]) (congrArg (fun z => F0 m 35 ls [.int z]) ((by decide : (1000 : Int32) / 10 = 100))) ?_
        refine lv_istore_n (lv' := [(2, .int 100), (0, .ref (ad 30)), (1, .int (nI q))]) hx hb dX6_putNumber_35 rfl hl (by decide) rfl (fun ls hl => ?_)
        refine lv_goto (tgt := 4) hx hb dX6_putNumber_36 (by decide) ?_
        refine lv_iload_n hx hb dX6_putNumber_4 rfl (lv_at hl 0 rfl) ?_
        refine lv_if_le (tgt := 39) hx hb dX6_putNumber_5 (by decide) (fun c_5_11 => ?_) (fun c_5_11 => ?_)
        · exact absurd c_5_11 (by decide)
        · refine lv_iload_n hx hb dX6_putNumber_8 rfl (lv_at hl 2 rfl) ?_
          refine lv_iload_n hx hb dX6_putNumber_9 rfl (lv_at hl 0 rfl) ?_
          refine lv_icmp_ge (tgt := 18) hx hb dX6_putNumber_10 (by decide) (fun c_10_12 => ?_) (fun c_10_12 => ?_)
          · have hq100 : 100 ≤ q := (nI_leI (a := 100) (by decide) (by omega)).mp c_10_12
            refine lv_aload_n hx hb dX6_putNumber_18 rfl (lv_at hl 1 rfl) ?_
            refine lv_bipush (v := 48) hx hb dX6_putNumber_19 (by decide) ?_
            refine lv_iload_n hx hb dX6_putNumber_21 rfl (lv_at hl 2 rfl) ?_
            refine lv_iload_n hx hb dX6_putNumber_22 rfl (lv_at hl 0 rfl) ?_
            refine lv_idiv hx hb dX6_putNumber_23 (by decide) ?_
            refine lv_bipush (v := 10) hx hb dX6_putNumber_24 (by decide) ?_
            refine lv_irem hx hb dX6_putNumber_26 (by decide) ?_
            refine lv_iadd hx hb dX6_putNumber_27 ?_
            refine W.eq (g2 := F0 m 28 ls [.int (dg q 100), .ref (ad 30)]) (congrArg (fun z => F0 m 28 ls [.int z, .ref (ad 30)]) (dg_100 q hq8)) ?_
            refine kcallV (n := 1) F (kM_put l G A ad τ k hk (by omega) (dg q 100)) wML_X6_174 wIM_X6_put wSE_X6_X6_put wIN_X6 wCO_X6_put (by decide) rfl ⟨by decide, by decide⟩ (frec F hP.main _ rfl) hS (fun _ h => h) (fun q h => hA q (Nat.le_trans hS.1 h)) hP rfl hl.1 (Nat.le_of_ble_eq_true rfl) dX6_putNumber_28 ⟨by decide, by decide⟩ (fun E ce q9 H1 locs1 hx9 _ _ _ _ _ => hx9.elim) (fun v H1 locs1 hv hk hS => ?_)
            obtain ⟨rfl, hP⟩ := hv
            refine lv_iload_n hx hb dX6_putNumber_31 rfl (lv_at hl 0 rfl) ?_
            refine lv_bipush (v := 10) hx hb dX6_putNumber_32 (by decide) ?_
            refine lv_idiv hx hb dX6_putNumber_34 (by decide) ?_
            refine W.eq (g2 := F0 m 35 ls [.int (10)]) (congrArg (fun z => F0 m 35 ls [.int z]) ((by decide : (100 : Int32) / 10 = 10))) ?_
            refine lv_istore_n (lv' := [(2, .int 10), (0, .ref (ad 30)), (1, .int (nI q))]) hx hb dX6_putNumber_35 rfl hl (by decide) rfl (fun ls hl => ?_)
            refine lv_goto (tgt := 4) hx hb dX6_putNumber_36 (by decide) ?_
            refine lv_iload_n hx hb dX6_putNumber_4 rfl (lv_at hl 0 rfl) ?_
            refine lv_if_le (tgt := 39) hx hb dX6_putNumber_5 (by decide) (fun c_5_13 => ?_) (fun c_5_13 => ?_)
            · exact absurd c_5_13 (by decide)
            · refine lv_iload_n hx hb dX6_putNumber_8 rfl (lv_at hl 2 rfl) ?_
              refine lv_iload_n hx hb dX6_putNumber_9 rfl (lv_at hl 0 rfl) ?_
              refine lv_icmp_ge (tgt := 18) hx hb dX6_putNumber_10 (by decide) (fun c_10_14 => ?_) (fun c_10_14 => ?_)
              · have hq10 : 10 ≤ q := (nI_leI (a := 10) (by decide) (by omega)).mp c_10_14
                refine lv_aload_n hx hb dX6_putNumber_18 rfl (lv_at hl 1 rfl) ?_
                refine lv_bipush (v := 48) hx hb dX6_putNumber_19 (by decide) ?_
                refine lv_iload_n hx hb dX6_putNumber_21 rfl (lv_at hl 2 rfl) ?_
                refine lv_iload_n hx hb dX6_putNumber_22 rfl (lv_at hl 0 rfl) ?_
                refine lv_idiv hx hb dX6_putNumber_23 (by decide) ?_
                refine lv_bipush (v := 10) hx hb dX6_putNumber_24 (by decide) ?_
                refine lv_irem hx hb dX6_putNumber_26 (by decide) ?_
                refine lv_iadd hx hb dX6_putNumber_27 ?_
                refine W.eq (g2 := F0 m 28 ls [.int (dg q 10), .ref (ad 30)]) (congrArg (fun z => F0 m 28 ls [.int z, .ref (ad 30)]) (dg_10 q hq8)) ?_
                refine kcallV (n := 1) F (kM_put l G A ad (mApp τ k (dg q 100)) (k + 1) mApp_29 (by omega) (dg q 10)) wML_X6_174 wIM_X6_put wSE_X6_X6_put wIN_X6 wCO_X6_put (by decide) rfl ⟨by decide, by decide⟩ (frec F hP.main _ rfl) hS (fun _ h => h) (fun q h => hA q (Nat.le_trans hS.1 h)) hP rfl hl.1 (Nat.le_of_ble_eq_true rfl) dX6_putNumber_28 ⟨by decide, by decide⟩ (fun E ce q9 H1 locs1 hx9 _ _ _ _ _ => hx9.elim) (fun v H1 locs1 hv hk hS => ?_)
                obtain ⟨rfl, hP⟩ := hv
                refine lv_iload_n hx hb dX6_putNumber_31 rfl (lv_at hl 0 rfl) ?_
                refine lv_bipush (v := 10) hx hb dX6_putNumber_32 (by decide) ?_
                refine lv_idiv hx hb dX6_putNumber_34 (by decide) ?_
                refine W.eq (g2 := F0 m 35 ls [.int (1)]) (congrArg (fun z => F0 m 35 ls [.int z]) ((by decide : (10 : Int32) / 10 = 1))) ?_
                refine lv_istore_n (lv' := [(2, .int 1), (0, .ref (ad 30)), (1, .int (nI q))]) hx hb dX6_putNumber_35 rfl hl (by decide) rfl (fun ls hl => ?_)
                refine lv_goto (tgt := 4) hx hb dX6_putNumber_36 (by decide) ?_
                refine lv_iload_n hx hb dX6_putNumber_4 rfl (lv_at hl 0 rfl) ?_
                refine lv_if_le (tgt := 39) hx hb dX6_putNumber_5 (by decide) (fun c_5_15 => ?_) (fun c_5_15 => ?_)
                · exact absurd c_5_15 (by decide)
                · refine lv_iload_n hx hb dX6_putNumber_8 rfl (lv_at hl 2 rfl) ?_
                  refine lv_iload_n hx hb dX6_putNumber_9 rfl (lv_at hl 0 rfl) ?_
                  refine lv_icmp_ge (tgt := 18) hx hb dX6_putNumber_10 (by decide) (fun c_10_16 => ?_) (fun c_10_16 => ?_)
                  · have hq1 : 1 ≤ q := (nI_leI (a := 1) (by decide) (by omega)).mp c_10_16
                    refine lv_aload_n hx hb dX6_putNumber_18 rfl (lv_at hl 1 rfl) ?_
                    refine lv_bipush (v := 48) hx hb dX6_putNumber_19 (by decide) ?_
                    refine lv_iload_n hx hb dX6_putNumber_21 rfl (lv_at hl 2 rfl) ?_
                    refine lv_iload_n hx hb dX6_putNumber_22 rfl (lv_at hl 0 rfl) ?_
                    refine lv_idiv hx hb dX6_putNumber_23 (by decide) ?_
                    refine lv_bipush (v := 10) hx hb dX6_putNumber_24 (by decide) ?_
                    refine lv_irem hx hb dX6_putNumber_26 (by decide) ?_
                    refine lv_iadd hx hb dX6_putNumber_27 ?_
                    refine W.eq (g2 := F0 m 28 ls [.int (dg q 1), .ref (ad 30)]) (congrArg (fun z => F0 m 28 ls [.int z, .ref (ad 30)]) (dg_1 q hq8)) ?_
                    refine kcallV (n := 1) F (kM_put l G A ad (mApp (mApp τ k (dg q 100)) (k + 1) (dg q 10)) (k + 1 + 1) mApp_29 (by omega) (dg q 1)) wML_X6_174 wIM_X6_put wSE_X6_X6_put wIN_X6 wCO_X6_put (by decide) rfl ⟨by decide, by decide⟩ (frec F hP.main _ rfl) hS (fun _ h => h) (fun q h => hA q (Nat.le_trans hS.1 h)) hP rfl hl.1 (Nat.le_of_ble_eq_true rfl) dX6_putNumber_28 ⟨by decide, by decide⟩ (fun E ce q9 H1 locs1 hx9 _ _ _ _ _ => hx9.elim) (fun v H1 locs1 hv hk hS => ?_)
                    obtain ⟨rfl, hP⟩ := hv
                    refine lv_iload_n hx hb dX6_putNumber_31 rfl (lv_at hl 0 rfl) ?_
                    refine lv_bipush (v := 10) hx hb dX6_putNumber_32 (by decide) ?_
                    refine lv_idiv hx hb dX6_putNumber_34 (by decide) ?_
                    refine W.eq (g2 := F0 m 35 ls [.int (0)]) (congrArg (fun z => F0 m 35 ls [.int z]) ((by decide : (1 : Int32) / 10 = 0))) ?_
                    refine lv_istore_n (lv' := [(2, .int 0), (0, .ref (ad 30)), (1, .int (nI q))]) hx hb dX6_putNumber_35 rfl hl (by decide) rfl (fun ls hl => ?_)
                    refine lv_goto (tgt := 4) hx hb dX6_putNumber_36 (by decide) ?_
                    refine lv_iload_n hx hb dX6_putNumber_4 rfl (lv_at hl 0 rfl) ?_
                    refine lv_if_le (tgt := 39) hx hb dX6_putNumber_5 (by decide) (fun c_5_17 => ?_) (fun c_5_17 => ?_)
                    · exact kvret hx hb hr hlocks hS (by decide) (by decide) dX6_putNumber_39 (⟨rfl, by rw [mPut, if_neg (by omega), if_neg (by omega), if_pos (by omega)]; exact hP⟩)
                    · exact absurd c_5_17 (by decide)
                  · have hq1 : q < 1 := Nat.lt_of_not_le (fun z => c_10_16 ((nI_leI (a := 1) (by decide) (by omega)).mpr z))
                    exact absurd hq1 (by omega)
              · have hq10 : q < 10 := Nat.lt_of_not_le (fun z => c_10_14 ((nI_leI (a := 10) (by decide) (by omega)).mpr z))
                exact absurd hq10 (by omega)
          · have hq100 : q < 100 := Nat.lt_of_not_le (fun z => c_10_12 ((nI_leI (a := 100) (by decide) (by omega)).mpr z))
            refine lv_iload_n hx hb dX6_putNumber_13 rfl (lv_at hl 0 rfl) ?_
            refine lv_iconst (v := 1) hx hb dX6_putNumber_14 (by decide) ?_
            refine lv_icmp_ne (tgt := 31) hx hb dX6_putNumber_15 (by decide) (fun c_15_18 => ?_) (fun c_15_18 => ?_)
            · refine lv_iload_n hx hb dX6_putNumber_31 rfl (lv_at hl 0 rfl) ?_
              refine lv_bipush (v := 10) hx hb dX6_putNumber_32 (by decide) ?_
              refine lv_idiv hx hb dX6_putNumber_34 (by decide) ?_
              refine W.eq (g2 := F0 m 35 ls [.int (10)]) (congrArg (fun z => F0 m 35 ls [.int z]) ((by decide : (100 : Int32) / 10 = 10))) ?_
              refine lv_istore_n (lv' := [(2, .int 10), (0, .ref (ad 30)), (1, .int (nI q))]) hx hb dX6_putNumber_35 rfl hl (by decide) rfl (fun ls hl => ?_)
              refine lv_goto (tgt := 4) hx hb dX6_putNumber_36 (by decide) ?_
              refine lv_iload_n hx hb dX6_putNumber_4 rfl (lv_at hl 0 rfl) ?_
              refine lv_if_le (tgt := 39) hx hb dX6_putNumber_5 (by decide) (fun c_5_19 => ?_) (fun c_5_19 => ?_)
              · exact absurd c_5_19 (by decide)
              · refine lv_iload_n hx hb dX6_putNumber_8 rfl (lv_at hl 2 rfl) ?_
                refine lv_iload_n hx hb dX6_putNumber_9 rfl (lv_at hl 0 rfl) ?_
                refine lv_icmp_ge (tgt := 18) hx hb dX6_putNumber_10 (by decide) (fun c_10_20 => ?_) (fun c_10_20 => ?_)
                · have hq10 : 10 ≤ q := (nI_leI (a := 10) (by decide) (by omega)).mp c_10_20
                  refine lv_aload_n hx hb dX6_putNumber_18 rfl (lv_at hl 1 rfl) ?_
                  refine lv_bipush (v := 48) hx hb dX6_putNumber_19 (by decide) ?_
                  refine lv_iload_n hx hb dX6_putNumber_21 rfl (lv_at hl 2 rfl) ?_
                  refine lv_iload_n hx hb dX6_putNumber_22 rfl (lv_at hl 0 rfl) ?_
                  refine lv_idiv hx hb dX6_putNumber_23 (by decide) ?_
                  refine lv_bipush (v := 10) hx hb dX6_putNumber_24 (by decide) ?_
                  refine lv_irem hx hb dX6_putNumber_26 (by decide) ?_
                  refine lv_iadd hx hb dX6_putNumber_27 ?_
                  refine W.eq (g2 := F0 m 28 ls [.int (dg q 10), .ref (ad 30)]) (congrArg (fun z => F0 m 28 ls [.int z, .ref (ad 30)]) (dg_10 q hq8)) ?_
                  refine kcallV (n := 1) F (kM_put l G A ad τ k hk (by omega) (dg q 10)) wML_X6_174 wIM_X6_put wSE_X6_X6_put wIN_X6 wCO_X6_put (by decide) rfl ⟨by decide, by decide⟩ (frec F hP.main _ rfl) hS (fun _ h => h) (fun q h => hA q (Nat.le_trans hS.1 h)) hP rfl hl.1 (Nat.le_of_ble_eq_true rfl) dX6_putNumber_28 ⟨by decide, by decide⟩ (fun E ce q9 H1 locs1 hx9 _ _ _ _ _ => hx9.elim) (fun v H1 locs1 hv hk hS => ?_)
                  obtain ⟨rfl, hP⟩ := hv
                  refine lv_iload_n hx hb dX6_putNumber_31 rfl (lv_at hl 0 rfl) ?_
                  refine lv_bipush (v := 10) hx hb dX6_putNumber_32 (by decide) ?_
                  refine lv_idiv hx hb dX6_putNumber_34 (by decide) ?_
                  refine W.eq (g2 := F0 m 35 ls [.int (1)]) (congrArg (fun z => F0 m 35 ls [.int z]) ((by decide : (10 : Int32) / 10 = 1))) ?_
                  refine lv_istore_n (lv' := [(2, .int 1), (0, .ref (ad 30)), (1, .int (nI q))]) hx hb dX6_putNumber_35 rfl hl (by decide) rfl (fun ls hl => ?_)
                  refine lv_goto (tgt := 4) hx hb dX6_putNumber_36 (by decide) ?_
                  refine lv_iload_n hx hb dX6_putNumber_4 rfl (lv_at hl 0 rfl) ?_
                  refine lv_if_le (tgt := 39) hx hb dX6_putNumber_5 (by decide) (fun c_5_21 => ?_) (fun c_5_21 => ?_)
                  · exact absurd c_5_21 (by decide)
                  · refine lv_iload_n hx hb dX6_putNumber_8 rfl (lv_at hl 2 rfl) ?_
                    refine lv_iload_n hx hb dX6_putNumber_9 rfl (lv_at hl 0 rfl) ?_
                    refine lv_icmp_ge (tgt := 18) hx hb dX6_putNumber_10 (by decide) (fun c_10_22 => ?_) (fun c_10_22 => ?_)
                    · have hq1 : 1 ≤ q := (nI_leI (a := 1) (by decide) (by omega)).mp c_10_22
                      refine lv_aload_n hx hb dX6_putNumber_18 rfl (lv_at hl 1 rfl) ?_
                      refine lv_bipush (v := 48) hx hb dX6_putNumber_19 (by decide) ?_
                      refine lv_iload_n hx hb dX6_putNumber_21 rfl (lv_at hl 2 rfl) ?_
                      refine lv_iload_n hx hb dX6_putNumber_22 rfl (lv_at hl 0 rfl) ?_
                      refine lv_idiv hx hb dX6_putNumber_23 (by decide) ?_
                      refine lv_bipush (v := 10) hx hb dX6_putNumber_24 (by decide) ?_
                      refine lv_irem hx hb dX6_putNumber_26 (by decide) ?_
                      refine lv_iadd hx hb dX6_putNumber_27 ?_
                      refine W.eq (g2 := F0 m 28 ls [.int (dg q 1), .ref (ad 30)]) (congrArg (fun z => F0 m 28 ls [.int z, .ref (ad 30)]) (dg_1 q hq8)) ?_
                      refine kcallV (n := 1) F (kM_put l G A ad (mApp τ k (dg q 10)) (k + 1) mApp_29 (by omega) (dg q 1)) wML_X6_174 wIM_X6_put wSE_X6_X6_put wIN_X6 wCO_X6_put (by decide) rfl ⟨by decide, by decide⟩ (frec F hP.main _ rfl) hS (fun _ h => h) (fun q h => hA q (Nat.le_trans hS.1 h)) hP rfl hl.1 (Nat.le_of_ble_eq_true rfl) dX6_putNumber_28 ⟨by decide, by decide⟩ (fun E ce q9 H1 locs1 hx9 _ _ _ _ _ => hx9.elim) (fun v H1 locs1 hv hk hS => ?_)
                      obtain ⟨rfl, hP⟩ := hv
                      refine lv_iload_n hx hb dX6_putNumber_31 rfl (lv_at hl 0 rfl) ?_
                      refine lv_bipush (v := 10) hx hb dX6_putNumber_32 (by decide) ?_
                      refine lv_idiv hx hb dX6_putNumber_34 (by decide) ?_
                      refine W.eq (g2 := F0 m 35 ls [.int (0)]) (congrArg (fun z => F0 m 35 ls [.int z]) ((by decide : (1 : Int32) / 10 = 0))) ?_
                      refine lv_istore_n (lv' := [(2, .int 0), (0, .ref (ad 30)), (1, .int (nI q))]) hx hb dX6_putNumber_35 rfl hl (by decide) rfl (fun ls hl => ?_)
                      refine lv_goto (tgt := 4) hx hb dX6_putNumber_36 (by decide) ?_
                      refine lv_iload_n hx hb dX6_putNumber_4 rfl (lv_at hl 0 rfl) ?_
                      refine lv_if_le (tgt := 39) hx hb dX6_putNumber_5 (by decide) (fun c_5_23 => ?_) (fun c_5_23 => ?_)
                      · exact kvret hx hb hr hlocks hS (by decide) (by decide) dX6_putNumber_39 (⟨rfl, by rw [mPut, if_neg (by omega), if_pos (by omega)]; exact hP⟩)
                      · exact absurd c_5_23 (by decide)
                    · have hq1 : q < 1 := Nat.lt_of_not_le (fun z => c_10_22 ((nI_leI (a := 1) (by decide) (by omega)).mpr z))
                      exact absurd hq1 (by omega)
                · have hq10 : q < 10 := Nat.lt_of_not_le (fun z => c_10_20 ((nI_leI (a := 10) (by decide) (by omega)).mpr z))
                  refine lv_iload_n hx hb dX6_putNumber_13 rfl (lv_at hl 0 rfl) ?_
                  refine lv_iconst (v := 1) hx hb dX6_putNumber_14 (by decide) ?_
                  refine lv_icmp_ne (tgt := 31) hx hb dX6_putNumber_15 (by decide) (fun c_15_24 => ?_) (fun c_15_24 => ?_)
                  · refine lv_iload_n hx hb dX6_putNumber_31 rfl (lv_at hl 0 rfl) ?_
                    refine lv_bipush (v := 10) hx hb dX6_putNumber_32 (by decide) ?_
                    refine lv_idiv hx hb dX6_putNumber_34 (by decide) ?_
                    refine W.eq (g2 := F0 m 35 ls [.int (1)]) (congrArg (fun z => F0 m 35 ls [.int z]) ((by decide : (10 : Int32) / 10 = 1))) ?_
                    refine lv_istore_n (lv' := [(2, .int 1), (0, .ref (ad 30)), (1, .int (nI q))]) hx hb dX6_putNumber_35 rfl hl (by decide) rfl (fun ls hl => ?_)
                    refine lv_goto (tgt := 4) hx hb dX6_putNumber_36 (by decide) ?_
                    refine lv_iload_n hx hb dX6_putNumber_4 rfl (lv_at hl 0 rfl) ?_
                    refine lv_if_le (tgt := 39) hx hb dX6_putNumber_5 (by decide) (fun c_5_25 => ?_) (fun c_5_25 => ?_)
                    · exact absurd c_5_25 (by decide)
                    · refine lv_iload_n hx hb dX6_putNumber_8 rfl (lv_at hl 2 rfl) ?_
                      refine lv_iload_n hx hb dX6_putNumber_9 rfl (lv_at hl 0 rfl) ?_
                      refine lv_icmp_ge (tgt := 18) hx hb dX6_putNumber_10 (by decide) (fun c_10_26 => ?_) (fun c_10_26 => ?_)
                      · have hq1 : 1 ≤ q := (nI_leI (a := 1) (by decide) (by omega)).mp c_10_26
                        refine lv_aload_n hx hb dX6_putNumber_18 rfl (lv_at hl 1 rfl) ?_
                        refine lv_bipush (v := 48) hx hb dX6_putNumber_19 (by decide) ?_
                        refine lv_iload_n hx hb dX6_putNumber_21 rfl (lv_at hl 2 rfl) ?_
                        refine lv_iload_n hx hb dX6_putNumber_22 rfl (lv_at hl 0 rfl) ?_
                        refine lv_idiv hx hb dX6_putNumber_23 (by decide) ?_
                        refine lv_bipush (v := 10) hx hb dX6_putNumber_24 (by decide) ?_
                        refine lv_irem hx hb dX6_putNumber_26 (by decide) ?_
                        refine lv_iadd hx hb dX6_putNumber_27 ?_
                        refine W.eq (g2 := F0 m 28 ls [.int (dg q 1), .ref (ad 30)]) (congrArg (fun z => F0 m 28 ls [.int z, .ref (ad 30)]) (dg_1 q hq8)) ?_
                        refine kcallV (n := 1) F (kM_put l G A ad τ k hk (by omega) (dg q 1)) wML_X6_174 wIM_X6_put wSE_X6_X6_put wIN_X6 wCO_X6_put (by decide) rfl ⟨by decide, by decide⟩ (frec F hP.main _ rfl) hS (fun _ h => h) (fun q h => hA q (Nat.le_trans hS.1 h)) hP rfl hl.1 (Nat.le_of_ble_eq_true rfl) dX6_putNumber_28 ⟨by decide, by decide⟩ (fun E ce q9 H1 locs1 hx9 _ _ _ _ _ => hx9.elim) (fun v H1 locs1 hv hk hS => ?_)
                        obtain ⟨rfl, hP⟩ := hv
                        refine lv_iload_n hx hb dX6_putNumber_31 rfl (lv_at hl 0 rfl) ?_
                        refine lv_bipush (v := 10) hx hb dX6_putNumber_32 (by decide) ?_
                        refine lv_idiv hx hb dX6_putNumber_34 (by decide) ?_
                        refine W.eq (g2 := F0 m 35 ls [.int (0)]) (congrArg (fun z => F0 m 35 ls [.int z]) ((by decide : (1 : Int32) / 10 = 0))) ?_
                        refine lv_istore_n (lv' := [(2, .int 0), (0, .ref (ad 30)), (1, .int (nI q))]) hx hb dX6_putNumber_35 rfl hl (by decide) rfl (fun ls hl => ?_)
                        refine lv_goto (tgt := 4) hx hb dX6_putNumber_36 (by decide) ?_
                        refine lv_iload_n hx hb dX6_putNumber_4 rfl (lv_at hl 0 rfl) ?_
                        refine lv_if_le (tgt := 39) hx hb dX6_putNumber_5 (by decide) (fun c_5_27 => ?_) (fun c_5_27 => ?_)
                        · exact kvret hx hb hr hlocks hS (by decide) (by decide) dX6_putNumber_39 (⟨rfl, by rw [mPut, if_pos (by omega)]; exact hP⟩)
                        · exact absurd c_5_27 (by decide)
                      · have hq1 : q < 1 := Nat.lt_of_not_le (fun z => c_10_26 ((nI_leI (a := 1) (by decide) (by omega)).mpr z))
                        refine lv_iload_n hx hb dX6_putNumber_13 rfl (lv_at hl 0 rfl) ?_
                        refine lv_iconst (v := 1) hx hb dX6_putNumber_14 (by decide) ?_
                        refine lv_icmp_ne (tgt := 31) hx hb dX6_putNumber_15 (by decide) (fun c_15_28 => ?_) (fun c_15_28 => ?_)
                        · exact absurd c_15_28 (by decide)
                        · refine lv_aload_n hx hb dX6_putNumber_18 rfl (lv_at hl 1 rfl) ?_
                          refine lv_bipush (v := 48) hx hb dX6_putNumber_19 (by decide) ?_
                          refine lv_iload_n hx hb dX6_putNumber_21 rfl (lv_at hl 2 rfl) ?_
                          refine lv_iload_n hx hb dX6_putNumber_22 rfl (lv_at hl 0 rfl) ?_
                          refine lv_idiv hx hb dX6_putNumber_23 (by decide) ?_
                          refine lv_bipush (v := 10) hx hb dX6_putNumber_24 (by decide) ?_
                          refine lv_irem hx hb dX6_putNumber_26 (by decide) ?_
                          refine lv_iadd hx hb dX6_putNumber_27 ?_
                          refine W.eq (g2 := F0 m 28 ls [.int (dg q 1), .ref (ad 30)]) (congrArg (fun z => F0 m 28 ls [.int z, .ref (ad 30)]) (dg_1 q hq8)) ?_
                          refine kcallV (n := 1) F (kM_put l G A ad τ k hk (by omega) (dg q 1)) wML_X6_174 wIM_X6_put wSE_X6_X6_put wIN_X6 wCO_X6_put (by decide) rfl ⟨by decide, by decide⟩ (frec F hP.main _ rfl) hS (fun _ h => h) (fun q h => hA q (Nat.le_trans hS.1 h)) hP rfl hl.1 (Nat.le_of_ble_eq_true rfl) dX6_putNumber_28 ⟨by decide, by decide⟩ (fun E ce q9 H1 locs1 hx9 _ _ _ _ _ => hx9.elim) (fun v H1 locs1 hv hk hS => ?_)
                          obtain ⟨rfl, hP⟩ := hv
                          refine lv_iload_n hx hb dX6_putNumber_31 rfl (lv_at hl 0 rfl) ?_
                          refine lv_bipush (v := 10) hx hb dX6_putNumber_32 (by decide) ?_
                          refine lv_idiv hx hb dX6_putNumber_34 (by decide) ?_
                          refine W.eq (g2 := F0 m 35 ls [.int (0)]) (congrArg (fun z => F0 m 35 ls [.int z]) ((by decide : (1 : Int32) / 10 = 0))) ?_
                          refine lv_istore_n (lv' := [(2, .int 0), (0, .ref (ad 30)), (1, .int (nI q))]) hx hb dX6_putNumber_35 rfl hl (by decide) rfl (fun ls hl => ?_)
                          refine lv_goto (tgt := 4) hx hb dX6_putNumber_36 (by decide) ?_
                          refine lv_iload_n hx hb dX6_putNumber_4 rfl (lv_at hl 0 rfl) ?_
                          refine lv_if_le (tgt := 39) hx hb dX6_putNumber_5 (by decide) (fun c_5_29 => ?_) (fun c_5_29 => ?_)
                          · exact kvret hx hb hr hlocks hS (by decide) (by decide) dX6_putNumber_39 (⟨rfl, by rw [mPut, if_pos (by omega)]; exact hP⟩)
                          · exact absurd c_5_29 (by decide)
                  · exact absurd c_15_24 (by decide)
            · exact absurd c_15_18 (by decide)
      · exact absurd c_15_10 (by decide)

def mTi0 (τ : SG) (u h b : Nat) : SG := mPut (mApp (mPut (mApp (up τ 29 0 0) 0 (nI (65 + h))) 1 u) (1 + dgn u) 64) (1 + dgn u + 1) b
def mTi1 (τ : SG) (u h b fe : Nat) : SG := mPut (mApp (mTi0 τ u h b) (1 + dgn u + 1 + dgn b) 36) (1 + dgn u + 1 + dgn b + 1) fe
theorem mTi0_29 {τ : SG} {u h b : Nat} : mTi0 τ u h b 29 0 = nI (1 + dgn u + 1 + dgn b) := mPut_29
theorem mTi1_29 {τ : SG} {u h b fe : Nat} : mTi1 τ u h b fe 29 0 = nI (1 + dgn u + 1 + dgn b + 1 + dgn fe) := mPut_29
theorem mTi0_ne {τ : SG} {u h b g j : Nat} (hg : g ≠ 28 ∧ g ≠ 29) : mTi0 τ u h b g j = τ g j := by
  unfold mTi0
  rw [mPut_ne hg, mApp_ne hg, mPut_ne hg, mApp_ne hg, up_f hg.2]
theorem mTi1_ne {τ : SG} {u h b fe g j : Nat} (hg : g ≠ 28 ∧ g ≠ 29) : mTi1 τ u h b fe g j = τ g j := by
  unfold mTi1
  rw [mPut_ne hg, mApp_ne hg, mTi0_ne hg]
theorem dgn_leM (q : Nat) : 1 ≤ dgn q ∧ dgn q ≤ 4 := by unfold dgn; split <;> (try split) <;> (try split) <;> omega
theorem dgn_12 {q : Nat} (h : q < 12) : dgn q ≤ 2 := by unfold dgn; split <;> (try split) <;> omega
theorem aH (h : Nat) (hh : h < 4) : 65 + nI h = nI (65 + h) := (by decide : ∀ h, h < 4 → 65 + nI h = nI (65 + h)) h hh
def cm_titleAt (τ : SG) (nW : Nat) (vw vp : Int32) (v : Int32) (τ' : SG) : Prop := (¬ ((∃ j, j < nW ∧ vw = nI j) ∧ 0 ≤ vp) ∧ τ' = thr τ 1) ∨ (∃ u h b fe, u < nW ∧ vw = nI u ∧ 0 ≤ vp ∧ h < 4 ∧ τ 17 u = nI h ∧ b < 12 ∧ τ 18 u = nI b ∧ fe ≤ 1000 ∧ τ 20 u = nI fe ∧ ∃ N S, ((τ 19 u = 0 ∧ N = 1 + dgn u + 1 + dgn b ∧ S = mTi0 (thr τ 0) u h b) ∨ (¬ τ 19 u = 0 ∧ N = 1 + dgn u + 1 + dgn b + 1 + dgn fe ∧ S = mTi1 (thr τ 0) u h b fe)) ∧ τ' = S ∧ ((∃ i, i < N ∧ vp = nI i ∧ v = S 28 i) ∨ (nI N ≤ vp ∧ v = -1)))
set_option maxHeartbeats 4000000 in
set_option maxRecDepth 100000 in
theorem kR_titleAt (l : Launch) (G : GE) (A : Nat → Prop) (ad : Nat → Nat) (τ : SG) (vw vp : Int32) (nW : Nat) (hw : τ 16 0 = nI nW) (hnW : nW ≤ 12) (hW0 : WFm τ nW) (hHg : ∀ u, u < nW → ∃ b, b < 12 ∧ τ 18 u = nI b) (hFe : ∀ u, u < nW → ∃ fe, fe ≤ 1000 ∧ τ 20 u = nI fe) : KM l G A yX6_titleAt cX6_titleAt 3 (some .int) (rmL 4 0 0) [.ref (ad 30), .int vw, .int vp] (PM G A ad τ) (fun v H => ∃ x τ', v = some (.int x) ∧ PM G A ad τ' H ∧ cm_titleAt τ nW vw vp x τ') (fun _ _ => False) := by
  refine KM.of (by decide) (Nat.le_of_ble_eq_true rfl) ?_
  intro p e s m args below meth c F hP ls hl
  have hx := F.1.1
  have hb := F.1.2.1
  have hown := F.1.2.2.2.1
  have hts := F.1.2.2.2.2
  have hr := F.2.1
  have hlocks := F.2.2.1
  have hE := F.2.2.2.2.2.1
  have hA := F.2.2.2.2.2.2
  have hS : va_S A s.heap s.heap [] := va_S.rf
  have hl : lv_has ls 3 [(0, .ref (ad 30)), (1, .int vw), (2, .int vp)] := hl
  have hP := hP
  refine lv_aload_n hx hb dX6_titleAt_0 rfl (lv_at hl 0 rfl) ?_
  refine lv_aload_n hx hb dX6_titleAt_1 rfl (lv_at hl 0 rfl) ?_
  refine lv_iload_n hx hb dX6_titleAt_2 rfl (lv_at hl 1 rfl) ?_
  refine kcallV (n := 1) F (kM_isWork l G (fun q => s.heap.size ≤ q) A ad τ vw) wML_X6_155 wIM_X6_isWork wSE_X6_X6_isWork wIN_X6 wCO_X6_isWork (by decide) rfl ⟨by decide, by decide⟩ (frec F hP.main _ rfl) hS (fun q h => hA q (Nat.le_trans hS.1 h)) (fun q h => h) hP rfl hl.1 (Nat.le_of_ble_eq_true rfl) dX6_titleAt_3 ⟨by decide, by decide⟩ (fun E ce q9 H1 locs1 hx9 _ _ _ _ _ => hx9.elim) (fun v H1 locs1 hv hk hS => ?_)
  have hP := hP.old hk
  subst hv
  refine lv_if_eq (tgt := 17) hx hb dX6_titleAt_6 (by decide) (fun c_6_1 => ?_) (fun c_6_1 => ?_)
  · have no_vw := in_no (n := nW) (by rw [hw]; exact m1p) (by omega) (b2i_0.mp c_6_1)
    refine lv_iconst (v := 1) hx hb dX6_titleAt_17 (by decide) ?_
    refine pX6 F hS hP.main hP.omain 27 (by decide) wFL_X6_81 (fun _ h9 => h9) rfl rfl rfl (by simp) dX6_titleAt_18 (fun H1 locs1 he1 z1 oq1 hS => ?_)
    have hP : PM G A ad (thr τ 1) H1 := hP.p27 he1 oq1
    refine lv_aload_n hx hb dX6_titleAt_21 rfl (lv_at hl 0 rfl) ?_
    refine gX6 F hP.main 27 (by decide) wFL_X6_81 (fun _ h9 => h9) (v := .int 1) (by simp [thr, up]) dX6_titleAt_22 ?_
    refine lv_if_le (tgt := 30) hx hb dX6_titleAt_25 (by decide) (fun c_25_2 => ?_) (fun c_25_2 => ?_)
    · exact absurd c_25_2 (by decide)
    · refine lv_iconst (v := 0) hx hb dX6_titleAt_28 (by decide) ?_
      exact kiret hx hb hr hlocks hS (by decide) (by decide) dX6_titleAt_29 (⟨_, _, rfl, hP, Or.inl (⟨fun z => no_vw z.1, rfl⟩)⟩)
  · obtain ⟨u, hu, rfl⟩ := in_ex (n := nW) (by rw [hw]; exact m1p) (by omega) (b2i_1.mp c_6_1)
    refine lv_iload_n hx hb dX6_titleAt_9 rfl (lv_at hl 2 rfl) ?_
    refine lv_if_lt (tgt := 17) hx hb dX6_titleAt_10 (by decide) (fun c_10_3 => ?_) (fun c_10_3 => ?_)
    · refine lv_iconst (v := 1) hx hb dX6_titleAt_17 (by decide) ?_
      refine pX6 F hS hP.main hP.omain 27 (by decide) wFL_X6_81 (fun _ h9 => h9) rfl rfl rfl (by simp) dX6_titleAt_18 (fun H1 locs1 he1 z1 oq1 hS => ?_)
      have hP : PM G A ad (thr τ 1) H1 := hP.p27 he1 oq1
      refine lv_aload_n hx hb dX6_titleAt_21 rfl (lv_at hl 0 rfl) ?_
      refine gX6 F hP.main 27 (by decide) wFL_X6_81 (fun _ h9 => h9) (v := .int 1) (by simp [thr, up]) dX6_titleAt_22 ?_
      refine lv_if_le (tgt := 30) hx hb dX6_titleAt_25 (by decide) (fun c_25_4 => ?_) (fun c_25_4 => ?_)
      · exact absurd c_25_4 (by decide)
      · refine lv_iconst (v := 0) hx hb dX6_titleAt_28 (by decide) ?_
        exact kiret hx hb hr hlocks hS (by decide) (by decide) dX6_titleAt_29 (⟨_, _, rfl, hP, Or.inl (⟨fun z => Int32.not_le.mpr c_10_3 z.2, rfl⟩)⟩)
    · refine lv_iconst (v := 0) hx hb dX6_titleAt_13 (by decide) ?_
      refine lv_goto (tgt := 18) hx hb dX6_titleAt_14 (by decide) ?_
      refine pX6 F hS hP.main hP.omain 27 (by decide) wFL_X6_81 (fun _ h9 => h9) rfl rfl rfl (by simp) dX6_titleAt_18 (fun H1 locs1 he1 z1 oq1 hS => ?_)
      have hP : PM G A ad (thr τ 0) H1 := hP.p27 he1 oq1
      refine lv_aload_n hx hb dX6_titleAt_21 rfl (lv_at hl 0 rfl) ?_
      refine gX6 F hP.main 27 (by decide) wFL_X6_81 (fun _ h9 => h9) (v := .int 0) (by simp [thr, up]) dX6_titleAt_22 ?_
      refine lv_if_le (tgt := 30) hx hb dX6_titleAt_25 (by decide) (fun c_25_5 => ?_) (fun c_25_5 => ?_)
      · obtain ⟨h, hh9, eh⟩ := hW0 u hu
        obtain ⟨b, hb12, eb⟩ := hHg u hu
        obtain ⟨fe, hfe, ef⟩ := hFe u hu
        have hu12 : u < 12 := Nat.lt_of_lt_of_le hu hnW
        refine lv_aload_n hx hb dX6_titleAt_30 rfl (lv_at hl 0 rfl) ?_
        refine lv_iconst (v := 0) hx hb dX6_titleAt_31 (by decide) ?_
        refine pX6 F hS hP.main hP.omain 29 (by decide) wFL_X6_171 (fun _ h9 => h9) rfl rfl rfl (by simp) dX6_titleAt_32 (fun H1 locs1 he1 z1 oq1 hS => ?_)
        have hP := hP.p29 he1 oq1
        refine lv_aload_n hx hb dX6_titleAt_35 rfl (lv_at hl 0 rfl) ?_
        refine lv_bipush (v := 65) hx hb dX6_titleAt_36 (by decide) ?_
        refine lv_aload_n hx hb dX6_titleAt_38 rfl (lv_at hl 0 rfl) ?_
        refine gX6 F hP.main 17 (by decide) wFL_X6_50 (fun _ h9 => h9) (v := .ref (ad 17)) rfl dX6_titleAt_39 ?_
        refine lv_iload_n hx hb dX6_titleAt_42 rfl (lv_at hl 1 rfl) ?_
        refine xiald hx hb hE.1.1 (hP.arr 17 (by decide) (by decide)) 0 rfl (k := u) rfl (show _ < 12 by omega) (by decide) dX6_titleAt_43 ?_
        rw [show (up (thr τ 0) 29 0 0) 17 u = (thr τ 0) 17 u from by simp [up]]
        refine W.eq (g2 := F0 m 44 ls [.int (nI h), .int 65, .ref (ad 30)]) (congrArg (fun z => F0 m 44 ls [.int z, .int 65, .ref (ad 30)]) ((show (thr τ 0) 17 u = nI h from by simp [up, thr, eh]))) ?_
        refine lv_iadd hx hb dX6_titleAt_44 ?_
        refine W.eq (g2 := F0 m 45 ls [.int (nI (65 + h)), .ref (ad 30)]) (congrArg (fun z => F0 m 45 ls [.int z, .ref (ad 30)]) (aH h hh9)) ?_
        refine kcallV (n := 1) F (kM_put l G A ad (up (thr τ 0) 29 0 0) 0 (by simp [up]; rfl) (by have := dgn_12 hu12; have := dgn_12 hb12; omega) (nI (65 + h))) wML_X6_174 wIM_X6_put wSE_X6_X6_put wIN_X6 wCO_X6_put (by decide) rfl ⟨by decide, by decide⟩ (frec F hP.main _ rfl) hS (fun _ h => h) (fun q h => hA q (Nat.le_trans hS.1 h)) hP rfl hl.1 (Nat.le_of_ble_eq_true rfl) dX6_titleAt_45 ⟨by decide, by decide⟩ (fun E ce q9 H1 locs1 hx9 _ _ _ _ _ => hx9.elim) (fun v H1 locs1 hv hk hS => ?_)
        obtain ⟨rfl, hP⟩ := hv
        refine lv_aload_n hx hb dX6_titleAt_48 rfl (lv_at hl 0 rfl) ?_
        refine lv_iload_n hx hb dX6_titleAt_49 rfl (lv_at hl 1 rfl) ?_
        refine kcallV (n := 1) F (kM_putNumber l G A ad (mApp (up (thr τ 0) 29 0 0) 0 (nI (65 + h))) 1 u mApp_29 (by have := dgn_12 hu12; have := dgn_12 hb12; omega) (by omega)) wML_X6_177 wIM_X6_putNumber wSE_X6_X6_putNumber wIN_X6 wCO_X6_putNumber (by decide) rfl ⟨by decide, by decide⟩ (frec F hP.main _ rfl) hS (fun _ h => h) (fun q h => hA q (Nat.le_trans hS.1 h)) hP rfl hl.1 (Nat.le_of_ble_eq_true rfl) dX6_titleAt_50 ⟨by decide, by decide⟩ (fun E ce q9 H1 locs1 hx9 _ _ _ _ _ => hx9.elim) (fun v H1 locs1 hv hk hS => ?_)
        obtain ⟨rfl, hP⟩ := hv
        refine lv_aload_n hx hb dX6_titleAt_53 rfl (lv_at hl 0 rfl) ?_
        refine lv_bipush (v := 64) hx hb dX6_titleAt_54 (by decide) ?_
        refine kcallV (n := 1) F (kM_put l G A ad (mPut (mApp (up (thr τ 0) 29 0 0) 0 (nI (65 + h))) 1 u) (1 + dgn u) mPut_29 (by have := dgn_12 hu12; have := dgn_12 hb12; omega) 64) wML_X6_174 wIM_X6_put wSE_X6_X6_put wIN_X6 wCO_X6_put (by decide) rfl ⟨by decide, by decide⟩ (frec F hP.main _ rfl) hS (fun _ h => h) (fun q h => hA q (Nat.le_trans hS.1 h)) hP rfl hl.1 (Nat.le_of_ble_eq_true rfl) dX6_titleAt_56 ⟨by decide, by decide⟩ (fun E ce q9 H1 locs1 hx9 _ _ _ _ _ => hx9.elim) (fun v H1 locs1 hv hk hS => ?_)
        obtain ⟨rfl, hP⟩ := hv
        refine lv_aload_n hx hb dX6_titleAt_59 rfl (lv_at hl 0 rfl) ?_
        refine lv_aload_n hx hb dX6_titleAt_60 rfl (lv_at hl 0 rfl) ?_
        refine gX6 F hP.main 18 (by decide) wFL_X6_53 (fun _ h9 => h9) (v := .ref (ad 18)) rfl dX6_titleAt_61 ?_
        refine lv_iload_n hx hb dX6_titleAt_64 rfl (lv_at hl 1 rfl) ?_
        refine xiald hx hb hE.1.1 (hP.arr 18 (by decide) (by decide)) 0 rfl (k := u) rfl (show _ < 12 by omega) (by decide) dX6_titleAt_65 ?_
        refine W.eq (g2 := F0 m 66 ls [.int (nI b), .ref (ad 30)]) (congrArg (fun z => F0 m 66 ls [.int z, .ref (ad 30)]) ((show (mApp (mPut (mApp (up (thr τ 0) 29 0 0) 0 (nI (65 + h))) 1 u) (1 + dgn u) 64) 18 u = nI b from by simp [mPut_ne, mApp_ne, mTi0_ne, up, thr, eb]))) ?_
        refine kcallV (n := 1) F (kM_putNumber l G A ad (mApp (mPut (mApp (up (thr τ 0) 29 0 0) 0 (nI (65 + h))) 1 u) (1 + dgn u) 64) (1 + dgn u + 1) b mApp_29 (by have := dgn_12 hu12; have := dgn_12 hb12; omega) (by omega)) wML_X6_177 wIM_X6_putNumber wSE_X6_X6_putNumber wIN_X6 wCO_X6_putNumber (by decide) rfl ⟨by decide, by decide⟩ (frec F hP.main _ rfl) hS (fun _ h => h) (fun q h => hA q (Nat.le_trans hS.1 h)) hP rfl hl.1 (Nat.le_of_ble_eq_true rfl) dX6_titleAt_66 ⟨by decide, by decide⟩ (fun E ce q9 H1 locs1 hx9 _ _ _ _ _ => hx9.elim) (fun v H1 locs1 hv hk hS => ?_)
        obtain ⟨rfl, hP⟩ := hv
        refine lv_aload_n hx hb dX6_titleAt_69 rfl (lv_at hl 0 rfl) ?_
        refine gX6 F hP.main 19 (by decide) wFL_X6_56 (fun _ h9 => h9) (v := .ref (ad 19)) rfl dX6_titleAt_70 ?_
        refine lv_iload_n hx hb dX6_titleAt_73 rfl (lv_at hl 1 rfl) ?_
        refine xzald hx hb hE.1.1 (hP.arr 19 (by decide) (by decide)) 1 rfl (k := u) rfl (show _ < 12 by omega) (by decide) dX6_titleAt_74 ?_
        refine lv_if_eq (tgt := 94) hx hb dX6_titleAt_75 (by decide) (fun c_75_6 => ?_) (fun c_75_6 => ?_)
        · refine lv_iload_n hx hb dX6_titleAt_94 rfl (lv_at hl 2 rfl) ?_
          refine lv_aload_n hx hb dX6_titleAt_95 rfl (lv_at hl 0 rfl) ?_
          refine gX6 F hP.main 29 (by decide) wFL_X6_171 (fun _ h9 => h9) (v := .int ((mTi0 (thr τ 0) u h b) 29 0)) rfl dX6_titleAt_96 ?_
          refine W.eq (g2 := F0 m 99 ls [.int (nI (1 + dgn u + 1 + dgn b)), .int vp]) (congrArg (fun z => F0 m 99 ls [.int z, .int vp]) ((show (mTi0 (thr τ 0) u h b) 29 0 = nI (1 + dgn u + 1 + dgn b) from mTi0_29))) ?_
          refine lv_icmp_ge (tgt := 111) hx hb dX6_titleAt_99 (by decide) (fun c_99_7 => ?_) (fun c_99_7 => ?_)
          · refine lv_iconst (v := (-1)) hx hb dX6_titleAt_111 (by decide) ?_
            exact kiret hx hb hr hlocks hS (by decide) (by decide) dX6_titleAt_112 (⟨_, _, rfl, hP, Or.inr (⟨u, h, b, fe, hu, rfl, Int32.not_lt.mp c_10_3, hh9, eh, hb12, eb, hfe, ef, 1 + dgn u + 1 + dgn b, _, Or.inl ⟨by have h0 := c_75_6; simp [mPut_ne, mApp_ne, mTi0_ne, up, thr] at h0; exact h0, rfl, rfl⟩, rfl, Or.inr ⟨c_99_7, rfl⟩⟩)⟩)
          · have hN16 : 1 + dgn u + 1 + dgn b < 16 := by have := dgn_12 hu12; have := dgn_12 hb12; have := dgn_leM fe; omega
            obtain ⟨i, hi, rfl⟩ := ix_of (n := 1 + dgn u + 1 + dgn b) (by omega) c_10_3 (Int32.not_le.mp c_99_7)
            refine lv_aload_n hx hb dX6_titleAt_102 rfl (lv_at hl 0 rfl) ?_
            refine gX6 F hP.main 28 (by decide) wFL_X6_74 (fun _ h9 => h9) (v := .ref (ad 28)) rfl dX6_titleAt_103 ?_
            refine lv_iload_n hx hb dX6_titleAt_106 rfl (lv_at hl 2 rfl) ?_
            refine xiald hx hb hE.1.1 (hP.arr 28 (by decide) (by decide)) 0 rfl (k := i) rfl (show _ < 16 by omega) (by decide) dX6_titleAt_107 ?_
            refine lv_goto (tgt := 112) hx hb dX6_titleAt_108 (by decide) ?_
            exact kiret hx hb hr hlocks hS (by decide) (by decide) dX6_titleAt_112 (⟨_, _, rfl, hP, Or.inr (⟨u, h, b, fe, hu, rfl, Int32.not_lt.mp c_10_3, hh9, eh, hb12, eb, hfe, ef, 1 + dgn u + 1 + dgn b, _, Or.inl ⟨by have h0 := c_75_6; simp [mPut_ne, mApp_ne, mTi0_ne, up, thr] at h0; exact h0, rfl, rfl⟩, rfl, Or.inl ⟨i, hi, rfl, rfl⟩⟩)⟩)
        · refine lv_aload_n hx hb dX6_titleAt_78 rfl (lv_at hl 0 rfl) ?_
          refine lv_bipush (v := 36) hx hb dX6_titleAt_79 (by decide) ?_
          refine kcallV (n := 1) F (kM_put l G A ad (mTi0 (thr τ 0) u h b) (1 + dgn u + 1 + dgn b) mTi0_29 (by have := dgn_12 hu12; have := dgn_12 hb12; omega) 36) wML_X6_174 wIM_X6_put wSE_X6_X6_put wIN_X6 wCO_X6_put (by decide) rfl ⟨by decide, by decide⟩ (frec F hP.main _ rfl) hS (fun _ h => h) (fun q h => hA q (Nat.le_trans hS.1 h)) hP rfl hl.1 (Nat.le_of_ble_eq_true rfl) dX6_titleAt_81 ⟨by decide, by decide⟩ (fun E ce q9 H1 locs1 hx9 _ _ _ _ _ => hx9.elim) (fun v H1 locs1 hv hk hS => ?_)
          obtain ⟨rfl, hP⟩ := hv
          refine lv_aload_n hx hb dX6_titleAt_84 rfl (lv_at hl 0 rfl) ?_
          refine lv_aload_n hx hb dX6_titleAt_85 rfl (lv_at hl 0 rfl) ?_
          refine gX6 F hP.main 20 (by decide) wFL_X6_59 (fun _ h9 => h9) (v := .ref (ad 20)) rfl dX6_titleAt_86 ?_
          refine lv_iload_n hx hb dX6_titleAt_89 rfl (lv_at hl 1 rfl) ?_
          refine xiald hx hb hE.1.1 (hP.arr 20 (by decide) (by decide)) 0 rfl (k := u) rfl (show _ < 12 by omega) (by decide) dX6_titleAt_90 ?_
          refine W.eq (g2 := F0 m 91 ls [.int (nI fe), .ref (ad 30)]) (congrArg (fun z => F0 m 91 ls [.int z, .ref (ad 30)]) ((show (mApp (mTi0 (thr τ 0) u h b) (1 + dgn u + 1 + dgn b) 36) 20 u = nI fe from by simp [mPut_ne, mApp_ne, mTi0_ne, up, thr, ef]))) ?_
          refine kcallV (n := 1) F (kM_putNumber l G A ad (mApp (mTi0 (thr τ 0) u h b) (1 + dgn u + 1 + dgn b) 36) (1 + dgn u + 1 + dgn b + 1) fe mApp_29 (by have := dgn_12 hu12; have := dgn_12 hb12; omega) (by omega)) wML_X6_177 wIM_X6_putNumber wSE_X6_X6_putNumber wIN_X6 wCO_X6_putNumber (by decide) rfl ⟨by decide, by decide⟩ (frec F hP.main _ rfl) hS (fun _ h => h) (fun q h => hA q (Nat.le_trans hS.1 h)) hP rfl hl.1 (Nat.le_of_ble_eq_true rfl) dX6_titleAt_91 ⟨by decide, by decide⟩ (fun E ce q9 H1 locs1 hx9 _ _ _ _ _ => hx9.elim) (fun v H1 locs1 hv hk hS => ?_)
          obtain ⟨rfl, hP⟩ := hv
          refine lv_iload_n hx hb dX6_titleAt_94 rfl (lv_at hl 2 rfl) ?_
          refine lv_aload_n hx hb dX6_titleAt_95 rfl (lv_at hl 0 rfl) ?_
          refine gX6 F hP.main 29 (by decide) wFL_X6_171 (fun _ h9 => h9) (v := .int ((mTi1 (thr τ 0) u h b fe) 29 0)) rfl dX6_titleAt_96 ?_
          refine W.eq (g2 := F0 m 99 ls [.int (nI (1 + dgn u + 1 + dgn b + 1 + dgn fe)), .int vp]) (congrArg (fun z => F0 m 99 ls [.int z, .int vp]) ((show (mTi1 (thr τ 0) u h b fe) 29 0 = nI (1 + dgn u + 1 + dgn b + 1 + dgn fe) from mTi1_29))) ?_
          refine lv_icmp_ge (tgt := 111) hx hb dX6_titleAt_99 (by decide) (fun c_99_8 => ?_) (fun c_99_8 => ?_)
          · refine lv_iconst (v := (-1)) hx hb dX6_titleAt_111 (by decide) ?_
            exact kiret hx hb hr hlocks hS (by decide) (by decide) dX6_titleAt_112 (⟨_, _, rfl, hP, Or.inr (⟨u, h, b, fe, hu, rfl, Int32.not_lt.mp c_10_3, hh9, eh, hb12, eb, hfe, ef, 1 + dgn u + 1 + dgn b + 1 + dgn fe, _, Or.inr ⟨by have h0 := c_75_6; simp [mPut_ne, mApp_ne, mTi0_ne, up, thr] at h0; exact h0, rfl, rfl⟩, rfl, Or.inr ⟨c_99_8, rfl⟩⟩)⟩)
          · have hN16 : 1 + dgn u + 1 + dgn b + 1 + dgn fe < 16 := by have := dgn_12 hu12; have := dgn_12 hb12; have := dgn_leM fe; omega
            obtain ⟨i, hi, rfl⟩ := ix_of (n := 1 + dgn u + 1 + dgn b + 1 + dgn fe) (by omega) c_10_3 (Int32.not_le.mp c_99_8)
            refine lv_aload_n hx hb dX6_titleAt_102 rfl (lv_at hl 0 rfl) ?_
            refine gX6 F hP.main 28 (by decide) wFL_X6_74 (fun _ h9 => h9) (v := .ref (ad 28)) rfl dX6_titleAt_103 ?_
            refine lv_iload_n hx hb dX6_titleAt_106 rfl (lv_at hl 2 rfl) ?_
            refine xiald hx hb hE.1.1 (hP.arr 28 (by decide) (by decide)) 0 rfl (k := i) rfl (show _ < 16 by omega) (by decide) dX6_titleAt_107 ?_
            refine lv_goto (tgt := 112) hx hb dX6_titleAt_108 (by decide) ?_
            exact kiret hx hb hr hlocks hS (by decide) (by decide) dX6_titleAt_112 (⟨_, _, rfl, hP, Or.inr (⟨u, h, b, fe, hu, rfl, Int32.not_lt.mp c_10_3, hh9, eh, hb12, eb, hfe, ef, 1 + dgn u + 1 + dgn b + 1 + dgn fe, _, Or.inr ⟨by have h0 := c_75_6; simp [mPut_ne, mApp_ne, mTi0_ne, up, thr] at h0; exact h0, rfl, rfl⟩, rfl, Or.inl ⟨i, hi, rfl, rfl⟩⟩)⟩)
      · exact absurd c_25_5 (by decide)

