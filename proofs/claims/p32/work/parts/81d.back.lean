set_option maxHeartbeats 4000000 in
set_option maxRecDepth 100000 in
theorem kL_canBack (l : Launch) (G : GE) (A1 A : Nat → Prop) (al : Nat → Nat) (μ τ : SG) (nT nW : Nat) (hR : LR μ τ nT nW) (i : Nat) (hi : i < nT) : KM l G A1 yL_canBack cL_canBack 7 (some .boolean) (rmL 2 0 0) [.ref (al 0), .ref (al 3), .ref (al 4), .ref (al 5), .ref (al 6), .int (nI i)] (PL G A al μ 14) (fun v _ => (v = some (.int 1) ∧ (mNow τ i = true ∧ τ 13 i = 0 ∧ τ 10 i = -1) ∧ allCl τ i) ∨ (v = some (.int 0) ∧ ¬ ((mNow τ i = true ∧ τ 13 i = 0 ∧ τ 10 i = -1) ∧ allCl τ i))) (fun _ _ => False) := by
  refine KM.of (by decide) (Nat.le_of_ble_eq_true rfl) ?_
  intro p e s m args below meth c F hP ls hl
  have hx := F.1.1
  have hb := F.1.2.1
  have hown := F.1.2.2.2.1
  have hts := F.1.2.2.2.2
  have hr := F.2.1
  have hlocks := F.2.2.1
  have hE := F.2.2.2.2.2.1
  have hA := F.2.2.2.2.2.2
  have hS : va_S A1 s.heap s.heap [] := va_S.rf
  have hl : lv_has ls 7 [(0, .ref (al 0)), (1, .ref (al 3)), (2, .ref (al 4)), (3, .ref (al 5)), (4, .ref (al 6)), (5, .int (nI i))] := hl
  have hP := hP
  obtain ⟨h60, h10⟩ := lr_n60 hR
  obtain ⟨s9, hs9, e69, hD9⟩ := hR.2.2.2.2.2.2.2.2.2.1
  refine lv_aload_n hx hb dL_canBack_0 rfl (lv_at hl 1 rfl) ?_
  refine lv_iload hx hb dL_canBack_1 (lv_at hl 5 rfl) ?_
  refine xiald hx hb hE.1.1 (hP.arr 3 (by decide)) 0 rfl (k := i) rfl (show _ < 60 by omega) (by decide) dL_canBack_3 ?_
  refine lv_iconst (v := 4) hx hb dL_canBack_4 (by decide) ?_
  refine lv_irem hx hb dL_canBack_5 (by decide) ?_
  refine W.eq (g2 := F0 m 6 ls [.int (τ 4 i)]) (congrArg (fun z => F0 m 6 ls [.int z]) (lr_so hR hi)) ?_
  refine lv_if_ne (tgt := 25) hx hb dL_canBack_6 (by decide) (fun c_6_1 => ?_) (fun c_6_1 => ?_)
  · have hF9 := (back_all (t := i) hs9 hD9 (M := 4095) (by decide) (for_n c_6_1))
    refine lv_sipush (v := 4095) hx hb dL_canBack_25 (by decide) ?_
    refine lv_istore (lv' := [(6, .int 4095), (0, .ref (al 0)), (1, .ref (al 3)), (2, .ref (al 4)), (3, .ref (al 5)), (4, .ref (al 6)), (5, .int (nI i))]) hx hb dL_canBack_28 hl (by decide) rfl (fun ls hl => ?_)
    refine lv_aload_n hx hb dL_canBack_30 rfl (lv_at hl 1 rfl) ?_
    refine lv_aload_n hx hb dL_canBack_31 rfl (lv_at hl 2 rfl) ?_
    refine lv_aload_n hx hb dL_canBack_32 rfl (lv_at hl 3 rfl) ?_
    refine lv_iload hx hb dL_canBack_33 (lv_at hl 6 rfl) ?_
    refine kcallS (n := 4) F (kL_isNow l G (fun q => s.heap.size ≤ q) A al μ τ nT nW hR i hi) wML_L_28 wST_L_isNow wIN_L wCO_L_isNow (by decide) rfl ⟨by decide, by decide⟩ hS (fun q h => hA q (Nat.le_trans hS.1 h)) (fun q h => h) hP rfl hl.1 (Nat.le_of_ble_eq_true rfl) dL_canBack_35 ⟨by decide, by decide⟩ (fun E ce q9 H1 locs1 hx9 _ _ _ _ _ => hx9.elim) (fun v H1 locs1 hv hk hS => ?_)
    have hP := hP.old hk
    subst hv
    refine lv_if_eq (tgt := 72) hx hb dL_canBack_38 (by decide) (fun c_38_2 => ?_) (fun c_38_2 => ?_)
    · refine lv_iconst (v := 0) hx hb dL_canBack_72 (by decide) ?_
      exact kzret hx hb hr hlocks hS (by decide) (by decide) (Or.inl rfl) dL_canBack_73 (Or.inr ⟨rfl, fun z => by have z2 := z.1.1; rw [b2i_0.mp c_38_2] at z2; cases z2⟩)
    · refine lv_aload_n hx hb dL_canBack_41 rfl (lv_at hl 4 rfl) ?_
      refine lv_iload hx hb dL_canBack_42 (lv_at hl 6 rfl) ?_
      refine xiald hx hb hE.1.1 (hP.arr 5 (by decide)) 0 rfl (k := i) rfl (show _ < 60 by omega) (by decide) dL_canBack_44 ?_
      refine W.eq (g2 := F0 m 45 ls [.int (τ 13 i)]) (congrArg (fun z => F0 m 45 ls [.int z]) (lr_s hR i)) ?_
      refine lv_if_ne (tgt := 72) hx hb dL_canBack_45 (by decide) (fun c_45_3 => ?_) (fun c_45_3 => ?_)
      · refine lv_iconst (v := 0) hx hb dL_canBack_72 (by decide) ?_
        exact kzret hx hb hr hlocks hS (by decide) (by decide) (Or.inl rfl) dL_canBack_73 (Or.inr ⟨rfl, fun z => c_45_3 z.1.2.1⟩)
      · refine lv_aload hx hb dL_canBack_48 (lv_at hl 5 rfl) ?_
        refine lv_iload hx hb dL_canBack_50 (lv_at hl 6 rfl) ?_
        refine xiald hx hb hE.1.1 (hP.arr 6 (by decide)) 0 rfl (k := i) rfl (show _ < 60 by omega) (by decide) dL_canBack_52 ?_
        refine lv_if_ne (tgt := 72) hx hb dL_canBack_53 (by decide) (fun c_53_4 => ?_) (fun c_53_4 => ?_)
        · refine lv_iconst (v := 0) hx hb dL_canBack_72 (by decide) ?_
          exact kzret hx hb hr hlocks hS (by decide) (by decide) (Or.inl rfl) dL_canBack_73 (Or.inr ⟨rfl, fun z => (fun z9 => c_53_4 ((pw_0 (lr_pl hR hi)).mpr z9)) z.1.2.2⟩)
        · refine lv_aload_n hx hb dL_canBack_56 rfl (lv_at hl 1 rfl) ?_
          refine lv_bipush (v := 6) hx hb dL_canBack_57 (by decide) ?_
          refine xiald hx hb hE.1.1 (hP.arr 0 (by decide)) 0 rfl (k := 6) rfl (show _ < 7 by omega) (by decide) dL_canBack_59 ?_
          refine W.eq (g2 := F0 m 60 ls [.int (nI s9)]) (congrArg (fun z => F0 m 60 ls [.int z]) (e69)) ?_
          refine lv_iload hx hb dL_canBack_60 (lv_at hl 0 rfl) ?_
          refine lv_iand hx hb dL_canBack_62 ?_
          refine lv_iload hx hb dL_canBack_63 (lv_at hl 0 rfl) ?_
          refine lv_icmp_ne (tgt := 72) hx hb dL_canBack_65 (by decide) (fun c_65_5 => ?_) (fun c_65_5 => ?_)
          · refine lv_iconst (v := 0) hx hb dL_canBack_72 (by decide) ?_
            exact kzret hx hb hr hlocks hS (by decide) (by decide) (Or.inl rfl) dL_canBack_73 (Or.inr ⟨rfl, fun z => c_65_5 (hF9.mpr z.2)⟩)
          · refine lv_iconst (v := 1) hx hb dL_canBack_68 (by decide) ?_
            refine lv_goto (tgt := 73) hx hb dL_canBack_69 (by decide) ?_
            exact kzret hx hb hr hlocks hS (by decide) (by decide) (Or.inr rfl) dL_canBack_73 (Or.inl ⟨rfl, ⟨b2i_1.mp c_38_2, c_45_3, ((pw_0 (lr_pl hR hi)).mp c_53_4)⟩, hF9.mp c_65_5⟩)
  · obtain ⟨ho9, hh9, eh9, e59⟩ := lr_ho hR hi
    have hF9 := (back_all (t := i) hs9 hD9 (M := 7 * 8 ^ ho9) (m7_lt ho9 hh9) (for_0 c_6_1 (e59 c_6_1) hh9))
    refine lv_bipush (v := 7) hx hb dL_canBack_9 (by decide) ?_
    refine lv_iconst (v := 3) hx hb dL_canBack_11 (by decide) ?_
    refine lv_aload_n hx hb dL_canBack_12 rfl (lv_at hl 1 rfl) ?_
    refine lv_iload hx hb dL_canBack_13 (lv_at hl 5 rfl) ?_
    refine xiald hx hb hE.1.1 (hP.arr 3 (by decide)) 0 rfl (k := i) rfl (show _ < 60 by omega) (by decide) dL_canBack_15 ?_
    refine lv_iconst (v := 4) hx hb dL_canBack_16 (by decide) ?_
    refine lv_idiv hx hb dL_canBack_17 (by decide) ?_
    refine lv_iconst (v := 4) hx hb dL_canBack_18 (by decide) ?_
    refine lv_irem hx hb dL_canBack_19 (by decide) ?_
    refine W.eq (g2 := F0 m 20 ls [.int (nI ho9), .int 3, .int 7]) (congrArg (fun z => F0 m 20 ls [.int z, .int 3, .int 7]) (eh9)) ?_
    refine lv_imul hx hb dL_canBack_20 ?_
    refine lv_ishl hx hb dL_canBack_21 ?_
    refine W.eq (g2 := F0 m 22 ls [.int (nI (7 * 8 ^ ho9))]) (congrArg (fun z => F0 m 22 ls [.int z]) (shl7 ho9 hh9)) ?_
    refine lv_goto (tgt := 28) hx hb dL_canBack_22 (by decide) ?_
    refine lv_istore (lv' := [(6, .int (nI (7 * 8 ^ ho9))), (0, .ref (al 0)), (1, .ref (al 3)), (2, .ref (al 4)), (3, .ref (al 5)), (4, .ref (al 6)), (5, .int (nI i))]) hx hb dL_canBack_28 hl (by decide) rfl (fun ls hl => ?_)
    refine lv_aload_n hx hb dL_canBack_30 rfl (lv_at hl 1 rfl) ?_
    refine lv_aload_n hx hb dL_canBack_31 rfl (lv_at hl 2 rfl) ?_
    refine lv_aload_n hx hb dL_canBack_32 rfl (lv_at hl 3 rfl) ?_
    refine lv_iload hx hb dL_canBack_33 (lv_at hl 6 rfl) ?_
    refine kcallS (n := 4) F (kL_isNow l G (fun q => s.heap.size ≤ q) A al μ τ nT nW hR i hi) wML_L_28 wST_L_isNow wIN_L wCO_L_isNow (by decide) rfl ⟨by decide, by decide⟩ hS (fun q h => hA q (Nat.le_trans hS.1 h)) (fun q h => h) hP rfl hl.1 (Nat.le_of_ble_eq_true rfl) dL_canBack_35 ⟨by decide, by decide⟩ (fun E ce q9 H1 locs1 hx9 _ _ _ _ _ => hx9.elim) (fun v H1 locs1 hv hk hS => ?_)
    have hP := hP.old hk
    subst hv
    refine lv_if_eq (tgt := 72) hx hb dL_canBack_38 (by decide) (fun c_38_6 => ?_) (fun c_38_6 => ?_)
    · refine lv_iconst (v := 0) hx hb dL_canBack_72 (by decide) ?_
      exact kzret hx hb hr hlocks hS (by decide) (by decide) (Or.inl rfl) dL_canBack_73 (Or.inr ⟨rfl, fun z => by have z2 := z.1.1; rw [b2i_0.mp c_38_6] at z2; cases z2⟩)
    · refine lv_aload_n hx hb dL_canBack_41 rfl (lv_at hl 4 rfl) ?_
      refine lv_iload hx hb dL_canBack_42 (lv_at hl 6 rfl) ?_
      refine xiald hx hb hE.1.1 (hP.arr 5 (by decide)) 0 rfl (k := i) rfl (show _ < 60 by omega) (by decide) dL_canBack_44 ?_
      refine W.eq (g2 := F0 m 45 ls [.int (τ 13 i)]) (congrArg (fun z => F0 m 45 ls [.int z]) (lr_s hR i)) ?_
      refine lv_if_ne (tgt := 72) hx hb dL_canBack_45 (by decide) (fun c_45_7 => ?_) (fun c_45_7 => ?_)
      · refine lv_iconst (v := 0) hx hb dL_canBack_72 (by decide) ?_
        exact kzret hx hb hr hlocks hS (by decide) (by decide) (Or.inl rfl) dL_canBack_73 (Or.inr ⟨rfl, fun z => c_45_7 z.1.2.1⟩)
      · refine lv_aload hx hb dL_canBack_48 (lv_at hl 5 rfl) ?_
        refine lv_iload hx hb dL_canBack_50 (lv_at hl 6 rfl) ?_
        refine xiald hx hb hE.1.1 (hP.arr 6 (by decide)) 0 rfl (k := i) rfl (show _ < 60 by omega) (by decide) dL_canBack_52 ?_
        refine lv_if_ne (tgt := 72) hx hb dL_canBack_53 (by decide) (fun c_53_8 => ?_) (fun c_53_8 => ?_)
        · refine lv_iconst (v := 0) hx hb dL_canBack_72 (by decide) ?_
          exact kzret hx hb hr hlocks hS (by decide) (by decide) (Or.inl rfl) dL_canBack_73 (Or.inr ⟨rfl, fun z => (fun z9 => c_53_8 ((pw_0 (lr_pl hR hi)).mpr z9)) z.1.2.2⟩)
        · refine lv_aload_n hx hb dL_canBack_56 rfl (lv_at hl 1 rfl) ?_
          refine lv_bipush (v := 6) hx hb dL_canBack_57 (by decide) ?_
          refine xiald hx hb hE.1.1 (hP.arr 0 (by decide)) 0 rfl (k := 6) rfl (show _ < 7 by omega) (by decide) dL_canBack_59 ?_
          refine W.eq (g2 := F0 m 60 ls [.int (nI s9)]) (congrArg (fun z => F0 m 60 ls [.int z]) (e69)) ?_
          refine lv_iload hx hb dL_canBack_60 (lv_at hl 0 rfl) ?_
          refine lv_iand hx hb dL_canBack_62 ?_
          refine lv_iload hx hb dL_canBack_63 (lv_at hl 0 rfl) ?_
          refine lv_icmp_ne (tgt := 72) hx hb dL_canBack_65 (by decide) (fun c_65_9 => ?_) (fun c_65_9 => ?_)
          · refine lv_iconst (v := 0) hx hb dL_canBack_72 (by decide) ?_
            exact kzret hx hb hr hlocks hS (by decide) (by decide) (Or.inl rfl) dL_canBack_73 (Or.inr ⟨rfl, fun z => c_65_9 (hF9.mpr z.2)⟩)
          · refine lv_iconst (v := 1) hx hb dL_canBack_68 (by decide) ?_
            refine lv_goto (tgt := 73) hx hb dL_canBack_69 (by decide) ?_
            exact kzret hx hb hr hlocks hS (by decide) (by decide) (Or.inr rfl) dL_canBack_73 (Or.inl ⟨rfl, ⟨b2i_1.mp c_38_6, c_45_7, ((pw_0 (lr_pl hR hi)).mp c_53_8)⟩, hF9.mp c_65_9⟩)

