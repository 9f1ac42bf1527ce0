set_option maxHeartbeats 4000000 in
set_option maxRecDepth 100000 in
theorem cB_ss (l : Launch) (G : GE) (A1 : Nat → Prop) (k : Nat) (hk : k ≤ 1000) : KM l G A1 yJ6_stringSize_0f7a4 cJ6_stringSize_0f7a4 4 (some .int) (rmL 1 0 0) [.int (nI k)] (fun _ => True) (fun v _ => v = some (.int (nI (dgn k)))) (fun _ _ => False) := by
  refine KM.of (by decide) (Nat.le_of_ble_eq_true rfl) ?_
  intro p e s m args below meth c F hP ls hl
  have hx := F.1.1
  have hb := F.1.2.1
  have hown := F.1.2.2.2.1
  have hts := F.1.2.2.2.2
  have hr := F.2.1
  have hlocks := F.2.2.1
  have hE := F.2.2.2.2.2.1
  have hA := F.2.2.2.2.2.2
  have hS : va_S A1 s.heap s.heap [] := va_S.rf
  have hl : lv_has ls 4 [(0, .int (nI k))] := hl
  have hP := hP
  refine lv_iconst (v := 1) hx hb dJ6_stringSize_0f7a4_0 (by decide) ?_
  refine lv_istore_n (lv' := [(1, .int 1), (0, .int (nI k))]) hx hb dJ6_stringSize_0f7a4_1 rfl hl (by decide) rfl (fun ls hl => ?_)
  refine lv_iload_n hx hb dJ6_stringSize_0f7a4_2 rfl (lv_at hl 1 rfl) ?_
  refine lv_if_lt (tgt := 11) hx hb dJ6_stringSize_0f7a4_3 (by decide) (fun c_3_1 => ?_) (fun c_3_1 => ?_)
  · exact absurd c_3_1 (nI_pos (by omega))
  · refine lv_iconst (v := 0) hx hb dJ6_stringSize_0f7a4_6 (by decide) ?_
    refine lv_istore_n (lv' := [(1, .int 0), (0, .int (nI k))]) hx hb dJ6_stringSize_0f7a4_7 rfl hl (by decide) rfl (fun ls hl => ?_)
    refine lv_iload_n hx hb dJ6_stringSize_0f7a4_8 rfl (lv_at hl 1 rfl) ?_
    refine lv_ineg hx hb dJ6_stringSize_0f7a4_9 ?_
    refine lv_istore_n (lv' := [(0, .int (-(nI k))), (1, .int 0)]) hx hb dJ6_stringSize_0f7a4_10 rfl hl (by decide) rfl (fun ls hl => ?_)
    refine lv_bipush (v := (-10)) hx hb dJ6_stringSize_0f7a4_11 (by decide) ?_
    refine lv_istore_n (lv' := [(2, .int (-10)), (0, .int (-(nI k))), (1, .int 0)]) hx hb dJ6_stringSize_0f7a4_13 rfl hl (by decide) rfl (fun ls hl => ?_)
    refine lv_iconst (v := 1) hx hb dJ6_stringSize_0f7a4_14 (by decide) ?_
    refine lv_istore_n (lv' := [(3, .int 1), (2, .int (-10)), (0, .int (-(nI k))), (1, .int 0)]) hx hb dJ6_stringSize_0f7a4_15 rfl hl (by decide) rfl (fun ls hl => ?_)
    refine lv_iload_n hx hb dJ6_stringSize_0f7a4_16 rfl (lv_at hl 0 rfl) ?_
    refine lv_bipush (v := 10) hx hb dJ6_stringSize_0f7a4_17 (by decide) ?_
    refine lv_icmp_ge (tgt := 42) hx hb dJ6_stringSize_0f7a4_19 (by decide) (fun c_19_2 => ?_) (fun c_19_2 => ?_)
    · exact absurd c_19_2 (by decide)
    · refine lv_iload_n hx hb dJ6_stringSize_0f7a4_22 rfl (lv_at hl 2 rfl) ?_
      refine lv_iload_n hx hb dJ6_stringSize_0f7a4_23 rfl (lv_at hl 1 rfl) ?_
      refine lv_icmp_le (tgt := 31) hx hb dJ6_stringSize_0f7a4_24 (by decide) (fun c_24_3 => ?_) (fun c_24_3 => ?_)
      · refine lv_bipush (v := 10) hx hb dJ6_stringSize_0f7a4_31 (by decide) ?_
        refine lv_iload_n hx hb dJ6_stringSize_0f7a4_33 rfl (lv_at hl 1 rfl) ?_
        refine lv_imul hx hb dJ6_stringSize_0f7a4_34 ?_
        refine lv_istore_n (lv' := [(2, .int (10 * (-10))), (3, .int 1), (0, .int (-(nI k))), (1, .int 0)]) hx hb dJ6_stringSize_0f7a4_35 rfl hl (by decide) rfl (fun ls hl => ?_)
        refine lv_iinc (v := 2) (lv' := [(3, .int 2), (2, .int (10 * (-10))), (0, .int (-(nI k))), (1, .int 0)]) hx hb dJ6_stringSize_0f7a4_36 hl (k := 1) rfl (by decide) (by decide) rfl (fun ls hl => ?_)
        refine lv_goto (tgt := 16) hx hb dJ6_stringSize_0f7a4_39 (by decide) ?_
        refine lv_iload_n hx hb dJ6_stringSize_0f7a4_16 rfl (lv_at hl 0 rfl) ?_
        refine lv_bipush (v := 10) hx hb dJ6_stringSize_0f7a4_17 (by decide) ?_
        refine lv_icmp_ge (tgt := 42) hx hb dJ6_stringSize_0f7a4_19 (by decide) (fun c_19_4 => ?_) (fun c_19_4 => ?_)
        · exact absurd c_19_4 (by decide)
        · refine lv_iload_n hx hb dJ6_stringSize_0f7a4_22 rfl (lv_at hl 2 rfl) ?_
          refine lv_iload_n hx hb dJ6_stringSize_0f7a4_23 rfl (lv_at hl 1 rfl) ?_
          refine lv_icmp_le (tgt := 31) hx hb dJ6_stringSize_0f7a4_24 (by decide) (fun c_24_5 => ?_) (fun c_24_5 => ?_)
          · refine lv_bipush (v := 10) hx hb dJ6_stringSize_0f7a4_31 (by decide) ?_
            refine lv_iload_n hx hb dJ6_stringSize_0f7a4_33 rfl (lv_at hl 1 rfl) ?_
            refine lv_imul hx hb dJ6_stringSize_0f7a4_34 ?_
            refine lv_istore_n (lv' := [(2, .int (10 * (10 * (-10)))), (3, .int 2), (0, .int (-(nI k))), (1, .int 0)]) hx hb dJ6_stringSize_0f7a4_35 rfl hl (by decide) rfl (fun ls hl => ?_)
            refine lv_iinc (v := 3) (lv' := [(3, .int 3), (2, .int (10 * (10 * (-10)))), (0, .int (-(nI k))), (1, .int 0)]) hx hb dJ6_stringSize_0f7a4_36 hl (k := 1) rfl (by decide) (by decide) rfl (fun ls hl => ?_)
            refine lv_goto (tgt := 16) hx hb dJ6_stringSize_0f7a4_39 (by decide) ?_
            refine lv_iload_n hx hb dJ6_stringSize_0f7a4_16 rfl (lv_at hl 0 rfl) ?_
            refine lv_bipush (v := 10) hx hb dJ6_stringSize_0f7a4_17 (by decide) ?_
            refine lv_icmp_ge (tgt := 42) hx hb dJ6_stringSize_0f7a4_19 (by decide) (fun c_19_6 => ?_) (fun c_19_6 => ?_)
            · exact absurd c_19_6 (by decide)
            · refine lv_iload_n hx hb dJ6_stringSize_0f7a4_22 rfl (lv_at hl 2 rfl) ?_
              refine lv_iload_n hx hb dJ6_stringSize_0f7a4_23 rfl (lv_at hl 1 rfl) ?_
              refine lv_icmp_le (tgt := 31) hx hb dJ6_stringSize_0f7a4_24 (by decide) (fun c_24_7 => ?_) (fun c_24_7 => ?_)
              · refine lv_bipush (v := 10) hx hb dJ6_stringSize_0f7a4_31 (by decide) ?_
                refine lv_iload_n hx hb dJ6_stringSize_0f7a4_33 rfl (lv_at hl 1 rfl) ?_
                refine lv_imul hx hb dJ6_stringSize_0f7a4_34 ?_
                refine lv_istore_n (lv' := [(2, .int (10 * (10 * (10 * (-10))))), (3, .int 3), (0, .int (-(nI k))), (1, .int 0)]) hx hb dJ6_stringSize_0f7a4_35 rfl hl (by decide) rfl (fun ls hl => ?_)
                refine lv_iinc (v := 4) (lv' := [(3, .int 4), (2, .int (10 * (10 * (10 * (-10))))), (0, .int (-(nI k))), (1, .int 0)]) hx hb dJ6_stringSize_0f7a4_36 hl (k := 1) rfl (by decide) (by decide) rfl (fun ls hl => ?_)
                refine lv_goto (tgt := 16) hx hb dJ6_stringSize_0f7a4_39 (by decide) ?_
                refine lv_iload_n hx hb dJ6_stringSize_0f7a4_16 rfl (lv_at hl 0 rfl) ?_
                refine lv_bipush (v := 10) hx hb dJ6_stringSize_0f7a4_17 (by decide) ?_
                refine lv_icmp_ge (tgt := 42) hx hb dJ6_stringSize_0f7a4_19 (by decide) (fun c_19_8 => ?_) (fun c_19_8 => ?_)
                · exact absurd c_19_8 (by decide)
                · refine lv_iload_n hx hb dJ6_stringSize_0f7a4_22 rfl (lv_at hl 2 rfl) ?_
                  refine lv_iload_n hx hb dJ6_stringSize_0f7a4_23 rfl (lv_at hl 1 rfl) ?_
                  refine lv_icmp_le (tgt := 31) hx hb dJ6_stringSize_0f7a4_24 (by decide) (fun c_24_9 => ?_) (fun c_24_9 => ?_)
                  · exact absurd c_24_9 (ss_5 k hk)
                  · refine lv_iload_n hx hb dJ6_stringSize_0f7a4_27 rfl (lv_at hl 0 rfl) ?_
                    refine lv_iload_n hx hb dJ6_stringSize_0f7a4_28 rfl (lv_at hl 3 rfl) ?_
                    refine lv_iadd hx hb dJ6_stringSize_0f7a4_29 ?_
                    exact kiret hx hb hr hlocks hS (by decide) (by decide) dJ6_stringSize_0f7a4_30 (congrArg (fun z => some (Value.int z)) (by rw [ss_4 k hk c_24_7]; decide))
              · refine lv_iload_n hx hb dJ6_stringSize_0f7a4_27 rfl (lv_at hl 0 rfl) ?_
                refine lv_iload_n hx hb dJ6_stringSize_0f7a4_28 rfl (lv_at hl 3 rfl) ?_
                refine lv_iadd hx hb dJ6_stringSize_0f7a4_29 ?_
                exact kiret hx hb hr hlocks hS (by decide) (by decide) dJ6_stringSize_0f7a4_30 (congrArg (fun z => some (Value.int z)) (by rw [ss_3 k hk c_24_5 c_24_7]; decide))
          · refine lv_iload_n hx hb dJ6_stringSize_0f7a4_27 rfl (lv_at hl 0 rfl) ?_
            refine lv_iload_n hx hb dJ6_stringSize_0f7a4_28 rfl (lv_at hl 3 rfl) ?_
            refine lv_iadd hx hb dJ6_stringSize_0f7a4_29 ?_
            exact kiret hx hb hr hlocks hS (by decide) (by decide) dJ6_stringSize_0f7a4_30 (congrArg (fun z => some (Value.int z)) (by rw [ss_2 k hk c_24_3 c_24_5]; decide))
      · refine lv_iload_n hx hb dJ6_stringSize_0f7a4_27 rfl (lv_at hl 0 rfl) ?_
        refine lv_iload_n hx hb dJ6_stringSize_0f7a4_28 rfl (lv_at hl 3 rfl) ?_
        refine lv_iadd hx hb dJ6_stringSize_0f7a4_29 ?_
        exact kiret hx hb hr hlocks hS (by decide) (by decide) dJ6_stringSize_0f7a4_30 (congrArg (fun z => some (Value.int z)) (by rw [ss_1 k hk c_24_3]; decide))

set_option maxHeartbeats 4000000 in
set_option maxRecDepth 100000 in
theorem cB_gc (l : Launch) (G : GE) (A1 : Nat → Prop) (aV k i : Nat) (f : Nat → Int32) (hAV : A1 aV) (hk : k ≤ 1000) (hi : dgn k ≤ i) (hi16 : i ≤ 16) : KM l G A1 yJ6_getChars_ba4f3 cJ6_getChars_ba4f3 7 (some .int) (rmL 1 0 0) [.int (nI k), .int (nI i), .ref aV] (fun H => va_at G.1 mcl (aV, .inl (G.2.1 7, 16, .inl f)) H) (fun v H => (∃ z, v = some (.int z)) ∧ va_at G.1 mcl (aV, .inl (G.2.1 7, 16, .inl (gch k i f))) H) (fun _ _ => False) := by
  refine KM.of (by decide) (Nat.le_of_ble_eq_true rfl) ?_
  intro p e s m args below meth c F hP ls hl
  have hx := F.1.1
  have hb := F.1.2.1
  have hown := F.1.2.2.2.1
  have hts := F.1.2.2.2.2
  have hr := F.2.1
  have hlocks := F.2.2.1
  have hE := F.2.2.2.2.2.1
  have hA := F.2.2.2.2.2.2
  have hS : va_S A1 s.heap s.heap [] := va_S.rf
  have hl : lv_has ls 7 [(0, .int (nI k)), (1, .int (nI i)), (2, .ref aV)] := hl
  have hV := hP
  have hi1 := (dgn_le k).1
  refine lv_iload_n hx hb dJ6_getChars_ba4f3_0 rfl (lv_at hl 1 rfl) ?_
  refine lv_istore (lv' := [(5, .int (nI i)), (0, .int (nI k)), (1, .int (nI i)), (2, .ref aV)]) hx hb dJ6_getChars_ba4f3_1 hl (by decide) rfl (fun ls hl => ?_)
  refine lv_iload_n hx hb dJ6_getChars_ba4f3_3 rfl (lv_at hl 1 rfl) ?_
  refine lv_if_ge (tgt := 11) hx hb dJ6_getChars_ba4f3_4 (by decide) (fun c_4_1 => ?_) (fun c_4_1 => ?_)
  · refine lv_iconst (v := 0) hx hb dJ6_getChars_ba4f3_11 (by decide) ?_
    refine lv_istore (lv' := [(6, .int 0), (5, .int (nI i)), (0, .int (nI k)), (1, .int (nI i)), (2, .ref aV)]) hx hb dJ6_getChars_ba4f3_12 hl (by decide) rfl (fun ls hl => ?_)
    refine lv_iload hx hb dJ6_getChars_ba4f3_14 (lv_at hl 0 rfl) ?_
    refine lv_if_ne (tgt := 22) hx hb dJ6_getChars_ba4f3_16 (by decide) (fun c_16_2 => ?_) (fun c_16_2 => ?_)
    · exact absurd rfl c_16_2
    · refine lv_iload_n hx hb dJ6_getChars_ba4f3_19 rfl (lv_at hl 2 rfl) ?_
      refine lv_ineg hx hb dJ6_getChars_ba4f3_20 ?_
      refine lv_istore_n (lv' := [(0, .int (-(nI k))), (6, .int 0), (5, .int (nI i)), (1, .int (nI i)), (2, .ref aV)]) hx hb dJ6_getChars_ba4f3_21 rfl hl (by decide) rfl (fun ls hl => ?_)
      refine lv_iload_n hx hb dJ6_getChars_ba4f3_22 rfl (lv_at hl 0 rfl) ?_
      refine lv_bipush (v := (-100)) hx hb dJ6_getChars_ba4f3_23 (by decide) ?_
      refine lv_icmp_gt (tgt := 72) hx hb dJ6_getChars_ba4f3_25 (by decide) (fun c_25_3 => ?_) (fun c_25_3 => ?_)
      · have hq := gc_l k hk c_25_3
        have hi2 : (10 ≤ k → 2 ≤ i) := fun z => by unfold dgn at hi; split at hi <;> (try split at hi) <;> omega
        refine lv_aload_n hx hb dJ6_getChars_ba4f3_72 rfl (lv_at hl 4 rfl) ?_
        refine lv_iinc (v := (nI (i - 1))) (lv' := [(5, .int (nI (i - 1))), (0, .int (-(nI k))), (6, .int 0), (1, .int (nI i)), (2, .ref aV)]) hx hb dJ6_getChars_ba4f3_73 hl (k := 2) rfl (nI_d1 (by omega)) (by decide) rfl (fun ls hl => ?_)
        refine lv_iload hx hb dJ6_getChars_ba4f3_76 (lv_at hl 0 rfl) ?_
        refine va_gets hx hb hE.2.2.2.2.1.1 hS hown (hts _ wFL_J6_83) (fun _ h9 => h9) dJ6_getChars_ba4f3_78 ?_
        refine lv_iload_n hx hb dJ6_getChars_ba4f3_81 rfl (lv_at hl 1 rfl) ?_
        refine lv_ineg hx hb dJ6_getChars_ba4f3_82 ?_
        refine W.eq (g2 := F0 m 83 ls [.int (nI (k)), .ref G.2.2.2.1, .int (nI (i - 1)), .ref aV]) (congrArg (fun z => F0 m 83 ls [.int z, .ref G.2.2.2.1, .int (nI (i - 1)), .ref aV]) (gc_ng _ hq)) ?_
        refine va_tb hx hb hE.2.2.2.2.1.2 hS (vp_in_nI (n := k) (by omega) (by decide)) (v := .int (nI (48 + k % 10))) (by rw [nI_clamp (by omega)]; rfl) dJ6_getChars_ba4f3_83 ?_
        refine xbast hx hb hE.1.1 hS hV hAV 7 rfl (k := (i - 1)) (x' := (nI (48 + k % 10))) rfl (by omega) (by decide) (gc_c (48 + k % 10) (by omega)) dJ6_getChars_ba4f3_84 (fun H2 locs1 hV z2 oq2 hS => ?_)
        refine lv_iload_n hx hb dJ6_getChars_ba4f3_85 rfl (lv_at hl 1 rfl) ?_
        refine lv_bipush (v := (-9)) hx hb dJ6_getChars_ba4f3_86 (by decide) ?_
        refine lv_icmp_ge (tgt := 104) hx hb dJ6_getChars_ba4f3_88 (by decide) (fun c_88_4 => ?_) (fun c_88_4 => ?_)
        · have hd9 := gc_9 (k) hq c_88_4
          refine lv_iload hx hb dJ6_getChars_ba4f3_104 (lv_at hl 2 rfl) ?_
          refine lv_if_eq (tgt := 118) hx hb dJ6_getChars_ba4f3_106 (by decide) (fun c_106_5 => ?_) (fun c_106_5 => ?_)
          · refine lv_iload hx hb dJ6_getChars_ba4f3_118 (lv_at hl 0 rfl) ?_
            exact kiret hx hb hr hlocks hS (by decide) (by decide) dJ6_getChars_ba4f3_120 (⟨⟨_, rfl⟩, by first | (simp only [gch, gcLow, if_pos hq, if_pos hd9] at *; exact hV) | (rw [show gch k i f = _ from rfl]; unfold gch gcLow; rw [if_pos hq]; rw [if_pos hd9]; exact hV)⟩)
          · exact absurd rfl c_106_5
        · have hd9 := gc_10 (k) hq c_88_4
          have hi3 := hi2 hd9
          refine lv_aload_n hx hb dJ6_getChars_ba4f3_91 rfl (lv_at hl 4 rfl) ?_
          refine lv_iinc (v := (nI (i - 1 - 1))) (lv' := [(5, .int (nI (i - 1 - 1))), (0, .int (-(nI k))), (6, .int 0), (1, .int (nI i)), (2, .ref aV)]) hx hb dJ6_getChars_ba4f3_92 hl (k := 0) rfl (nI_d1 (by omega)) (by decide) rfl (fun ls hl => ?_)
          refine lv_iload hx hb dJ6_getChars_ba4f3_95 (lv_at hl 0 rfl) ?_
          refine va_gets hx hb hE.2.2.2.2.2.1 hS hown (hts _ wFL_J6_87) (fun _ h9 => h9) dJ6_getChars_ba4f3_97 ?_
          refine lv_iload_n hx hb dJ6_getChars_ba4f3_100 rfl (lv_at hl 1 rfl) ?_
          refine lv_ineg hx hb dJ6_getChars_ba4f3_101 ?_
          refine W.eq (g2 := F0 m 102 ls [.int (nI (k)), .ref G.2.2.2.2.1, .int (nI (i - 1 - 1)), .ref aV]) (congrArg (fun z => F0 m 102 ls [.int z, .ref G.2.2.2.2.1, .int (nI (i - 1 - 1)), .ref aV]) (gc_ng _ hq)) ?_
          refine va_tb hx hb hE.2.2.2.2.2.2 hS (vp_in_nI (n := k) (by omega) (by decide)) (v := .int (nI (48 + k / 10))) (by rw [nI_clamp (by omega)]; rfl) dJ6_getChars_ba4f3_102 ?_
          refine xbast hx hb hE.1.1 hS hV hAV 7 rfl (k := (i - 1 - 1)) (x' := (nI (48 + k / 10))) rfl (by omega) (by decide) (gc_c (48 + k / 10) (by omega)) dJ6_getChars_ba4f3_103 (fun H2 locs1 hV z2 oq2 hS => ?_)
          refine lv_iload hx hb dJ6_getChars_ba4f3_104 (lv_at hl 2 rfl) ?_
          refine lv_if_eq (tgt := 118) hx hb dJ6_getChars_ba4f3_106 (by decide) (fun c_106_6 => ?_) (fun c_106_6 => ?_)
          · refine lv_iload hx hb dJ6_getChars_ba4f3_118 (lv_at hl 0 rfl) ?_
            exact kiret hx hb hr hlocks hS (by decide) (by decide) dJ6_getChars_ba4f3_120 (⟨⟨_, rfl⟩, by first | (simp only [gch, gcLow, if_pos hq, if_pos hd9] at *; exact hV) | (rw [show gch k i f = _ from rfl]; unfold gch gcLow; rw [if_pos hq]; rw [if_neg (Nat.not_lt.mpr hd9)]; exact hV)⟩)
          · exact absurd rfl c_106_6
      · have hq1 := gc_h k hk c_25_3
        have hi2 : 3 ≤ i ∧ (1000 ≤ k → 4 ≤ i) := by unfold dgn at hi; split at hi <;> (try split at hi) <;> (try split at hi) <;> omega
        have hq : k / 100 < 100 := by omega
        refine lv_iload_n hx hb dJ6_getChars_ba4f3_28 rfl (lv_at hl 0 rfl) ?_
        refine lv_bipush (v := 100) hx hb dJ6_getChars_ba4f3_29 (by decide) ?_
        refine lv_idiv hx hb dJ6_getChars_ba4f3_31 (by decide) ?_
        refine W.eq (g2 := F0 m 32 ls [.int (-(nI (k / 100)))]) (congrArg (fun z => F0 m 32 ls [.int z]) (gc_div k hk)) ?_
        refine lv_istore_n (lv' := [(3, .int (-(nI (k / 100)))), (0, .int (-(nI k))), (6, .int 0), (5, .int (nI i)), (1, .int (nI i)), (2, .ref aV)]) hx hb dJ6_getChars_ba4f3_32 rfl hl (by decide) rfl (fun ls hl => ?_)
        refine lv_iload_n hx hb dJ6_getChars_ba4f3_33 rfl (lv_at hl 0 rfl) ?_
        refine lv_bipush (v := 100) hx hb dJ6_getChars_ba4f3_34 (by decide) ?_
        refine lv_imul hx hb dJ6_getChars_ba4f3_36 ?_
        refine lv_iload_n hx hb dJ6_getChars_ba4f3_37 rfl (lv_at hl 1 rfl) ?_
        refine lv_isub hx hb dJ6_getChars_ba4f3_38 ?_
        refine W.eq (g2 := F0 m 39 ls [.int (nI (k % 100))]) (congrArg (fun z => F0 m 39 ls [.int z]) (gc_mod k hk)) ?_
        refine lv_istore (lv' := [(4, .int (nI (k % 100))), (3, .int (-(nI (k / 100)))), (0, .int (-(nI k))), (6, .int 0), (5, .int (nI i)), (1, .int (nI i)), (2, .ref aV)]) hx hb dJ6_getChars_ba4f3_39 hl (by decide) rfl (fun ls hl => ?_)
        refine lv_iload_n hx hb dJ6_getChars_ba4f3_41 rfl (lv_at hl 1 rfl) ?_
        refine lv_istore_n (lv' := [(0, .int (-(nI (k / 100)))), (4, .int (nI (k % 100))), (3, .int (-(nI (k / 100)))), (6, .int 0), (5, .int (nI i)), (1, .int (nI i)), (2, .ref aV)]) hx hb dJ6_getChars_ba4f3_42 rfl hl (by decide) rfl (fun ls hl => ?_)
        refine lv_aload_n hx hb dJ6_getChars_ba4f3_43 rfl (lv_at hl 6 rfl) ?_
        refine lv_iinc (v := (nI (i - 1))) (lv' := [(5, .int (nI (i - 1))), (0, .int (-(nI (k / 100)))), (4, .int (nI (k % 100))), (3, .int (-(nI (k / 100)))), (6, .int 0), (1, .int (nI i)), (2, .ref aV)]) hx hb dJ6_getChars_ba4f3_44 hl (k := 4) rfl (nI_d1 (by omega)) (by decide) rfl (fun ls hl => ?_)
        refine lv_iload hx hb dJ6_getChars_ba4f3_47 (lv_at hl 0 rfl) ?_
        refine va_gets hx hb hE.2.2.2.2.1.1 hS hown (hts _ wFL_J6_83) (fun _ h9 => h9) dJ6_getChars_ba4f3_49 ?_
        refine lv_iload hx hb dJ6_getChars_ba4f3_52 (lv_at hl 2 rfl) ?_
        refine va_tb hx hb hE.2.2.2.2.1.2 hS (vp_in_nI (n := k % 100) (by omega) (by decide)) (v := .int (nI (48 + (k % 100) % 10))) (by rw [nI_clamp (by omega)]; rfl) dJ6_getChars_ba4f3_54 ?_
        refine xbast hx hb hE.1.1 hS hV hAV 7 rfl (k := (i - 1)) (x' := (nI (48 + (k % 100) % 10))) rfl (by omega) (by decide) (gc_c (48 + (k % 100) % 10) (by omega)) dJ6_getChars_ba4f3_55 (fun H2 locs1 hV z2 oq2 hS => ?_)
        refine lv_aload_n hx hb dJ6_getChars_ba4f3_56 rfl (lv_at hl 6 rfl) ?_
        refine lv_iinc (v := (nI (i - 1 - 1))) (lv' := [(5, .int (nI (i - 1 - 1))), (0, .int (-(nI (k / 100)))), (4, .int (nI (k % 100))), (3, .int (-(nI (k / 100)))), (6, .int 0), (1, .int (nI i)), (2, .ref aV)]) hx hb dJ6_getChars_ba4f3_57 hl (k := 0) rfl (nI_d1 (by omega)) (by decide) rfl (fun ls hl => ?_)
        refine lv_iload hx hb dJ6_getChars_ba4f3_60 (lv_at hl 0 rfl) ?_
        refine va_gets hx hb hE.2.2.2.2.2.1 hS hown (hts _ wFL_J6_87) (fun _ h9 => h9) dJ6_getChars_ba4f3_62 ?_
        refine lv_iload hx hb dJ6_getChars_ba4f3_65 (lv_at hl 2 rfl) ?_
        refine va_tb hx hb hE.2.2.2.2.2.2 hS (vp_in_nI (n := k % 100) (by omega) (by decide)) (v := .int (nI (48 + (k % 100) / 10))) (by rw [nI_clamp (by omega)]; rfl) dJ6_getChars_ba4f3_67 ?_
        refine xbast hx hb hE.1.1 hS hV hAV 7 rfl (k := (i - 1 - 1)) (x' := (nI (48 + (k % 100) / 10))) rfl (by omega) (by decide) (gc_c (48 + (k % 100) / 10) (by omega)) dJ6_getChars_ba4f3_68 (fun H2 locs1 hV z2 oq2 hS => ?_)
        refine lv_goto (tgt := 22) hx hb dJ6_getChars_ba4f3_69 (by decide) ?_
        refine lv_iload_n hx hb dJ6_getChars_ba4f3_22 rfl (lv_at hl 1 rfl) ?_
        refine lv_bipush (v := (-100)) hx hb dJ6_getChars_ba4f3_23 (by decide) ?_
        refine lv_icmp_gt (tgt := 72) hx hb dJ6_getChars_ba4f3_25 (by decide) (fun c_25_7 => ?_) (fun c_25_7 => ?_)
        · refine lv_aload_n hx hb dJ6_getChars_ba4f3_72 rfl (lv_at hl 6 rfl) ?_
          refine lv_iinc (v := (nI (i - 1 - 1 - 1))) (lv' := [(5, .int (nI (i - 1 - 1 - 1))), (0, .int (-(nI (k / 100)))), (4, .int (nI (k % 100))), (3, .int (-(nI (k / 100)))), (6, .int 0), (1, .int (nI i)), (2, .ref aV)]) hx hb dJ6_getChars_ba4f3_73 hl (k := 0) rfl (nI_d1 (by omega)) (by decide) rfl (fun ls hl => ?_)
          refine lv_iload hx hb dJ6_getChars_ba4f3_76 (lv_at hl 0 rfl) ?_
          refine va_gets hx hb hE.2.2.2.2.1.1 hS hown (hts _ wFL_J6_83) (fun _ h9 => h9) dJ6_getChars_ba4f3_78 ?_
          refine lv_iload_n hx hb dJ6_getChars_ba4f3_81 rfl (lv_at hl 1 rfl) ?_
          refine lv_ineg hx hb dJ6_getChars_ba4f3_82 ?_
          refine W.eq (g2 := F0 m 83 ls [.int (nI (k / 100)), .ref G.2.2.2.1, .int (nI (i - 1 - 1 - 1)), .ref aV]) (congrArg (fun z => F0 m 83 ls [.int z, .ref G.2.2.2.1, .int (nI (i - 1 - 1 - 1)), .ref aV]) (gc_ng _ hq)) ?_
          refine va_tb hx hb hE.2.2.2.2.1.2 hS (vp_in_nI (n := k / 100) (by omega) (by decide)) (v := .int (nI (48 + (k / 100) % 10))) (by rw [nI_clamp (by omega)]; rfl) dJ6_getChars_ba4f3_83 ?_
          refine xbast hx hb hE.1.1 hS hV hAV 7 rfl (k := (i - 1 - 1 - 1)) (x' := (nI (48 + (k / 100) % 10))) rfl (by omega) (by decide) (gc_c (48 + (k / 100) % 10) (by omega)) dJ6_getChars_ba4f3_84 (fun H2 locs1 hV z2 oq2 hS => ?_)
          refine lv_iload_n hx hb dJ6_getChars_ba4f3_85 rfl (lv_at hl 1 rfl) ?_
          refine lv_bipush (v := (-9)) hx hb dJ6_getChars_ba4f3_86 (by decide) ?_
          refine lv_icmp_ge (tgt := 104) hx hb dJ6_getChars_ba4f3_88 (by decide) (fun c_88_8 => ?_) (fun c_88_8 => ?_)
          · have hd9 := gc_9 (k / 100) hq c_88_8
            refine lv_iload hx hb dJ6_getChars_ba4f3_104 (lv_at hl 4 rfl) ?_
            refine lv_if_eq (tgt := 118) hx hb dJ6_getChars_ba4f3_106 (by decide) (fun c_106_9 => ?_) (fun c_106_9 => ?_)
            · refine lv_iload hx hb dJ6_getChars_ba4f3_118 (lv_at hl 0 rfl) ?_
              exact kiret hx hb hr hlocks hS (by decide) (by decide) dJ6_getChars_ba4f3_120 (⟨⟨_, rfl⟩, by first | (simp only [gch, gcLow, if_pos hq, if_pos hd9] at *; exact hV) | (rw [show gch k i f = _ from rfl]; unfold gch gcLow; rw [if_neg (Nat.not_lt.mpr hq1)]; rw [if_pos hd9]; exact hV)⟩)
            · exact absurd rfl c_106_9
          · have hd9 := gc_10 (k / 100) hq c_88_8
            refine lv_aload_n hx hb dJ6_getChars_ba4f3_91 rfl (lv_at hl 6 rfl) ?_
            refine lv_iinc (v := (nI (i - 1 - 1 - 1 - 1))) (lv' := [(5, .int (nI (i - 1 - 1 - 1 - 1))), (0, .int (-(nI (k / 100)))), (4, .int (nI (k % 100))), (3, .int (-(nI (k / 100)))), (6, .int 0), (1, .int (nI i)), (2, .ref aV)]) hx hb dJ6_getChars_ba4f3_92 hl (k := 0) rfl (nI_d1 (by omega)) (by decide) rfl (fun ls hl => ?_)
            refine lv_iload hx hb dJ6_getChars_ba4f3_95 (lv_at hl 0 rfl) ?_
            refine va_gets hx hb hE.2.2.2.2.2.1 hS hown (hts _ wFL_J6_87) (fun _ h9 => h9) dJ6_getChars_ba4f3_97 ?_
            refine lv_iload_n hx hb dJ6_getChars_ba4f3_100 rfl (lv_at hl 1 rfl) ?_
            refine lv_ineg hx hb dJ6_getChars_ba4f3_101 ?_
            refine W.eq (g2 := F0 m 102 ls [.int (nI (k / 100)), .ref G.2.2.2.2.1, .int (nI (i - 1 - 1 - 1 - 1)), .ref aV]) (congrArg (fun z => F0 m 102 ls [.int z, .ref G.2.2.2.2.1, .int (nI (i - 1 - 1 - 1 - 1)), .ref aV]) (gc_ng _ hq)) ?_
            refine va_tb hx hb hE.2.2.2.2.2.2 hS (vp_in_nI (n := k / 100) (by omega) (by decide)) (v := .int (nI (48 + (k / 100) / 10))) (by rw [nI_clamp (by omega)]; rfl) dJ6_getChars_ba4f3_102 ?_
            refine xbast hx hb hE.1.1 hS hV hAV 7 rfl (k := (i - 1 - 1 - 1 - 1)) (x' := (nI (48 + (k / 100) / 10))) rfl (by omega) (by decide) (gc_c (48 + (k / 100) / 10) (by omega)) dJ6_getChars_ba4f3_103 (fun H2 locs1 hV z2 oq2 hS => ?_)
            refine lv_iload hx hb dJ6_getChars_ba4f3_104 (lv_at hl 4 rfl) ?_
            refine lv_if_eq (tgt := 118) hx hb dJ6_getChars_ba4f3_106 (by decide) (fun c_106_10 => ?_) (fun c_106_10 => ?_)
            · refine lv_iload hx hb dJ6_getChars_ba4f3_118 (lv_at hl 0 rfl) ?_
              exact kiret hx hb hr hlocks hS (by decide) (by decide) dJ6_getChars_ba4f3_120 (⟨⟨_, rfl⟩, by first | (simp only [gch, gcLow, if_pos hq, if_pos hd9] at *; exact hV) | (rw [show gch k i f = _ from rfl]; unfold gch gcLow; rw [if_neg (Nat.not_lt.mpr hq1)]; rw [if_neg (Nat.not_lt.mpr hd9)]; exact hV)⟩)
            · exact absurd rfl c_106_10
        · exact absurd (gc_gt (k / 100) hq) c_25_7
  · exact absurd (Int32.not_lt.mp (nI_pos (n := k) (by omega))) c_4_1

