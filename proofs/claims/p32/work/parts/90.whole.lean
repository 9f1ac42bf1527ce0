theorem PX.anyL {G : GE} {A B : Nat → Prop} {ad : Nat → Nat → Nat} {σ : SG} {qs : Nat → List Nat} {nT nW : Nat} {H : Heap} (h : PX G A ad σ qs nT nW H) (hAB : ∀ q, A q → q < H.size → B q) : PX G B ad σ qs nT nW H := by
  obtain ⟨ba, bc, bm, h, hL⟩ := h
  exact ⟨ba, bc, bm, ⟨h.1, h.2.1, fun k i hd => hAB _ (h.2.2 k i hd) (h.1 k i hd).lt⟩, hL⟩
theorem PL.zero {G : GE} {A : Nat → Prop} {al : Nat → Nat} {μ : SG} {H : Heap} : PL G A al μ 0 H :=
  ⟨fun k _ hd => absurd hd.1 (Nat.not_lt_zero k), fun k1 _ _ _ h1 => absurd h1.1 (Nat.not_lt_zero k1), fun k _ hd => absurd hd.1 (Nat.not_lt_zero k)⟩
/-- the law's arrays while they are filled -/
def INI (j : Nat) (μ : SG) : Prop := (∀ i, i < 4 → i < j → μ 1 i = 600) ∧ (∀ i, i < 6 → i < j → μ 2 i = -1) ∧ (∀ i, i < 12 → i < j → μ 8 i = 3) ∧ ∀ f i, f ≠ 1 → f ≠ 2 → f ≠ 8 → μ f i = if f = 0 ∧ i = 3 then 1500 else 0
theorem INI.first : INI 0 (up (fun _ _ => 0) 0 3 1500) :=
  ⟨fun i _ h => absurd h (Nat.not_lt_zero i), fun i _ h => absurd h (Nat.not_lt_zero i), fun i _ h => absurd h (Nat.not_lt_zero i), fun f i _ _ _ => rfl⟩
theorem INI.step {j : Nat} {μ : SG} (h : INI j μ) : INI (j + 1) (up (up (up μ 1 (j % 4) 600) 2 (j % 6) (-1)) 8 j 3) := by
  obtain ⟨h1, h2, h3, h4⟩ := h
  refine ⟨fun i hi hj => ?_, fun i hi hj => ?_, fun i hi hj => ?_, fun f i a1 a2 a3 => ?_⟩
  · rw [up_f (by decide), up_f (by decide)]
    by_cases c : i = j % 4
    · rw [c, up_s]
    · rw [up_i c]; exact h1 i hi (by omega)
  · rw [up_f (by decide)]
    by_cases c : i = j % 6
    · rw [c, up_s]
    · rw [up_i c, up_f (by decide)]; exact h2 i hi (by omega)
  · by_cases c : i = j
    · rw [c, up_s]
    · rw [up_i c, up_f (by decide), up_f (by decide)]; exact h3 i hi (by omega)
  · rw [up_f a3, up_f a2, up_f a1]; exact h4 f i a1 a2 a3
theorem INI.rel {μ : SG} (h : INI 12 μ) : LR μ (mI 4 1 12 6) 0 0 := by
  obtain ⟨h1, h2, h3, h4⟩ := h
  have z : ∀ f i, f ≠ 0 → f ≠ 1 → f ≠ 2 → f ≠ 8 → μ f i = 0 := fun f i a b c d => by rw [h4 f i b c d, if_neg (fun y => a y.1)]
  have n : ∀ i, i ≠ 3 → μ 0 i = 0 := fun i hi => by rw [h4 0 i (by decide) (by decide) (by decide), if_neg (fun y => hi y.2)]
  have n3 : μ 0 3 = 1500 := by rw [h4 0 3 (by decide) (by decide) (by decide)]; rfl
  refine ⟨⟨?_, ?_, by decide, by decide, ?_, ?_, ?_, ?_, rfl, rfl⟩, ⟨fun x hx => ?_, 1500, by decide, n3⟩, fun k hk => ?_, fun t ht => absurd ht (Nat.not_lt_zero t), fun t ht => absurd ht (Nat.not_lt_zero t), fun t => ?_, ⟨fun t ht => absurd ht (Nat.not_lt_zero t), fun t _ => z 6 t (by decide) (by decide) (by decide) (by decide)⟩, fun t => ?_, fun r hr => ?_, ⟨0, by decide, n 6 (by decide), fun r hr => ?_⟩, fun w hw => absurd hw (Nat.not_lt_zero w), fun w => ?_, fun j hj => ?_⟩
  · exact n 0 (by decide)
  · exact n 1 (by decide)
  · exact n 2 (by decide)
  · rw [n3]; rfl
  · exact n 4 (by decide)
  · exact n 5 (by decide)
  · rw [h1 x hx (by omega)]
    exact ⟨by simp [mI, hx], 600, by decide, rfl⟩
  · rw [h2 k hk (by omega)]; simp [mI, hk]
  · exact ⟨(z 5 t (by decide) (by decide) (by decide) (by decide)).trans (by simp [mI]), 0, by decide, by simp [mI]; rfl⟩
  · exact ⟨(z 7 t (by decide) (by decide) (by decide) (by decide)).trans (by simp [mI]), 0, by decide, by simp [mI]; rfl⟩
  · rw [h3 r hr (by omega)]; simp [mI, hr]
  · have e : mI 4 1 12 6 15 r = 0 := by simp [mI]
    rw [e]
    exact (by decide +kernel : ∀ r, r < 12 → (0 : Int32) = mBit (nI 0) r) r hr
  · exact ⟨(z 10 w (by decide) (by decide) (by decide) (by decide)).trans (by simp [mI]), (z 11 w (by decide) (by decide) (by decide) (by decide)).trans (by simp [mI]), (z 12 w (by decide) (by decide) (by decide) (by decide)).trans (by simp [mI])⟩
  · rw [z 13 j (by decide) (by decide) (by decide) (by decide)]; simp [mI]
section LARR
variable {p : Program} {l : Launch} {e : Env} {R : Room} {s : State} {m : MethodId} {args : Array Value} {below : List Frame} {meth : Method} {c : Code} {H : Heap} {locs : List Loc} {cells slots : Nat} {Q : State → Prop}
variable {cc : ByteArray} {pc : Nat} {ls : Array Slot} {rest : List Value} {G : GE} {B a0 z0 k n : Nat} {al : Nat → Nat} {τ : SG} {nT nW N : Nat}
/-- one of the law's arrays is made -/
theorem larr (hx : p.tables.exec = Jvm.exec) (hb : c.code = cc) (harr : (Cond.arrayClass .int).before args s = true) (hK : va_K G.1 mcl (kTy G.2.1) s) (hB : B = s.heap.size) (hS : va_S (fun q => B ≤ q) s.heap H locs) (hP : PL G (fun q => B ≤ q) al (fun _ _ => 0) k H) (hC : CST G (AxL B al) a0 τ nT nW N H) (hz : H.size = z0 + k) (hal : ∀ k, al k = z0 + k) (hn : szL k = n) (hN : n ≤ 1000) (hc : cells + 1 ≤ R.cells) (hs : slots + n ≤ R.slots) (hdg : decode cc pc = .ok (.newarray .int, 2))
    (kk : ∀ H1 : Heap, PL G (fun q => B ≤ q) al (fun _ _ => 0) (k + 1) H1 → CST G (AxL B al) a0 τ nT nW N H1 → H1.size = z0 + (k + 1) → va_S (fun q => B ≤ q) s.heap H1 locs → W p l e R s m args below meth c H1 locs (cells + 1) (slots + n) Q (F0 m (pc + 2) ls (.ref (al k) :: rest))) : W p l e R s m args below meth c H locs cells slots Q (F0 m pc ls (.int (nI n) :: rest)) := by
  refine xnewa hx hb (atype := .int) (ty := .int) rfl harr hK 0 rfl (fun h => h) hS (a0 := (n, .inl (fun _ => 0))) rfl (n := nI n) (N := n) rfl hN (by decide) hc hs hdg (fun H1 h9 z9 oq9 hS9 => ?_)
  have hq9 : H.size = al k := by rw [hal]; exact hz
  rw [hq9]
  refine kk H1 ?_ (hC.old ⟨by omega, fun q hq _ => oq9 q hq⟩) (by omega) hS9
  refine hP.new ⟨by omega, fun q hq _ => oq9 q hq⟩ (Nat.le_refl _) (by rw [hB]; exact hS.1) (fun _ => rfl) ?_ (fun _ _ => rfl) hq9.symm
  rw [hn]
  exact h9
end LARR
set_option maxHeartbeats 4000000 in
set_option maxRecDepth 100000 in
theorem LS_88 (l : Launch) (hl9 : l.stackTraces = false) {p : Program} {e : Env} {s : State} {m : MethodId} {below : List Frame} {meth : Method} {c : Code} {b L : Nat} {xs : Nat → Int32} {G : GE} {al : Nat → Nat} (C : CallFix p m c cL_law 30 s #[Value.ref b] gTb RL) (hE : EN (fun q => s.heap.size ≤ q) G s s.heap) (hN : NCX s) (hX : va_X b L xs s s.heap) (hbl : b < s.heap.size) (hL : L ≤ 260) (hr : meth.sig.returnType = ret) (hlocks : meth.locks = false) {cc9 ss9 : Nat} {H : Heap} {locs : List Loc} {ls : Array Slot} (hcc : cc9 ≤ 3000) (hss : ss9 ≤ 30000) (hS : va_S (fun q => s.heap.size ≤ q) s.heap H locs) (hC : CST G (AxL s.heap.size al) s.heap.size (mI 4 1 12 6) 0 0 0 H) (hP : PL G (fun q => s.heap.size ≤ q) al (fun _ _ => 0) 14 H) (hl : lv_has ls 30 [(15, .ref (al 13)), (14, .ref (al 12)), (13, .ref (al 11)), (12, .ref (al 10)), (11, .ref (al 9)), (10, .ref (al 8)), (9, .ref (al 7)), (8, .ref (al 6)), (7, .ref (al 5)), (6, .ref (al 4)), (5, .ref (al 3)), (4, .ref (al 2)), (3, .ref (al 1)), (2, .ref (al 0)), (1, .ref s.heap.size), (0, .ref b)]) : W p l e room_1 s m #[Value.ref b] below meth c H locs cc9 ss9 (lw_Z below #[Value.ref b] s) (F0 m 88 ls []) := by
  have hx := C.1
  have hb := C.2.1
  have hown := C.2.2.2.1
  have hts := C.2.2.2.2
  refine lv_aload_n hx hb dL_law_88 rfl (lv_at hl 13 rfl) ?_
  refine lv_iconst (v := 3) hx hb dL_law_89 (by decide) ?_
  refine lv_sipush (v := 1500) hx hb dL_law_90 (by decide) ?_
  refine xiast hx hb hE.1.1 hS (hP.arr 0 (by decide)) (hP.oarr 0 (by decide)) 0 rfl (k := 3) rfl (show _ < 7 by omega) (by decide) dL_law_93 (fun H1 locs1 he1 z1 oq1 hS => ?_)
  have hP := hP.put 0 3 (by decide) he1 oq1
  have hC := hC.offL (f := 0) (by decide) z1 oq1
  refine lv_iconst (v := 0) hx hb dL_law_94 (by decide) ?_
  refine lv_istore (lv' := [(16, .int 0), (15, .ref (al 13)), (14, .ref (al 12)), (13, .ref (al 11)), (12, .ref (al 10)), (11, .ref (al 9)), (10, .ref (al 8)), (9, .ref (al 7)), (8, .ref (al 6)), (7, .ref (al 5)), (6, .ref (al 4)), (5, .ref (al 3)), (4, .ref (al 2)), (3, .ref (al 1)), (2, .ref (al 0)), (1, .ref s.heap.size), (0, .ref b)]) hx hb dL_law_95 hl (by decide) rfl (fun ls hl => ?_)
  have L97 : ∀ (n9 : Nat) (μ1 : SG) (j : Nat) (h1 : j ≤ 12) (h2 : 12 < j + n9) (hI : INI j μ1) (H : Heap) (locs : List Loc) (ls : Array Slot), va_S (fun q => s.heap.size ≤ q) s.heap H locs → PL G (fun q => s.heap.size ≤ q) al μ1 14 H → CST G (AxL s.heap.size al) s.heap.size (mI 4 1 12 6) 0 0 0 H → lv_has ls 30 [(16, .int (nI j)), (0, .ref b), (1, .ref s.heap.size), (2, .ref (al 0)), (3, .ref (al 1)), (4, .ref (al 2)), (5, .ref (al 3)), (6, .ref (al 4)), (7, .ref (al 5)), (8, .ref (al 6)), (9, .ref (al 7)), (10, .ref (al 8)), (11, .ref (al 9)), (12, .ref (al 10)), (13, .ref (al 11)), (14, .ref (al 12)), (15, .ref (al 13))] → W p l e room_1 s m #[Value.ref b] below meth c H locs (cc9) (ss9) (lw_Z below #[Value.ref b] s) (F0 m 97 ls []) := by
    intro n9
    induction n9 with
    | zero =>
      intro μ1 j h1 h2 hI H locs ls hS hP hC hl
      exact absurd True.intro (by omega)
    | succ n9 ih97 =>
      intro μ1 j h1 h2 hI H locs ls hS hP hC hl
      refine lv_iload hx hb dL_law_97 (lv_at hl 0 rfl) ?_
      refine lv_bipush (v := 12) hx hb dL_law_99 (by decide) ?_
      refine lv_icmp_ge (tgt := 134) hx hb dL_law_101 (by decide) (fun c_101_1 => ?_) (fun c_101_1 => ?_)
      · have ej := nI_eqle (n := 12) h1 (by decide) c_101_1
        rw [ej] at hI
        refine lv_aload_n hx hb dL_law_134 rfl (lv_at hl 2 rfl) ?_
        refine lv_aload_n hx hb dL_law_135 rfl (lv_at hl 3 rfl) ?_
        refine lv_aload hx hb dL_law_136 (lv_at hl 5 rfl) ?_
        refine lv_aload hx hb dL_law_138 (lv_at hl 6 rfl) ?_
        refine lv_aload hx hb dL_law_140 (lv_at hl 7 rfl) ?_
        refine lv_aload hx hb dL_law_142 (lv_at hl 8 rfl) ?_
        refine lv_aload hx hb dL_law_144 (lv_at hl 9 rfl) ?_
        refine lv_aload hx hb dL_law_146 (lv_at hl 10 rfl) ?_
        refine lv_aload hx hb dL_law_148 (lv_at hl 12 rfl) ?_
        refine lv_aload hx hb dL_law_150 (lv_at hl 15 rfl) ?_
        refine lv_aload hx hb dL_law_152 (lv_at hl 16 rfl) ?_
        refine lv_iconst (v := 0) hx hb dL_law_154 (by decide) ?_
        have hR := hI.rel
        refine hcallS (n := 12) C hE (kL_are l G (fun q => H.size ≤ q) (AxL s.heap.size al) (fun q => s.heap.size ≤ q) hl9 s.heap.size al μ1 (mI 4 1 12 6) 0 0 0 hR 0) wML_L_121 wST_L_areMuseums wIN_L wCO_L_areMuseums (by decide) rfl ⟨Nat.le_of_ble_eq_true rfl, Nat.le_of_ble_eq_true rfl⟩ hS (fun q h => Nat.le_trans hS.1 h) (fun q h => h) ⟨hC, hP⟩ rfl hl.1 (Nat.le_of_ble_eq_true rfl) dL_law_155 ⟨by show cc9 + 1000 ≤ 709356; omega, by show ss9 + 12000 ≤ 6973399; omega⟩ (fun E ce q9 H1 locs1 hx9 _ _ _ _ _ => hx9.elim) (fun v H1 locs1 hv hk hS => ?_)
        have hP := hP.old hk
        have hC := hC.old hk
        subst hv
        refine lv_istore (lv' := [(16, .int 1), (0, .ref b), (1, .ref s.heap.size), (2, .ref (al 0)), (3, .ref (al 1)), (4, .ref (al 2)), (5, .ref (al 3)), (6, .ref (al 4)), (7, .ref (al 5)), (8, .ref (al 6)), (9, .ref (al 7)), (10, .ref (al 8)), (11, .ref (al 9)), (12, .ref (al 10)), (13, .ref (al 11)), (14, .ref (al 12)), (15, .ref (al 13))]) hx hb dL_law_158 hl (by decide) rfl (fun ls hl => ?_)
        refine lv_iconst (v := 0) hx hb dL_law_160 (by decide) ?_
        refine lv_istore (lv' := [(17, .int 0), (16, .int 1), (0, .ref b), (1, .ref s.heap.size), (2, .ref (al 0)), (3, .ref (al 1)), (4, .ref (al 2)), (5, .ref (al 3)), (6, .ref (al 4)), (7, .ref (al 5)), (8, .ref (al 6)), (9, .ref (al 7)), (10, .ref (al 8)), (11, .ref (al 9)), (12, .ref (al 10)), (13, .ref (al 11)), (14, .ref (al 12)), (15, .ref (al 13))]) hx hb dL_law_161 hl (by decide) rfl (fun ls hl => ?_)
        exact law_loop l hl9 C hE hN hX hbl hL hr hlocks 131 0 0 _ _ _ _ _ (by omega) (by omega) (show cc9 + 1000 ≤ 5000 + 1010 * 0 by omega) (show ss9 + 12000 ≤ 50000 + 12300 * 0 by omega) (Nat.le_refl _) hS ⟨mI 4 1 12 6, μ1, 0, 0, hC, hP, hR, up_eq (by simp [mI])⟩ (lv_sub hl [1, 0, 2, 3, 4, 5, 6, 7, 8, 9, 10, 11, 12, 13, 14, 15, 16, 17] rfl)
      · have hj := nI_lt' (n := 12) h1 (by decide) c_101_1
        refine lv_aload_n hx hb dL_law_104 rfl (lv_at hl 4 rfl) ?_
        refine lv_iload hx hb dL_law_105 (lv_at hl 0 rfl) ?_
        refine lv_iconst (v := 4) hx hb dL_law_107 (by decide) ?_
        refine lv_irem hx hb dL_law_108 (by decide) ?_
        refine W.eq (g2 := F0 m 109 ls [.int (nI (j % 4)), .ref (al 1)]) (congrArg (fun z => F0 m 109 ls [.int z, .ref (al 1)]) (pk_rem (d := 4) (by omega) (by decide) (by decide))) ?_
        refine lv_sipush (v := 600) hx hb dL_law_109 (by decide) ?_
        refine xiast hx hb hE.1.1 hS (hP.arr 1 (by decide)) (hP.oarr 1 (by decide)) 0 rfl (k := (j % 4)) rfl (show _ < 4 by omega) (by decide) dL_law_112 (fun H1 locs1 he1 z1 oq1 hS => ?_)
        have hP := hP.put 1 (j % 4) (by decide) he1 oq1
        have hC := hC.offL (f := 1) (by decide) z1 oq1
        refine lv_aload hx hb dL_law_113 (lv_at hl 5 rfl) ?_
        refine lv_iload hx hb dL_law_115 (lv_at hl 0 rfl) ?_
        refine lv_bipush (v := 6) hx hb dL_law_117 (by decide) ?_
        refine lv_irem hx hb dL_law_119 (by decide) ?_
        refine W.eq (g2 := F0 m 120 ls [.int (nI (j % 6)), .ref (al 2)]) (congrArg (fun z => F0 m 120 ls [.int z, .ref (al 2)]) (pk_rem (d := 6) (by omega) (by decide) (by decide))) ?_
        refine lv_iconst (v := (-1)) hx hb dL_law_120 (by decide) ?_
        refine xiast hx hb hE.1.1 hS (hP.arr 2 (by decide)) (hP.oarr 2 (by decide)) 0 rfl (k := (j % 6)) rfl (show _ < 6 by omega) (by decide) dL_law_121 (fun H1 locs1 he1 z1 oq1 hS => ?_)
        have hP := hP.put 2 (j % 6) (by decide) he1 oq1
        have hC := hC.offL (f := 2) (by decide) z1 oq1
        refine lv_aload hx hb dL_law_122 (lv_at hl 11 rfl) ?_
        refine lv_iload hx hb dL_law_124 (lv_at hl 0 rfl) ?_
        refine lv_iconst (v := 3) hx hb dL_law_126 (by decide) ?_
        refine xiast hx hb hE.1.1 hS (hP.arr 8 (by decide)) (hP.oarr 8 (by decide)) 0 rfl (k := j) rfl (show _ < 12 by omega) (by decide) dL_law_127 (fun H1 locs1 he1 z1 oq1 hS => ?_)
        have hP := hP.put 8 j (by decide) he1 oq1
        have hC := hC.offL (f := 8) (by decide) z1 oq1
        refine lv_iinc (v := (nI (j + 1))) (lv' := [(16, .int (nI (j + 1))), (0, .ref b), (1, .ref s.heap.size), (2, .ref (al 0)), (3, .ref (al 1)), (4, .ref (al 2)), (5, .ref (al 3)), (6, .ref (al 4)), (7, .ref (al 5)), (8, .ref (al 6)), (9, .ref (al 7)), (10, .ref (al 8)), (11, .ref (al 9)), (12, .ref (al 10)), (13, .ref (al 11)), (14, .ref (al 12)), (15, .ref (al 13))]) hx hb dL_law_128 hl (k := 0) rfl (nI_1 _) (by decide) rfl (fun ls hl => ?_)
        refine lv_goto (tgt := 97) hx hb dL_law_131 (by decide) ?_
        exact ih97 _ (j + 1) (by omega) (by omega) hI.step _ _ _ hS hP hC (lv_sub hl [0, 1, 2, 3, 4, 5, 6, 7, 8, 9, 10, 11, 12, 13, 14, 15, 16] rfl)
  exact L97 13 _ 0 (by omega) (by omega) INI.first _ _ _ hS hP hC (lv_sub hl [0, 16, 15, 14, 13, 12, 11, 10, 9, 8, 7, 6, 5, 4, 3, 2, 1] rfl)
set_option maxHeartbeats 4000000 in
set_option maxRecDepth 100000 in
theorem LS_8 (l : Launch) (hl9 : l.stackTraces = false) {p : Program} {e : Env} {s : State} {m : MethodId} {below : List Frame} {meth : Method} {c : Code} {b L : Nat} {xs : Nat → Int32} {G : GE} {al : Nat → Nat} (C : CallFix p m c cL_law 30 s #[Value.ref b] gTb RL) (hE : EN (fun q => s.heap.size ≤ q) G s s.heap) (hN : NCX s) (hX : va_X b L xs s s.heap) (hbl : b < s.heap.size) (hL : L ≤ 260) (hr : meth.sig.returnType = ret) (hlocks : meth.locks = false) {cc9 ss9 : Nat} {H : Heap} {locs : List Loc} {ls : Array Slot} {z0 : Nat} (hz : H.size = z0 + 0) (hal : ∀ k, al k = z0 + k) (hcc : cc9 ≤ 100) (hss : ss9 ≤ 1000) (hS : va_S (fun q => s.heap.size ≤ q) s.heap H locs) (hC : CST G (AxL s.heap.size al) s.heap.size (mI 4 1 12 6) 0 0 0 H) (hP : PL G (fun q => s.heap.size ≤ q) al (fun _ _ => 0) 0 H) (hl : lv_has ls 30 [(1, .ref s.heap.size), (0, .ref b)]) : W p l e room_1 s m #[Value.ref b] below meth c H locs cc9 ss9 (lw_Z below #[Value.ref b] s) (F0 m 8 ls []) := by
  have hx := C.1
  have hb := C.2.1
  have hown := C.2.2.2.1
  have hts := C.2.2.2.2
  refine lv_bipush (v := 7) hx hb dL_law_8 (by decide) ?_
  refine larr (k := 0) (n := 7) (z0 := z0) hx hb (hts _ wAC_int) hE.1.1 rfl hS hP hC hz hal rfl (by decide) (by show cc9 + 1 ≤ 709356; omega) (by show ss9 + 7 ≤ 6973399; omega) dL_law_10 (fun H hP hC hz hS => ?_)
  refine lv_astore_n (lv' := [(2, .ref (al 0)), (1, .ref s.heap.size), (0, .ref b)]) hx hb dL_law_12 rfl hl (by decide) rfl (fun ls hl => ?_)
  refine lv_iconst (v := 4) hx hb dL_law_13 (by decide) ?_
  refine larr (k := 1) (n := 4) (z0 := z0) hx hb (hts _ wAC_int) hE.1.1 rfl hS hP hC hz hal rfl (by decide) (by show cc9 + 1 + 1 ≤ 709356; omega) (by show ss9 + 7 + 4 ≤ 6973399; omega) dL_law_14 (fun H hP hC hz hS => ?_)
  refine lv_astore_n (lv' := [(3, .ref (al 1)), (2, .ref (al 0)), (1, .ref s.heap.size), (0, .ref b)]) hx hb dL_law_16 rfl hl (by decide) rfl (fun ls hl => ?_)
  refine lv_bipush (v := 6) hx hb dL_law_17 (by decide) ?_
  refine larr (k := 2) (n := 6) (z0 := z0) hx hb (hts _ wAC_int) hE.1.1 rfl hS hP hC hz hal rfl (by decide) (by show cc9 + 1 + 1 + 1 ≤ 709356; omega) (by show ss9 + 7 + 4 + 6 ≤ 6973399; omega) dL_law_19 (fun H hP hC hz hS => ?_)
  refine lv_astore (lv' := [(4, .ref (al 2)), (3, .ref (al 1)), (2, .ref (al 0)), (1, .ref s.heap.size), (0, .ref b)]) hx hb dL_law_21 hl (by decide) rfl (fun ls hl => ?_)
  refine lv_bipush (v := 60) hx hb dL_law_23 (by decide) ?_
  refine larr (k := 3) (n := 60) (z0 := z0) hx hb (hts _ wAC_int) hE.1.1 rfl hS hP hC hz hal rfl (by decide) (by show cc9 + 1 + 1 + 1 + 1 ≤ 709356; omega) (by show ss9 + 7 + 4 + 6 + 60 ≤ 6973399; omega) dL_law_25 (fun H hP hC hz hS => ?_)
  refine lv_astore (lv' := [(5, .ref (al 3)), (4, .ref (al 2)), (3, .ref (al 1)), (2, .ref (al 0)), (1, .ref s.heap.size), (0, .ref b)]) hx hb dL_law_27 hl (by decide) rfl (fun ls hl => ?_)
  refine lv_bipush (v := 60) hx hb dL_law_29 (by decide) ?_
  refine larr (k := 4) (n := 60) (z0 := z0) hx hb (hts _ wAC_int) hE.1.1 rfl hS hP hC hz hal rfl (by decide) (by show cc9 + 1 + 1 + 1 + 1 + 1 ≤ 709356; omega) (by show ss9 + 7 + 4 + 6 + 60 + 60 ≤ 6973399; omega) dL_law_31 (fun H hP hC hz hS => ?_)
  refine lv_astore (lv' := [(6, .ref (al 4)), (5, .ref (al 3)), (4, .ref (al 2)), (3, .ref (al 1)), (2, .ref (al 0)), (1, .ref s.heap.size), (0, .ref b)]) hx hb dL_law_33 hl (by decide) rfl (fun ls hl => ?_)
  refine lv_bipush (v := 60) hx hb dL_law_35 (by decide) ?_
  refine larr (k := 5) (n := 60) (z0 := z0) hx hb (hts _ wAC_int) hE.1.1 rfl hS hP hC hz hal rfl (by decide) (by show cc9 + 1 + 1 + 1 + 1 + 1 + 1 ≤ 709356; omega) (by show ss9 + 7 + 4 + 6 + 60 + 60 + 60 ≤ 6973399; omega) dL_law_37 (fun H hP hC hz hS => ?_)
  refine lv_astore (lv' := [(7, .ref (al 5)), (6, .ref (al 4)), (5, .ref (al 3)), (4, .ref (al 2)), (3, .ref (al 1)), (2, .ref (al 0)), (1, .ref s.heap.size), (0, .ref b)]) hx hb dL_law_39 hl (by decide) rfl (fun ls hl => ?_)
  refine lv_bipush (v := 60) hx hb dL_law_41 (by decide) ?_
  refine larr (k := 6) (n := 60) (z0 := z0) hx hb (hts _ wAC_int) hE.1.1 rfl hS hP hC hz hal rfl (by decide) (by show cc9 + 1 + 1 + 1 + 1 + 1 + 1 + 1 ≤ 709356; omega) (by show ss9 + 7 + 4 + 6 + 60 + 60 + 60 + 60 ≤ 6973399; omega) dL_law_43 (fun H hP hC hz hS => ?_)
  refine lv_astore (lv' := [(8, .ref (al 6)), (7, .ref (al 5)), (6, .ref (al 4)), (5, .ref (al 3)), (4, .ref (al 2)), (3, .ref (al 1)), (2, .ref (al 0)), (1, .ref s.heap.size), (0, .ref b)]) hx hb dL_law_45 hl (by decide) rfl (fun ls hl => ?_)
  refine lv_bipush (v := 60) hx hb dL_law_47 (by decide) ?_
  refine larr (k := 7) (n := 60) (z0 := z0) hx hb (hts _ wAC_int) hE.1.1 rfl hS hP hC hz hal rfl (by decide) (by show cc9 + 1 + 1 + 1 + 1 + 1 + 1 + 1 + 1 ≤ 709356; omega) (by show ss9 + 7 + 4 + 6 + 60 + 60 + 60 + 60 + 60 ≤ 6973399; omega) dL_law_49 (fun H hP hC hz hS => ?_)
  refine lv_astore (lv' := [(9, .ref (al 7)), (8, .ref (al 6)), (7, .ref (al 5)), (6, .ref (al 4)), (5, .ref (al 3)), (4, .ref (al 2)), (3, .ref (al 1)), (2, .ref (al 0)), (1, .ref s.heap.size), (0, .ref b)]) hx hb dL_law_51 hl (by decide) rfl (fun ls hl => ?_)
  refine lv_bipush (v := 12) hx hb dL_law_53 (by decide) ?_
  refine larr (k := 8) (n := 12) (z0 := z0) hx hb (hts _ wAC_int) hE.1.1 rfl hS hP hC hz hal rfl (by decide) (by show cc9 + 1 + 1 + 1 + 1 + 1 + 1 + 1 + 1 + 1 ≤ 709356; omega) (by show ss9 + 7 + 4 + 6 + 60 + 60 + 60 + 60 + 60 + 12 ≤ 6973399; omega) dL_law_55 (fun H hP hC hz hS => ?_)
  refine lv_astore (lv' := [(10, .ref (al 8)), (9, .ref (al 7)), (8, .ref (al 6)), (7, .ref (al 5)), (6, .ref (al 4)), (5, .ref (al 3)), (4, .ref (al 2)), (3, .ref (al 1)), (2, .ref (al 0)), (1, .ref s.heap.size), (0, .ref b)]) hx hb dL_law_57 hl (by decide) rfl (fun ls hl => ?_)
  refine lv_bipush (v := 10) hx hb dL_law_59 (by decide) ?_
  refine larr (k := 9) (n := 10) (z0 := z0) hx hb (hts _ wAC_int) hE.1.1 rfl hS hP hC hz hal rfl (by decide) (by show cc9 + 1 + 1 + 1 + 1 + 1 + 1 + 1 + 1 + 1 + 1 ≤ 709356; omega) (by show ss9 + 7 + 4 + 6 + 60 + 60 + 60 + 60 + 60 + 12 + 10 ≤ 6973399; omega) dL_law_61 (fun H hP hC hz hS => ?_)
  refine lv_astore (lv' := [(11, .ref (al 9)), (10, .ref (al 8)), (9, .ref (al 7)), (8, .ref (al 6)), (7, .ref (al 5)), (6, .ref (al 4)), (5, .ref (al 3)), (4, .ref (al 2)), (3, .ref (al 1)), (2, .ref (al 0)), (1, .ref s.heap.size), (0, .ref b)]) hx hb dL_law_63 hl (by decide) rfl (fun ls hl => ?_)
  refine lv_bipush (v := 10) hx hb dL_law_65 (by decide) ?_
  refine larr (k := 10) (n := 10) (z0 := z0) hx hb (hts _ wAC_int) hE.1.1 rfl hS hP hC hz hal rfl (by decide) (by show cc9 + 1 + 1 + 1 + 1 + 1 + 1 + 1 + 1 + 1 + 1 + 1 ≤ 709356; omega) (by show ss9 + 7 + 4 + 6 + 60 + 60 + 60 + 60 + 60 + 12 + 10 + 10 ≤ 6973399; omega) dL_law_67 (fun H hP hC hz hS => ?_)
  refine lv_astore (lv' := [(12, .ref (al 10)), (11, .ref (al 9)), (10, .ref (al 8)), (9, .ref (al 7)), (8, .ref (al 6)), (7, .ref (al 5)), (6, .ref (al 4)), (5, .ref (al 3)), (4, .ref (al 2)), (3, .ref (al 1)), (2, .ref (al 0)), (1, .ref s.heap.size), (0, .ref b)]) hx hb dL_law_69 hl (by decide) rfl (fun ls hl => ?_)
  refine lv_bipush (v := 10) hx hb dL_law_71 (by decide) ?_
  refine larr (k := 11) (n := 10) (z0 := z0) hx hb (hts _ wAC_int) hE.1.1 rfl hS hP hC hz hal rfl (by decide) (by show cc9 + 1 + 1 + 1 + 1 + 1 + 1 + 1 + 1 + 1 + 1 + 1 + 1 ≤ 709356; omega) (by show ss9 + 7 + 4 + 6 + 60 + 60 + 60 + 60 + 60 + 12 + 10 + 10 + 10 ≤ 6973399; omega) dL_law_73 (fun H hP hC hz hS => ?_)
  refine lv_astore (lv' := [(13, .ref (al 11)), (12, .ref (al 10)), (11, .ref (al 9)), (10, .ref (al 8)), (9, .ref (al 7)), (8, .ref (al 6)), (7, .ref (al 5)), (6, .ref (al 4)), (5, .ref (al 3)), (4, .ref (al 2)), (3, .ref (al 1)), (2, .ref (al 0)), (1, .ref s.heap.size), (0, .ref b)]) hx hb dL_law_75 hl (by decide) rfl (fun ls hl => ?_)
  refine lv_bipush (v := 10) hx hb dL_law_77 (by decide) ?_
  refine larr (k := 12) (n := 10) (z0 := z0) hx hb (hts _ wAC_int) hE.1.1 rfl hS hP hC hz hal rfl (by decide) (by show cc9 + 1 + 1 + 1 + 1 + 1 + 1 + 1 + 1 + 1 + 1 + 1 + 1 + 1 ≤ 709356; omega) (by show ss9 + 7 + 4 + 6 + 60 + 60 + 60 + 60 + 60 + 12 + 10 + 10 + 10 + 10 ≤ 6973399; omega) dL_law_79 (fun H hP hC hz hS => ?_)
  refine lv_astore (lv' := [(14, .ref (al 12)), (13, .ref (al 11)), (12, .ref (al 10)), (11, .ref (al 9)), (10, .ref (al 8)), (9, .ref (al 7)), (8, .ref (al 6)), (7, .ref (al 5)), (6, .ref (al 4)), (5, .ref (al 3)), (4, .ref (al 2)), (3, .ref (al 1)), (2, .ref (al 0)), (1, .ref s.heap.size), (0, .ref b)]) hx hb dL_law_81 hl (by decide) rfl (fun ls hl => ?_)
  refine lv_iconst (v := 5) hx hb dL_law_83 (by decide) ?_
  refine larr (k := 13) (n := 5) (z0 := z0) hx hb (hts _ wAC_int) hE.1.1 rfl hS hP hC hz hal rfl (by decide) (by show cc9 + 1 + 1 + 1 + 1 + 1 + 1 + 1 + 1 + 1 + 1 + 1 + 1 + 1 + 1 ≤ 709356; omega) (by show ss9 + 7 + 4 + 6 + 60 + 60 + 60 + 60 + 60 + 12 + 10 + 10 + 10 + 10 + 5 ≤ 6973399; omega) dL_law_84 (fun H hP hC hz hS => ?_)
  refine lv_astore (lv' := [(15, .ref (al 13)), (14, .ref (al 12)), (13, .ref (al 11)), (12, .ref (al 10)), (11, .ref (al 9)), (10, .ref (al 8)), (9, .ref (al 7)), (8, .ref (al 6)), (7, .ref (al 5)), (6, .ref (al 4)), (5, .ref (al 3)), (4, .ref (al 2)), (3, .ref (al 1)), (2, .ref (al 0)), (1, .ref s.heap.size), (0, .ref b)]) hx hb dL_law_86 hl (by decide) rfl (fun ls hl => ?_)
  exact LS_88 l hl9 C hE hN hX hbl hL hr hlocks (by omega) (by omega) hS hC hP hl
set_option maxHeartbeats 4000000 in
set_option maxRecDepth 100000 in
/-- THE LAW, from its entry -/
theorem whole_start {p : Program} {e : Env} {s : State} {m : MethodId} {below : List Frame} {meth : Method} {c : Code} (l : Launch) (hflags : l.flags = flags0) {b L : Nat} {xs : Nat → Int32} (hL : L ≤ 260) (C0 : lw_At p s m meth c b L xs) : W p l e room_1 s m #[Value.ref b] below meth c s.heap [] 0 0 (lw_Z below #[Value.ref b] s) (entryFrame m ([Value.ref b] : List Value).toArray 30) := by
  obtain ⟨hx, hb, hr, hml, hown, hts, hX, hbl, hlocks, hgv⟩ := id C0
  have hl9 : l.stackTraces = false := by
    unfold Launch.stackTraces
    rw [hflags]
    decide
  have hg : ∀ w ∈ gTb, w.before #[Value.ref b] s = true := fun w hw => hts w (List.mem_filter.mp hw).1
  have C : CallFix p m c cL_law 30 s #[Value.ref b] gTb RL := ⟨hx, hb, hml, hown, hg⟩
  obtain ⟨G, hE, hN⟩ := start_E hts hgv
  have hS : va_S (fun q : Nat => s.heap.size ≤ q) s.heap s.heap [] := va_S.rf
  have hl := lv_entry ([.ref b]) (n := 30) (Nat.le_of_ble_eq_true rfl)
  rw [lg_entry_eq]
  generalize (lg_sl ([.ref b]) ++ List.replicate (30 - (lg_sl ([.ref b])).length) Slot.unset).toArray = ls at hl ⊢
  have hl : lv_has ls 30 [(0, .ref b)] := hl
  refine xnew (ci := 7) (N := 8) hx hb hg inG_X5 tyX5 tyX5_ok hown wCL_L_37 wIS_X5 wIN_X5 hE.1.1 hS (show mcl[7]? = some (RX5, TX5, 8) from rfl) (fs := [.null, .null, .null, .null, .null, .int 0, .int 0, .int 0]) (by decide) (Nat.le_of_ble_eq_true rfl) (Nat.le_of_ble_eq_true rfl) dL_law_0 (fun H1 h1 z1 oq1 hS => ?_)
  refine lv_dup hx hb dL_law_3 rfl ?_
  refine hcallI (n := 0) C hE (cI_main l G (fun q => s.heap.size ≤ q) s.heap.size (Nat.le_refl _)) wML_L_120 wIM_X5_init wIN_X5 wCO_X5_init rfl (by decide) rfl ⟨Nat.le_of_ble_eq_true rfl, Nat.le_of_ble_eq_true rfl⟩ hS (fun q h => h) (fun q h => Nat.le_trans hS.1 h) h1 rfl hl.1 (Nat.le_of_ble_eq_true rfl) dL_law_4 ⟨Nat.le_of_ble_eq_true rfl, Nat.le_of_ble_eq_true rfl⟩ (fun E ce q9 H1 locs1 hx9 _ _ _ _ _ => hx9.elim) (fun v H2 locs2 hv hk2 hS => ?_)
  obtain ⟨rfl, ad, ea, hP0⟩ := hv
  refine lv_astore_n (lv' := [(1, .ref s.heap.size), (0, .ref b)]) hx hb dL_law_7 rfl hl (by decide) rfl (fun ls hl => ?_)
  obtain ⟨al, hal⟩ : ∃ al : Nat → Nat, ∀ k, al k = H2.size + k := ⟨fun k => H2.size + k, fun _ => rfl⟩
  have hC : CST G (AxL s.heap.size al) s.heap.size (mI 4 1 12 6) 0 0 0 H2 := ⟨ad, fInit, fun _ => [], 0, 0, ea, PX.anyL hP0 (fun q h1 h2 => ⟨h1, fun ⟨f, _, e9⟩ => by rw [hal] at e9; omega⟩), init_rel, fun t ht => absurd ht (Nat.not_lt_zero t)⟩
  exact LS_8 l hl9 C hE hN hX hbl hL hr hlocks (z0 := H2.size) rfl hal (Nat.le_of_ble_eq_true rfl) (Nat.le_of_ble_eq_true rfl) hS hC PL.zero hl
set_option maxHeartbeats 4000000 in
theorem lw_walk (l : Launch) (hflags : l.flags = flags0) (b : Addr) (xs : List Int32) : MetFree l x (headSpec (Jvm.Cond.code x code maxLocals ret :: tables_1) room_1) (lw_P b xs) (fun _ _ _ _ _ => True) lw_Q := by
  refine MetFree.of_bodyS (code := code) (maxLocals := maxLocals) (ret := ret) (by decide) ?_ ?_
  · intro args s m h hn
    obtain ⟨meth, c, h1, h2, h3, h4, h5, h6, -, -⟩ := Cond.code_spec hn (atoms_spec (ws := Jvm.Cond.code x code maxLocals ret :: tables_1) h _ List.mem_cons_self)
    exact ⟨meth, c, h1, h2, h3, h4, h5, h6⟩
  · intro p e s m args below meth c s₁ B hml0 hP _
    obtain ⟨rfl, hx, hbd, hgv⟩ := hP
    obtain ⟨scr, harrAt, hlist, hof, hsmall⟩ := hx
    obtain ⟨hcb, hkn, -, -⟩ := State.arrayAt?_spec harrAt
    have hown : s.vm.findClass R_law = some m.cls := findClass_of_methodNamed B.named
    have hts0 : ∀ c ∈ (Jvm.Cond.code x code maxLocals ret :: tables_1), c.before #[Value.ref b] s = true := atoms_spec (ws := Jvm.Cond.code x code maxLocals ret :: tables_1) B.pre
    have hts : ∀ w ∈ lw_tbl, w.before #[Value.ref b] s = true := k2_hts_sels lw_privs (fun w hw => hts0 w (List.mem_cons_of_mem _ hw)) lw_privs_ok
    have hml : c.maxLocals = 30 := B.maxLocals_eq (hts0 _ List.mem_cons_self)
    have X₀ : Stand p l e room_1 s m #[Value.ref b] below meth c s₁ [] 0 0 := Stand.of_body B
    have hh0 : s₁.heap = s.heap := by rw [B.state]; rfl
    have hsz : scr.slots.size = xs.length := by rw [← Array.length_toList, hlist, List.length_map]
    have hval : ∀ j : Nat, j < xs.length → scr.slots[j]? = some (.int (xs.getD j 0)) := fun j hj => by
      rw [← Array.getElem?_toList, hlist]
      simp [hj]
    have hbl : b < s.heap.size := (Array.getElem?_eq_some_iff.mp hcb).1
    have hX : va_X b xs.length (fun j => xs.getD j 0) s s.heap := ⟨scr, hcb, hof, hkn, hsz, hval⟩
    have K : W p l e room_1 s m #[Value.ref b] below meth c s₁.heap [] 0 0 (lw_Z below #[Value.ref b] s) (entryFrame m ([Value.ref b] : List Value).toArray 30) := by
      rw [hh0]
      exact whole_start l hflags hbd ⟨B.exec, B.bytes, B.returns, hml, hown, hts, hX, hbl, B.notSynchronized, hgv⟩
    obtain ⟨t, a1, o, b1, b2, b3⟩ := K s₁ rfl X₀
    exact ⟨t, o, a1, b1, b2, b3⟩
theorem lw_pre_spec {args : Array Value} {s : State} (h : (Jvm.Cond.and given_1 narrow_1).before args s = true) (hr : rest_1_c.before args s = true) : ∃ (b : Addr) (xs : List Int32), lw_P b xs args s := by
  have hs := flat_of_before _ h
  have hq := flat_of_before _ hr
  have hc : (Cond.count 1).before args s = true := hs _ (by decide +kernel)
  have harr : (Cond.arrayOf (.arg 0) .int).before args s = true := hs _ (by decide +kernel)
  have hle : (Cond.le (.length (.arg 0)) (.int 260)).before args s = true := hs _ (by decide +kernel)
  have hlen : (Cond.isInt (.length (.arg 0))).before args s = true := hq _ (by decide +kernel)
  have hall : (Cond.all (.arg 0) (.isInt (.elem (.arg 0) (.index 0)))).before args s = true := hq _ (by decide +kernel)
  obtain ⟨b, xs, hb, hx⟩ := State.ints_of_pre rfl harr hlen hall
  have hsm : xs.length < 2 ^ 31 := hx.choose_spec.2.2.2
  have hev : (Term.length (.arg 0)).eval args s none [] s = some (.int xs.length.toInt32) := hx.length_eval hb
  have hv := Cond.le_ints hev (show (Term.int 260).eval args s none [] s = some (.int 260) from rfl)
  have hd : xs.length.toInt32 ≤ 260 := by
    simpa [Cond.before, Cond.holds, hv] using hle
  have hN : xs.length ≤ 260 := (Int32.ofNat_le_ofNat hsm (by decide)).mp (show Int32.ofNat xs.length ≤ Int32.ofNat 260 from hd)
  exact ⟨b, xs, Cond.one_arg hc (show args[0]? = some (.ref b) from hb), hx, hN, h⟩
theorem lw_comes (l : Launch) (hflags : l.flags = flags0) : Comes l x (Jvm.Cond.code x code maxLocals ret :: tables_1) room_1 (fun tb e args s => Calls_1 tb e args s ∧ rest_1 tb e args s ∧ Pre_1 tb e args s)
    (fun _ _ args s o t => lw_Q args s o t) := by
  intro p e ha hc hk s m args below hf hfit hheap happ hpre
  obtain ⟨b, xs, hP⟩ := lw_pre_spec hpre.2.2 hpre.2.1
  obtain ⟨k, o, h1, h2, h3, hQ⟩ := lw_walk l hflags b xs p e ha hc hk s m args below hf ((Spec.applies_iff_loose hf).mp happ).1 hP trivial
  exact ⟨k, o, h1, h2, h3, hQ⟩
theorem lw_frame {s t : State} {o : Outcome} {args : Array Value} (h : Framed s o t [] 709356 6973399) :
    Framed s o t (fieldLocs frame_1_writes args s ++ arrayLocs frame_1_arrays args s ++ staticLocs frame_1_statics s) 709356 6973399 := h
theorem lw_limb (L : Cond) (hL : ∀ (args : Array Value) (s t : State), L.after args s (.returned (some (.int 1))) t = true) :
    ArmFor flags0 classFile x code maxLocals ret World_1 tables_1 room_1 Calls_1 rest_1 Pre_1
      (fun tb e a s o t => postC L tb e a s o t ∧ Framed s o t (fieldLocs frame_1_writes a s ++ arrayLocs frame_1_arrays a s ++ staticLocs frame_1_statics s) 709356 6973399) := by
  intro l hflags _ _ p e ha hc hk s m args below hf hfit hheap happ hpre
  obtain ⟨k, o, h1, h2, h3, rfl, hF⟩ := lw_comes l hflags p e ha hc hk s m args below hf hfit hheap happ hpre
  exact ⟨k, _, h1, h2, h3, hL args s _, lw_frame hF⟩
theorem i_vc : Claimed_1_1 ∧ Claimed_1_2 := ⟨lw_limb limb_1_1 (fun args s t => by simp [limb_1_1, Cond.after, Cond.holds, Cond.value]), lw_limb limb_1_2 (fun args s t => Cond.after_iff.mpr (by
  first | (rw [show limb_1_2 = Cond.eq .result (.int 1) from rfl, Cond.eq_ints (x := 1) (y := 1) rfl rfl]; simp; done) | (simp [limb_1_2, Cond.value, Term.eval]; done)))⟩
