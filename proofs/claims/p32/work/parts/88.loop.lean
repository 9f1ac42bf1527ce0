/-! THE CLAIM OUT OF ONE WALK OF THE LAW'S BODY. Your part is whole_start (and what it stands on); all else here is the same for every law, but numbers. -/
def R_law : String := "MuseumTillLaw"
def lw_P (b : Addr) (xs : List Int32) (args : Array Value) (s : State) : Prop := args = #[.ref b] ∧ s.IntsAt b xs ∧ xs.length ≤ 260 ∧ (Jvm.Cond.and given_1 narrow_1).before args s = true
def lw_Q (_ : Array Value) (s : State) (o : Outcome) (t : State) : Prop := o = .returned (some (.int 1)) ∧ Framed s o t [] 709356 6973399
def lw_Z (below : List Frame) (a : Array Value) (s : State) : State → Prop := fun t => ∃ o, t.status = .running ∧ Ended t below o ∧ lw_Q a s o t
/-- the law's own end, with 1 on the stack, nothing written that was there before, its room as the claim has it -/
theorem lw_ret {p : Program} {l : Launch} {e : Env} {s : State} {m : MethodId} {below : List Frame} {meth : Method} {c : Code} {b : Nat} (hx : p.tables.exec = Jvm.exec) (hb : c.code = code) (hr : meth.sig.returnType = ret) (hlocks : meth.locks = false) {pc : Nat} {H : Heap} {ls : Array Slot} (hdg : decode code pc = .ok (.ireturn, 1)) : W p l e room_1 s m #[Value.ref b] below meth c H [] 709356 6973399 (lw_Z below #[Value.ref b] s) (F0 m pc ls [.int 1]) := by
  intro T hT X
  obtain ⟨fs, hret, hrun, hended, hW, hframe⟩ := X.leave (v := some (.int 1)) (hlocks := hlocks) (fun h => by rw [hr] at h; cases h)
  have hmeth' : T.vm.method? m = some meth := X.method'
  refine ⟨T.setFrames fs, ?_, .returned (some (.int 1)), hrun, hended, rfl, ⟨_, rfl⟩, hW, hframe⟩
  jvm_step X.here [X.here.top, hx, hb, hdg, hmeth', hr, ret, narrow_b1]
  (try refine ⟨rfl, ?_⟩); (try refine ⟨rfl, ?_⟩)
  first | (intro acts; rw [hret _ acts rfl rfl rfl]) | rw [hret _ _ rfl rfl rfl]
  exact Steps.refl _
/-- what holds at the law's entry: the machine, the code, the tables' words (any of lw_tbl by 'hts w (by decide +kernel)'), the script of L ints xs at the cell b, what the Statement gives of the start (any of its parts by flat_of_before) -/
def lw_At (p : Program) (s : State) (m : MethodId) (meth : Method) (c : Code) (b L : Nat) (xs : Nat → Int32) : Prop :=
  p.tables.exec = Jvm.exec ∧ c.code = code ∧ meth.sig.returnType = ret ∧ c.maxLocals = 30 ∧ s.vm.findClass R_law = some m.cls ∧ (∀ w ∈ lw_tbl, w.before #[Value.ref b] s = true) ∧ va_X b L xs s s.heap ∧ b < s.heap.size ∧ meth.locks = false ∧ (Jvm.Cond.and given_1 narrow_1).before #[Value.ref b] s = true
set_option maxHeartbeats 4000000 in
set_option maxRecDepth 100000 in
theorem LP_361 (l : Launch) (hl9 : l.stackTraces = false) {p : Program} {e : Env} {s : State} {m : MethodId} {below : List Frame} {meth : Method} {c : Code} {b : Nat} {G : GE} {a0 : Nat} {al : Nat → Nat} (C : CallFix p m c cL_law 30 s #[Value.ref b] gTb RL) (hE : EN (fun q => s.heap.size ≤ q) G s s.heap) (hN : NCX s) {N cc9 ss9 : Nat} {Qw : State → Prop} {H : Heap} {locs : List Loc} {ls : Array Slot} (hcc : cc9 ≤ 700000) (hss : ss9 ≤ 6900000) (hN9 : N ≤ 200) {τ μ : SG} {nT nW : Nat} (hS : va_S (fun q => s.heap.size ≤ q) s.heap H locs) (hC : CST G (AxL s.heap.size al) a0 τ nT nW N H) (hP : PL G (fun q => s.heap.size ≤ q) al μ 14 H) (hR : LR μ τ nT nW) (ht0 : thr τ 0 = τ) {z9 kd tn : Int32} {y i r h k u : Nat} (hy : y < 67108864) (hiT : nT ≠ 0 → i < nT) (hi0 : nT = 0 → i = 0) (hr9 : r < 12) (hh4 : h < 4) (hk6 : k < 6) (hu0 : nW ≠ 0 → u < nW) (hl : lv_has ls 30 [(18, .int z9), (19, .int kd), (20, .int (nI y)), (21, .int (nI i)), (22, .int (nI r)), (23, .int (nI h)), (24, .int (nI k)), (16, .int 1), (17, .int tn), (0, .ref b), (1, .ref a0), (2, .ref (al 0)), (3, .ref (al 1)), (4, .ref (al 2)), (5, .ref (al 3)), (6, .ref (al 4)), (7, .ref (al 5)), (8, .ref (al 6)), (9, .ref (al 7)), (10, .ref (al 8)), (11, .ref (al 9)), (12, .ref (al 10)), (13, .ref (al 11)), (14, .ref (al 12)), (15, .ref (al 13))])
    (kk : ∀ (y : Nat) (H1 : Heap) (locs1 : List Loc) (ls1 : Array Slot) (cc1 ss1 : Nat), cc1 ≤ cc9 + 10 → ss1 ≤ ss9 + 300 → va_S (fun q => s.heap.size ≤ q) s.heap H1 locs1 → LINV G s.heap.size a0 al (N + 1) H1 → lv_has ls1 30 [(16, .int 1), (17, .int tn), (20, .int (nI y)), (0, .ref b), (1, .ref a0), (2, .ref (al 0)), (3, .ref (al 1)), (4, .ref (al 2)), (5, .ref (al 3)), (6, .ref (al 4)), (7, .ref (al 5)), (8, .ref (al 6)), (9, .ref (al 7)), (10, .ref (al 8)), (11, .ref (al 9)), (12, .ref (al 10)), (13, .ref (al 11)), (14, .ref (al 12)), (15, .ref (al 13))] → W p l e room_1 s m #[Value.ref b] below meth c H1 locs1 cc1 ss1 Qw (F0 m 2555 ls1 [])) : W p l e room_1 s m #[Value.ref b] below meth c H locs cc9 ss9 Qw (F0 m 361 ls [.int (nI u)]) := by
  have hx := C.1
  have hb := C.2.1
  have hown := C.2.2.2.1
  have hts := C.2.2.2.2
  obtain ⟨h60, h10⟩ := lr_n60 hR
  refine lv_istore (lv' := [(25, .int (nI u)), (18, .int z9), (19, .int kd), (20, .int (nI y)), (21, .int (nI i)), (22, .int (nI r)), (23, .int (nI h)), (24, .int (nI k)), (16, .int 1), (17, .int tn), (0, .ref b), (1, .ref a0), (2, .ref (al 0)), (3, .ref (al 1)), (4, .ref (al 2)), (5, .ref (al 3)), (6, .ref (al 4)), (7, .ref (al 5)), (8, .ref (al 6)), (9, .ref (al 7)), (10, .ref (al 8)), (11, .ref (al 9)), (12, .ref (al 10)), (13, .ref (al 11)), (14, .ref (al 12)), (15, .ref (al 13))]) hx hb dL_law_361 hl (by decide) rfl (fun ls hl => ?_)
  exact LC_buy l hl9 C hE hN hcc hss hN9 hS hC hP hR ht0 hy hiT hi0 hr9 hh4 hk6 hu0 (lv_sub hl [1, 2, 3, 4, 5, 6, 7, 0, 8, 9, 10, 11, 12, 13, 14, 15, 16, 17, 18, 19, 20, 21, 22, 23, 24, 25] rfl) (kk y)
set_option maxHeartbeats 4000000 in
set_option maxRecDepth 100000 in
theorem LP_325 (l : Launch) (hl9 : l.stackTraces = false) {p : Program} {e : Env} {s : State} {m : MethodId} {below : List Frame} {meth : Method} {c : Code} {b : Nat} {G : GE} {a0 : Nat} {al : Nat → Nat} (C : CallFix p m c cL_law 30 s #[Value.ref b] gTb RL) (hE : EN (fun q => s.heap.size ≤ q) G s s.heap) (hN : NCX s) {N cc9 ss9 : Nat} {Qw : State → Prop} {H : Heap} {locs : List Loc} {ls : Array Slot} (hcc : cc9 ≤ 700000) (hss : ss9 ≤ 6900000) (hN9 : N ≤ 200) {τ μ : SG} {nT nW : Nat} (hS : va_S (fun q => s.heap.size ≤ q) s.heap H locs) (hC : CST G (AxL s.heap.size al) a0 τ nT nW N H) (hP : PL G (fun q => s.heap.size ≤ q) al μ 14 H) (hR : LR μ τ nT nW) (ht0 : thr τ 0 = τ) {z9 kd tn : Int32} {y i r : Nat} (hy : y < 67108864) (hiT : nT ≠ 0 → i < nT) (hi0 : nT = 0 → i = 0) (hr9 : r < 12) (hl : lv_has ls 30 [(18, .int z9), (19, .int kd), (20, .int (nI y)), (21, .int (nI i)), (16, .int 1), (17, .int tn), (0, .ref b), (1, .ref a0), (2, .ref (al 0)), (3, .ref (al 1)), (4, .ref (al 2)), (5, .ref (al 3)), (6, .ref (al 4)), (7, .ref (al 5)), (8, .ref (al 6)), (9, .ref (al 7)), (10, .ref (al 8)), (11, .ref (al 9)), (12, .ref (al 10)), (13, .ref (al 11)), (14, .ref (al 12)), (15, .ref (al 13))])
    (kk : ∀ (y : Nat) (H1 : Heap) (locs1 : List Loc) (ls1 : Array Slot) (cc1 ss1 : Nat), cc1 ≤ cc9 + 10 → ss1 ≤ ss9 + 300 → va_S (fun q => s.heap.size ≤ q) s.heap H1 locs1 → LINV G s.heap.size a0 al (N + 1) H1 → lv_has ls1 30 [(16, .int 1), (17, .int tn), (20, .int (nI y)), (0, .ref b), (1, .ref a0), (2, .ref (al 0)), (3, .ref (al 1)), (4, .ref (al 2)), (5, .ref (al 3)), (6, .ref (al 4)), (7, .ref (al 5)), (8, .ref (al 6)), (9, .ref (al 7)), (10, .ref (al 8)), (11, .ref (al 9)), (12, .ref (al 10)), (13, .ref (al 11)), (14, .ref (al 12)), (15, .ref (al 13))] → W p l e room_1 s m #[Value.ref b] below meth c H1 locs1 cc1 ss1 Qw (F0 m 2555 ls1 [])) : W p l e room_1 s m #[Value.ref b] below meth c H locs cc9 ss9 Qw (F0 m 325 ls [.int (nI r)]) := by
  have hx := C.1
  have hb := C.2.1
  have hown := C.2.2.2.1
  have hts := C.2.2.2.2
  obtain ⟨h60, h10⟩ := lr_n60 hR
  refine lv_istore (lv' := [(22, .int (nI r)), (18, .int z9), (19, .int kd), (20, .int (nI y)), (21, .int (nI i)), (16, .int 1), (17, .int tn), (0, .ref b), (1, .ref a0), (2, .ref (al 0)), (3, .ref (al 1)), (4, .ref (al 2)), (5, .ref (al 3)), (6, .ref (al 4)), (7, .ref (al 5)), (8, .ref (al 6)), (9, .ref (al 7)), (10, .ref (al 8)), (11, .ref (al 9)), (12, .ref (al 10)), (13, .ref (al 11)), (14, .ref (al 12)), (15, .ref (al 13))]) hx hb dL_law_325 hl (by decide) rfl (fun ls hl => ?_)
  refine lv_iload hx hb dL_law_327 (lv_at hl 3 rfl) ?_
  refine lv_iconst (v := 4) hx hb dL_law_329 (by decide) ?_
  refine lv_irem hx hb dL_law_330 (by decide) ?_
  refine W.eq (g2 := F0 m 331 ls [.int (nI (y % 4))]) (congrArg (fun z => F0 m 331 ls [.int z]) (pk_rem (d := 4) (by omega) (by decide) (by decide))) ?_
  refine lv_istore (lv' := [(23, .int (nI (y % 4))), (22, .int (nI r)), (18, .int z9), (19, .int kd), (20, .int (nI y)), (21, .int (nI i)), (16, .int 1), (17, .int tn), (0, .ref b), (1, .ref a0), (2, .ref (al 0)), (3, .ref (al 1)), (4, .ref (al 2)), (5, .ref (al 3)), (6, .ref (al 4)), (7, .ref (al 5)), (8, .ref (al 6)), (9, .ref (al 7)), (10, .ref (al 8)), (11, .ref (al 9)), (12, .ref (al 10)), (13, .ref (al 11)), (14, .ref (al 12)), (15, .ref (al 13))]) hx hb dL_law_331 hl (by decide) rfl (fun ls hl => ?_)
  refine lv_iload hx hb dL_law_333 (lv_at hl 4 rfl) ?_
  refine lv_iconst (v := 4) hx hb dL_law_335 (by decide) ?_
  refine lv_idiv hx hb dL_law_336 (by decide) ?_
  refine lv_bipush (v := 6) hx hb dL_law_337 (by decide) ?_
  refine lv_irem hx hb dL_law_339 (by decide) ?_
  refine W.eq (g2 := F0 m 340 ls [.int (nI (y / 4 % 6))]) (congrArg (fun z => F0 m 340 ls [.int z]) (yq hy (a := 4) (b := 6) (by decide) (by decide) (by decide) (by decide))) ?_
  refine lv_istore (lv' := [(24, .int (nI (y / 4 % 6))), (23, .int (nI (y % 4))), (22, .int (nI r)), (18, .int z9), (19, .int kd), (20, .int (nI y)), (21, .int (nI i)), (16, .int 1), (17, .int tn), (0, .ref b), (1, .ref a0), (2, .ref (al 0)), (3, .ref (al 1)), (4, .ref (al 2)), (5, .ref (al 3)), (6, .ref (al 4)), (7, .ref (al 5)), (8, .ref (al 6)), (9, .ref (al 7)), (10, .ref (al 8)), (11, .ref (al 9)), (12, .ref (al 10)), (13, .ref (al 11)), (14, .ref (al 12)), (15, .ref (al 13))]) hx hb dL_law_340 hl (by decide) rfl (fun ls hl => ?_)
  refine lv_aload_n hx hb dL_law_342 rfl (lv_at hl 11 rfl) ?_
  refine lv_iconst (v := 1) hx hb dL_law_343 (by decide) ?_
  refine xiald hx hb hE.1.1 (hP.arr 0 (by decide)) 0 rfl (k := 1) rfl (show _ < 7 by omega) (by decide) dL_law_344 ?_
  refine W.eq (g2 := F0 m 345 ls [.int (nI nW)]) (congrArg (fun z => F0 m 345 ls [.int z]) (lr_n1 hR)) ?_
  refine lv_if_ne (tgt := 352) hx hb dL_law_345 (by decide) (fun c_345_1 => ?_) (fun c_345_1 => ?_)
  · have hw0 : nW ≠ 0 := fun z => c_345_1 (by rw [z]; rfl)
    refine lv_iload hx hb dL_law_352 (lv_at hl 5 rfl) ?_
    refine lv_bipush (v := 7) hx hb dL_law_354 (by decide) ?_
    refine lv_idiv hx hb dL_law_356 (by decide) ?_
    refine W.eq (g2 := F0 m 357 ls [.int (nI (y / 7))]) (congrArg (fun z => F0 m 357 ls [.int z]) (pk_div (d := 7) (by omega) (by decide) (by decide))) ?_
    refine lv_aload_n hx hb dL_law_357 rfl (lv_at hl 11 rfl) ?_
    refine lv_iconst (v := 1) hx hb dL_law_358 (by decide) ?_
    refine xiald hx hb hE.1.1 (hP.arr 0 (by decide)) 0 rfl (k := 1) rfl (show _ < 7 by omega) (by decide) dL_law_359 ?_
    refine W.eq (g2 := F0 m 360 ls [.int (nI nW), .int (nI (y / 7))]) (congrArg (fun z => F0 m 360 ls [.int z, .int (nI (y / 7))]) (lr_n1 hR)) ?_
    refine lv_irem hx hb dL_law_360 (nI_ne0 (by omega) (by omega)) ?_
    refine W.eq (g2 := F0 m 361 ls [.int (nI (y / 7 % nW))]) (congrArg (fun z => F0 m 361 ls [.int z]) (pk_rem (d := nW) (Nat.lt_of_le_of_lt (Nat.div_le_self _ _) (by omega)) (by omega) (by omega))) ?_
    exact LP_361 l hl9 C hE hN hcc hss hN9 hS hC hP hR ht0 (u := y / 7 % nW) hy hiT hi0 hr9 (Nat.mod_lt _ (by decide)) (Nat.mod_lt _ (by decide)) (fun _ => Nat.mod_lt _ (by omega)) (lv_sub hl [3, 4, 5, 6, 2, 1, 0, 7, 8, 9, 10, 11, 12, 13, 14, 15, 16, 17, 18, 19, 20, 21, 22, 23, 24] rfl) kk
  · have hw0 : nW = 0 := nIe (b := 0) (by omega) (by decide) c_345_1
    refine lv_iconst (v := 0) hx hb dL_law_348 (by decide) ?_
    refine lv_goto (tgt := 361) hx hb dL_law_349 (by decide) ?_
    exact LP_361 l hl9 C hE hN hcc hss hN9 hS hC hP hR ht0 (u := 0) hy hiT hi0 hr9 (Nat.mod_lt _ (by decide)) (Nat.mod_lt _ (by decide)) (fun z => absurd hw0 z) (lv_sub hl [3, 4, 5, 6, 2, 1, 0, 7, 8, 9, 10, 11, 12, 13, 14, 15, 16, 17, 18, 19, 20, 21, 22, 23, 24] rfl) kk
set_option maxHeartbeats 4000000 in
set_option maxRecDepth 100000 in
theorem LP_296 (l : Launch) (hl9 : l.stackTraces = false) {p : Program} {e : Env} {s : State} {m : MethodId} {below : List Frame} {meth : Method} {c : Code} {b : Nat} {G : GE} {a0 : Nat} {al : Nat → Nat} (C : CallFix p m c cL_law 30 s #[Value.ref b] gTb RL) (hE : EN (fun q => s.heap.size ≤ q) G s s.heap) (hN : NCX s) {N cc9 ss9 : Nat} {Qw : State → Prop} {H : Heap} {locs : List Loc} {ls : Array Slot} (hcc : cc9 ≤ 700000) (hss : ss9 ≤ 6900000) (hN9 : N ≤ 200) {τ μ : SG} {nT nW : Nat} (hS : va_S (fun q => s.heap.size ≤ q) s.heap H locs) (hC : CST G (AxL s.heap.size al) a0 τ nT nW N H) (hP : PL G (fun q => s.heap.size ≤ q) al μ 14 H) (hR : LR μ τ nT nW) (ht0 : thr τ 0 = τ) {z9 kd tn : Int32} {y i : Nat} (hy : y < 67108864) (hiT : nT ≠ 0 → i < nT) (hi0 : nT = 0 → i = 0) (hl : lv_has ls 30 [(18, .int z9), (19, .int kd), (20, .int (nI y)), (16, .int 1), (17, .int tn), (0, .ref b), (1, .ref a0), (2, .ref (al 0)), (3, .ref (al 1)), (4, .ref (al 2)), (5, .ref (al 3)), (6, .ref (al 4)), (7, .ref (al 5)), (8, .ref (al 6)), (9, .ref (al 7)), (10, .ref (al 8)), (11, .ref (al 9)), (12, .ref (al 10)), (13, .ref (al 11)), (14, .ref (al 12)), (15, .ref (al 13))])
    (kk : ∀ (y : Nat) (H1 : Heap) (locs1 : List Loc) (ls1 : Array Slot) (cc1 ss1 : Nat), cc1 ≤ cc9 + 10 → ss1 ≤ ss9 + 300 → va_S (fun q => s.heap.size ≤ q) s.heap H1 locs1 → LINV G s.heap.size a0 al (N + 1) H1 → lv_has ls1 30 [(16, .int 1), (17, .int tn), (20, .int (nI y)), (0, .ref b), (1, .ref a0), (2, .ref (al 0)), (3, .ref (al 1)), (4, .ref (al 2)), (5, .ref (al 3)), (6, .ref (al 4)), (7, .ref (al 5)), (8, .ref (al 6)), (9, .ref (al 7)), (10, .ref (al 8)), (11, .ref (al 9)), (12, .ref (al 10)), (13, .ref (al 11)), (14, .ref (al 12)), (15, .ref (al 13))] → W p l e room_1 s m #[Value.ref b] below meth c H1 locs1 cc1 ss1 Qw (F0 m 2555 ls1 [])) : W p l e room_1 s m #[Value.ref b] below meth c H locs cc9 ss9 Qw (F0 m 296 ls [.int (nI i)]) := by
  have hx := C.1
  have hb := C.2.1
  have hown := C.2.2.2.1
  have hts := C.2.2.2.2
  obtain ⟨h60, h10⟩ := lr_n60 hR
  refine lv_istore (lv' := [(21, .int (nI i)), (18, .int z9), (19, .int kd), (20, .int (nI y)), (16, .int 1), (17, .int tn), (0, .ref b), (1, .ref a0), (2, .ref (al 0)), (3, .ref (al 1)), (4, .ref (al 2)), (5, .ref (al 3)), (6, .ref (al 4)), (7, .ref (al 5)), (8, .ref (al 6)), (9, .ref (al 7)), (10, .ref (al 8)), (11, .ref (al 9)), (12, .ref (al 10)), (13, .ref (al 11)), (14, .ref (al 12)), (15, .ref (al 13))]) hx hb dL_law_296 hl (by decide) rfl (fun ls hl => ?_)
  refine lv_iload hx hb dL_law_298 (lv_at hl 3 rfl) ?_
  refine lv_iconst (v := 5) hx hb dL_law_300 (by decide) ?_
  refine lv_idiv hx hb dL_law_301 (by decide) ?_
  refine lv_iconst (v := 2) hx hb dL_law_302 (by decide) ?_
  refine lv_irem hx hb dL_law_303 (by decide) ?_
  refine lv_if_ne (tgt := 318) hx hb dL_law_304 (by decide) (fun c_304_1 => ?_) (fun c_304_1 => ?_)
  · refine lv_iload hx hb dL_law_318 (lv_at hl 3 rfl) ?_
    refine lv_bipush (v := 10) hx hb dL_law_320 (by decide) ?_
    refine lv_idiv hx hb dL_law_322 (by decide) ?_
    refine lv_iconst (v := 2) hx hb dL_law_323 (by decide) ?_
    refine lv_irem hx hb dL_law_324 (by decide) ?_
    refine W.eq (g2 := F0 m 325 ls [.int (nI (y / 10 % 2))]) (congrArg (fun z => F0 m 325 ls [.int z]) (yq hy (a := 10) (b := 2) (by decide) (by decide) (by decide) (by decide))) ?_
    exact LP_325 l hl9 C hE hN hcc hss hN9 hS hC hP hR ht0 hy hiT hi0 (Nat.lt_of_lt_of_le (Nat.mod_lt _ (by decide)) (by decide)) (lv_sub hl [1, 2, 3, 0, 4, 5, 6, 7, 8, 9, 10, 11, 12, 13, 14, 15, 16, 17, 18, 19, 20, 21] rfl) kk
  · refine lv_iload hx hb dL_law_307 (lv_at hl 3 rfl) ?_
    refine lv_bipush (v := 10) hx hb dL_law_309 (by decide) ?_
    refine lv_idiv hx hb dL_law_311 (by decide) ?_
    refine lv_bipush (v := 12) hx hb dL_law_312 (by decide) ?_
    refine lv_irem hx hb dL_law_314 (by decide) ?_
    refine W.eq (g2 := F0 m 315 ls [.int (nI (y / 10 % 12))]) (congrArg (fun z => F0 m 315 ls [.int z]) (yq hy (a := 10) (b := 12) (by decide) (by decide) (by decide) (by decide))) ?_
    refine lv_goto (tgt := 325) hx hb dL_law_315 (by decide) ?_
    exact LP_325 l hl9 C hE hN hcc hss hN9 hS hC hP hR ht0 hy hiT hi0 (Nat.mod_lt _ (by decide)) (lv_sub hl [1, 2, 3, 0, 4, 5, 6, 7, 8, 9, 10, 11, 12, 13, 14, 15, 16, 17, 18, 19, 20, 21] rfl) kk
set_option maxHeartbeats 4000000 in
set_option maxRecDepth 100000 in
theorem LP_232 (l : Launch) (hl9 : l.stackTraces = false) {p : Program} {e : Env} {s : State} {m : MethodId} {below : List Frame} {meth : Method} {c : Code} {b : Nat} {G : GE} {a0 : Nat} {al : Nat → Nat} (C : CallFix p m c cL_law 30 s #[Value.ref b] gTb RL) (hE : EN (fun q => s.heap.size ≤ q) G s s.heap) (hN : NCX s) {N cc9 ss9 : Nat} {Qw : State → Prop} {H : Heap} {locs : List Loc} {ls : Array Slot} (hcc : cc9 ≤ 700000) (hss : ss9 ≤ 6900000) (hN9 : N ≤ 200) {τ μ : SG} {nT nW : Nat} (hS : va_S (fun q => s.heap.size ≤ q) s.heap H locs) (hC : CST G (AxL s.heap.size al) a0 τ nT nW N H) (hP : PL G (fun q => s.heap.size ≤ q) al μ 14 H) (hR : LR μ τ nT nW) (ht0 : thr τ 0 = τ) {kd tn : Int32} {z1 : Nat} (hz : z1 < 2147483648) (hl : lv_has ls 30 [(18, .int (nI z1)), (16, .int 1), (17, .int tn), (0, .ref b), (1, .ref a0), (2, .ref (al 0)), (3, .ref (al 1)), (4, .ref (al 2)), (5, .ref (al 3)), (6, .ref (al 4)), (7, .ref (al 5)), (8, .ref (al 6)), (9, .ref (al 7)), (10, .ref (al 8)), (11, .ref (al 9)), (12, .ref (al 10)), (13, .ref (al 11)), (14, .ref (al 12)), (15, .ref (al 13))])
    (kk : ∀ (y : Nat) (H1 : Heap) (locs1 : List Loc) (ls1 : Array Slot) (cc1 ss1 : Nat), cc1 ≤ cc9 + 10 → ss1 ≤ ss9 + 300 → va_S (fun q => s.heap.size ≤ q) s.heap H1 locs1 → LINV G s.heap.size a0 al (N + 1) H1 → lv_has ls1 30 [(16, .int 1), (17, .int tn), (20, .int (nI y)), (0, .ref b), (1, .ref a0), (2, .ref (al 0)), (3, .ref (al 1)), (4, .ref (al 2)), (5, .ref (al 3)), (6, .ref (al 4)), (7, .ref (al 5)), (8, .ref (al 6)), (9, .ref (al 7)), (10, .ref (al 8)), (11, .ref (al 9)), (12, .ref (al 10)), (13, .ref (al 11)), (14, .ref (al 12)), (15, .ref (al 13))] → W p l e room_1 s m #[Value.ref b] below meth c H1 locs1 cc1 ss1 Qw (F0 m 2555 ls1 [])) : W p l e room_1 s m #[Value.ref b] below meth c H locs cc9 ss9 Qw (F0 m 232 ls [.int kd]) := by
  have hx := C.1
  have hb := C.2.1
  have hown := C.2.2.2.1
  have hts := C.2.2.2.2
  obtain ⟨h60, h10⟩ := lr_n60 hR
  have hy : z1 / 32 < 67108864 := by omega
  refine lv_istore (lv' := [(19, .int kd), (18, .int (nI z1)), (16, .int 1), (17, .int tn), (0, .ref b), (1, .ref a0), (2, .ref (al 0)), (3, .ref (al 1)), (4, .ref (al 2)), (5, .ref (al 3)), (6, .ref (al 4)), (7, .ref (al 5)), (8, .ref (al 6)), (9, .ref (al 7)), (10, .ref (al 8)), (11, .ref (al 9)), (12, .ref (al 10)), (13, .ref (al 11)), (14, .ref (al 12)), (15, .ref (al 13))]) hx hb dL_law_232 hl (by decide) rfl (fun ls hl => ?_)
  refine lv_iload hx hb dL_law_234 (lv_at hl 1 rfl) ?_
  refine lv_bipush (v := 32) hx hb dL_law_236 (by decide) ?_
  refine lv_idiv hx hb dL_law_238 (by decide) ?_
  refine W.eq (g2 := F0 m 239 ls [.int (nI (z1 / 32))]) (congrArg (fun z => F0 m 239 ls [.int z]) (pk_div (d := 32) (by omega) (by decide) (by decide))) ?_
  refine lv_istore (lv' := [(20, .int (nI (z1 / 32))), (19, .int kd), (18, .int (nI z1)), (16, .int 1), (17, .int tn), (0, .ref b), (1, .ref a0), (2, .ref (al 0)), (3, .ref (al 1)), (4, .ref (al 2)), (5, .ref (al 3)), (6, .ref (al 4)), (7, .ref (al 5)), (8, .ref (al 6)), (9, .ref (al 7)), (10, .ref (al 8)), (11, .ref (al 9)), (12, .ref (al 10)), (13, .ref (al 11)), (14, .ref (al 12)), (15, .ref (al 13))]) hx hb dL_law_239 hl (by decide) rfl (fun ls hl => ?_)
  refine lv_aload_n hx hb dL_law_241 rfl (lv_at hl 7 rfl) ?_
  refine lv_iconst (v := 0) hx hb dL_law_242 (by decide) ?_
  refine xiald hx hb hE.1.1 (hP.arr 0 (by decide)) 0 rfl (k := 0) rfl (show _ < 7 by omega) (by decide) dL_law_243 ?_
  refine W.eq (g2 := F0 m 244 ls [.int (nI nT)]) (congrArg (fun z => F0 m 244 ls [.int z]) (lr_n0 hR)) ?_
  refine lv_if_ne (tgt := 251) hx hb dL_law_244 (by decide) (fun c_244_1 => ?_) (fun c_244_1 => ?_)
  · have hn0 : nT ≠ 0 := fun z => c_244_1 (by rw [z]; rfl)
    refine lv_iload hx hb dL_law_251 (lv_at hl 0 rfl) ?_
    refine lv_iconst (v := 3) hx hb dL_law_253 (by decide) ?_
    refine lv_irem hx hb dL_law_254 (by decide) ?_
    refine lv_if_ne (tgt := 269) hx hb dL_law_255 (by decide) (fun c_255_2 => ?_) (fun c_255_2 => ?_)
    · refine lv_aload_n hx hb dL_law_269 rfl (lv_at hl 7 rfl) ?_
      refine lv_iconst (v := 0) hx hb dL_law_270 (by decide) ?_
      refine xiald hx hb hE.1.1 (hP.arr 0 (by decide)) 0 rfl (k := 0) rfl (show _ < 7 by omega) (by decide) dL_law_271 ?_
      refine W.eq (g2 := F0 m 272 ls [.int (nI nT)]) (congrArg (fun z => F0 m 272 ls [.int z]) (lr_n0 hR)) ?_
      refine lv_iconst (v := 1) hx hb dL_law_272 (by decide) ?_
      refine lv_isub hx hb dL_law_273 ?_
      refine W.eq (g2 := F0 m 274 ls [.int (nI (nT - 1))]) (congrArg (fun z => F0 m 274 ls [.int z]) (pk_sub (b := 1) (by omega))) ?_
      refine lv_iload hx hb dL_law_274 (lv_at hl 0 rfl) ?_
      refine lv_iconst (v := 3) hx hb dL_law_276 (by decide) ?_
      refine lv_idiv hx hb dL_law_277 (by decide) ?_
      refine W.eq (g2 := F0 m 278 ls [.int (nI (z1 / 32 / 3)), .int (nI (nT - 1))]) (congrArg (fun z => F0 m 278 ls [.int z, .int (nI (nT - 1))]) (pk_div (d := 3) (by omega) (by decide) (by decide))) ?_
      refine lv_aload_n hx hb dL_law_278 rfl (lv_at hl 7 rfl) ?_
      refine lv_iconst (v := 0) hx hb dL_law_279 (by decide) ?_
      refine xiald hx hb hE.1.1 (hP.arr 0 (by decide)) 0 rfl (k := 0) rfl (show _ < 7 by omega) (by decide) dL_law_280 ?_
      refine W.eq (g2 := F0 m 281 ls [.int (nI nT), .int (nI (z1 / 32 / 3)), .int (nI (nT - 1))]) (congrArg (fun z => F0 m 281 ls [.int z, .int (nI (z1 / 32 / 3)), .int (nI (nT - 1))]) (lr_n0 hR)) ?_
      refine lv_bipush (v := 8) hx hb dL_law_281 (by decide) ?_
      refine lv_icmp_ge (tgt := 292) hx hb dL_law_283 (by decide) (fun c_283_3 => ?_) (fun c_283_3 => ?_)
      · have hn8 : 8 ≤ nT := (nI_leI (a := 8) (by decide) (by omega)).mp c_283_3
        refine lv_bipush (v := 8) hx hb dL_law_292 (by decide) ?_
        refine lv_irem hx hb dL_law_294 (by decide) ?_
        refine W.eq (g2 := F0 m 295 ls [.int (nI (z1 / 32 / 3 % 8)), .int (nI (nT - 1))]) (congrArg (fun z => F0 m 295 ls [.int z, .int (nI (nT - 1))]) (pk_rem (d := 8) (by omega) (by omega) (by omega))) ?_
        refine lv_isub hx hb dL_law_295 ?_
        have hq9 : (z1 / 32 / 3 % 8) ≤ nT - 1 := by have := Nat.mod_lt (z1 / 32 / 3) (show 0 < 8 by omega); omega
        refine W.eq (g2 := F0 m 296 ls [.int (nI (nT - 1 - (z1 / 32 / 3 % 8)))]) (congrArg (fun z => F0 m 296 ls [.int z]) (pk_sub hq9)) ?_
        exact LP_296 l hl9 C hE hN hcc hss hN9 hS hC hP hR ht0 hy (fun _ => by omega) (fun z => absurd z hn0) (lv_sub hl [2, 1, 0, 3, 4, 5, 6, 7, 8, 9, 10, 11, 12, 13, 14, 15, 16, 17, 18, 19, 20] rfl) kk
      · refine lv_aload_n hx hb dL_law_286 rfl (lv_at hl 7 rfl) ?_
        refine lv_iconst (v := 0) hx hb dL_law_287 (by decide) ?_
        refine xiald hx hb hE.1.1 (hP.arr 0 (by decide)) 0 rfl (k := 0) rfl (show _ < 7 by omega) (by decide) dL_law_288 ?_
        refine W.eq (g2 := F0 m 289 ls [.int (nI nT), .int (nI (z1 / 32 / 3)), .int (nI (nT - 1))]) (congrArg (fun z => F0 m 289 ls [.int z, .int (nI (z1 / 32 / 3)), .int (nI (nT - 1))]) (lr_n0 hR)) ?_
        refine lv_goto (tgt := 294) hx hb dL_law_289 (by decide) ?_
        refine lv_irem hx hb dL_law_294 (nI_ne0 (by omega) (by omega)) ?_
        refine W.eq (g2 := F0 m 295 ls [.int (nI (z1 / 32 / 3 % nT)), .int (nI (nT - 1))]) (congrArg (fun z => F0 m 295 ls [.int z, .int (nI (nT - 1))]) (pk_rem (d := nT) (by omega) (by omega) (by omega))) ?_
        refine lv_isub hx hb dL_law_295 ?_
        have hq9 : (z1 / 32 / 3 % nT) ≤ nT - 1 := by have := Nat.mod_lt (z1 / 32 / 3) (show 0 < nT by omega); omega
        refine W.eq (g2 := F0 m 296 ls [.int (nI (nT - 1 - (z1 / 32 / 3 % nT)))]) (congrArg (fun z => F0 m 296 ls [.int z]) (pk_sub hq9)) ?_
        exact LP_296 l hl9 C hE hN hcc hss hN9 hS hC hP hR ht0 hy (fun _ => by omega) (fun z => absurd z hn0) (lv_sub hl [2, 1, 0, 3, 4, 5, 6, 7, 8, 9, 10, 11, 12, 13, 14, 15, 16, 17, 18, 19, 20] rfl) kk
    · refine lv_iload hx hb dL_law_258 (lv_at hl 0 rfl) ?_
      refine lv_iconst (v := 3) hx hb dL_law_260 (by decide) ?_
      refine lv_idiv hx hb dL_law_261 (by decide) ?_
      refine W.eq (g2 := F0 m 262 ls [.int (nI (z1 / 32 / 3))]) (congrArg (fun z => F0 m 262 ls [.int z]) (pk_div (d := 3) (by omega) (by decide) (by decide))) ?_
      refine lv_aload_n hx hb dL_law_262 rfl (lv_at hl 7 rfl) ?_
      refine lv_iconst (v := 0) hx hb dL_law_263 (by decide) ?_
      refine xiald hx hb hE.1.1 (hP.arr 0 (by decide)) 0 rfl (k := 0) rfl (show _ < 7 by omega) (by decide) dL_law_264 ?_
      refine W.eq (g2 := F0 m 265 ls [.int (nI nT), .int (nI (z1 / 32 / 3))]) (congrArg (fun z => F0 m 265 ls [.int z, .int (nI (z1 / 32 / 3))]) (lr_n0 hR)) ?_
      refine lv_irem hx hb dL_law_265 (nI_ne0 (by omega) (by omega)) ?_
      refine W.eq (g2 := F0 m 266 ls [.int (nI (z1 / 32 / 3 % nT))]) (congrArg (fun z => F0 m 266 ls [.int z]) (pk_rem (d := nT) (by omega) (by omega) (by omega))) ?_
      refine lv_goto (tgt := 296) hx hb dL_law_266 (by decide) ?_
      exact LP_296 l hl9 C hE hN hcc hss hN9 hS hC hP hR ht0 hy (fun _ => Nat.mod_lt _ (by omega)) (fun z => absurd z hn0) (lv_sub hl [2, 1, 0, 3, 4, 5, 6, 7, 8, 9, 10, 11, 12, 13, 14, 15, 16, 17, 18, 19, 20] rfl) kk
  · have hn0 : nT = 0 := nIe (b := 0) (by omega) (by decide) c_244_1
    refine lv_iconst (v := 0) hx hb dL_law_247 (by decide) ?_
    refine lv_goto (tgt := 296) hx hb dL_law_248 (by decide) ?_
    exact LP_296 l hl9 C hE hN hcc hss hN9 hS hC hP hR ht0 (i := 0) hy (fun z => absurd hn0 z) (fun _ => rfl) (lv_sub hl [2, 1, 0, 3, 4, 5, 6, 7, 8, 9, 10, 11, 12, 13, 14, 15, 16, 17, 18, 19, 20] rfl) kk
set_option maxHeartbeats 4000000 in
set_option maxRecDepth 100000 in
theorem LP_214 (l : Launch) (hl9 : l.stackTraces = false) {p : Program} {e : Env} {s : State} {m : MethodId} {below : List Frame} {meth : Method} {c : Code} {b : Nat} {G : GE} {a0 : Nat} {al : Nat → Nat} (C : CallFix p m c cL_law 30 s #[Value.ref b] gTb RL) (hE : EN (fun q => s.heap.size ≤ q) G s s.heap) (hN : NCX s) {N cc9 ss9 : Nat} {Qw : State → Prop} {H : Heap} {locs : List Loc} {ls : Array Slot} (hcc : cc9 ≤ 700000) (hss : ss9 ≤ 6900000) (hN9 : N ≤ 200) {τ μ : SG} {nT nW : Nat} (hS : va_S (fun q => s.heap.size ≤ q) s.heap H locs) (hC : CST G (AxL s.heap.size al) a0 τ nT nW N H) (hP : PL G (fun q => s.heap.size ≤ q) al μ 14 H) (hR : LR μ τ nT nW) (ht0 : thr τ 0 = τ) {tn : Int32} {z1 : Nat} (hz : z1 < 2147483648) (hl : lv_has ls 30 [(16, .int 1), (17, .int tn), (0, .ref b), (1, .ref a0), (2, .ref (al 0)), (3, .ref (al 1)), (4, .ref (al 2)), (5, .ref (al 3)), (6, .ref (al 4)), (7, .ref (al 5)), (8, .ref (al 6)), (9, .ref (al 7)), (10, .ref (al 8)), (11, .ref (al 9)), (12, .ref (al 10)), (13, .ref (al 11)), (14, .ref (al 12)), (15, .ref (al 13))])
    (kk : ∀ (y : Nat) (H1 : Heap) (locs1 : List Loc) (ls1 : Array Slot) (cc1 ss1 : Nat), cc1 ≤ cc9 + 10 → ss1 ≤ ss9 + 300 → va_S (fun q => s.heap.size ≤ q) s.heap H1 locs1 → LINV G s.heap.size a0 al (N + 1) H1 → lv_has ls1 30 [(16, .int 1), (17, .int tn), (20, .int (nI y)), (0, .ref b), (1, .ref a0), (2, .ref (al 0)), (3, .ref (al 1)), (4, .ref (al 2)), (5, .ref (al 3)), (6, .ref (al 4)), (7, .ref (al 5)), (8, .ref (al 6)), (9, .ref (al 7)), (10, .ref (al 8)), (11, .ref (al 9)), (12, .ref (al 10)), (13, .ref (al 11)), (14, .ref (al 12)), (15, .ref (al 13))] → W p l e room_1 s m #[Value.ref b] below meth c H1 locs1 cc1 ss1 Qw (F0 m 2555 ls1 [])) : W p l e room_1 s m #[Value.ref b] below meth c H locs cc9 ss9 Qw (F0 m 214 ls [.int (nI z1)]) := by
  have hx := C.1
  have hb := C.2.1
  have hown := C.2.2.2.1
  have hts := C.2.2.2.2
  obtain ⟨h60, h10⟩ := lr_n60 hR
  refine lv_istore (lv' := [(18, .int (nI z1)), (16, .int 1), (17, .int tn), (0, .ref b), (1, .ref a0), (2, .ref (al 0)), (3, .ref (al 1)), (4, .ref (al 2)), (5, .ref (al 3)), (6, .ref (al 4)), (7, .ref (al 5)), (8, .ref (al 6)), (9, .ref (al 7)), (10, .ref (al 8)), (11, .ref (al 9)), (12, .ref (al 10)), (13, .ref (al 11)), (14, .ref (al 12)), (15, .ref (al 13))]) hx hb dL_law_214 hl (by decide) rfl (fun ls hl => ?_)
  refine lv_iload hx hb dL_law_216 (lv_at hl 2 rfl) ?_
  refine lv_iconst (v := 2) hx hb dL_law_218 (by decide) ?_
  refine lv_icmp_ge (tgt := 227) hx hb dL_law_219 (by decide) (fun c_219_1 => ?_) (fun c_219_1 => ?_)
  · refine lv_iload hx hb dL_law_227 (lv_at hl 0 rfl) ?_
    refine lv_bipush (v := 32) hx hb dL_law_229 (by decide) ?_
    refine lv_irem hx hb dL_law_231 (by decide) ?_
    exact LP_232 l hl9 C hE hN hcc hss hN9 hS hC hP hR ht0 hz (lv_sub hl [0, 1, 2, 3, 4, 5, 6, 7, 8, 9, 10, 11, 12, 13, 14, 15, 16, 17, 18] rfl) kk
  · refine lv_bipush (v := 20) hx hb dL_law_222 (by decide) ?_
    refine lv_goto (tgt := 232) hx hb dL_law_224 (by decide) ?_
    exact LP_232 l hl9 C hE hN hcc hss hN9 hS hC hP hR ht0 hz (lv_sub hl [0, 1, 2, 3, 4, 5, 6, 7, 8, 9, 10, 11, 12, 13, 14, 15, 16, 17, 18] rfl) kk
set_option maxHeartbeats 4000000 in
set_option maxRecDepth 100000 in
theorem LP_2555 (l : Launch) (hl9 : l.stackTraces = false) {p : Program} {e : Env} {s : State} {m : MethodId} {below : List Frame} {meth : Method} {c : Code} {b : Nat} {G : GE} {a0 : Nat} {al : Nat → Nat} (C : CallFix p m c cL_law 30 s #[Value.ref b] gTb RL) (hE : EN (fun q => s.heap.size ≤ q) G s s.heap) (hN : NCX s) {N cc9 ss9 : Nat} {Qw : State → Prop} {H : Heap} {locs : List Loc} {ls : Array Slot} (hcc : cc9 ≤ 700000) (hss : ss9 ≤ 6900000) (hN9 : N ≤ 200) {τ μ : SG} {nT nW : Nat} (hS : va_S (fun q => s.heap.size ≤ q) s.heap H locs) (hC : CST G (AxL s.heap.size al) a0 τ nT nW N H) (hP : PL G (fun q => s.heap.size ≤ q) al μ 14 H) (hR : LR μ τ nT nW) (ht0 : thr τ 0 = τ) {y i : Nat} (hl : lv_has ls 30 [(16, .int 1), (17, .int (nI i)), (20, .int (nI y)), (0, .ref b), (1, .ref a0), (2, .ref (al 0)), (3, .ref (al 1)), (4, .ref (al 2)), (5, .ref (al 3)), (6, .ref (al 4)), (7, .ref (al 5)), (8, .ref (al 6)), (9, .ref (al 7)), (10, .ref (al 8)), (11, .ref (al 9)), (12, .ref (al 10)), (13, .ref (al 11)), (14, .ref (al 12)), (15, .ref (al 13))])
    (kq : ∀ (H1 : Heap) (locs1 : List Loc) (ls1 : Array Slot) (cc1 ss1 : Nat), cc1 ≤ cc9 + 1000 → ss1 ≤ ss9 + 12000 → va_S (fun q => s.heap.size ≤ q) s.heap H1 locs1 → LINV G s.heap.size a0 al N H1 → lv_has ls1 30 [(16, .int 1), (17, .int (nI (i + 1))), (0, .ref b), (1, .ref a0), (2, .ref (al 0)), (3, .ref (al 1)), (4, .ref (al 2)), (5, .ref (al 3)), (6, .ref (al 4)), (7, .ref (al 5)), (8, .ref (al 6)), (9, .ref (al 7)), (10, .ref (al 8)), (11, .ref (al 9)), (12, .ref (al 10)), (13, .ref (al 11)), (14, .ref (al 12)), (15, .ref (al 13))] → W p l e room_1 s m #[Value.ref b] below meth c H1 locs1 cc1 ss1 Qw (F0 m 163 ls1 [])) : W p l e room_1 s m #[Value.ref b] below meth c H locs cc9 ss9 Qw (F0 m 2555 ls []) := by
  have hx := C.1
  have hb := C.2.1
  have hown := C.2.2.2.1
  have hts := C.2.2.2.2
  obtain ⟨h60, h10⟩ := lr_n60 hR
  refine lv_iload hx hb dL_law_2555 (lv_at hl 0 rfl) ?_
  refine lv_if_eq (tgt := 2600) hx hb dL_law_2557 (by decide) (fun c_2557_1 => ?_) (fun c_2557_1 => ?_)
  · exact absurd c_2557_1 (by decide)
  · refine lv_iload hx hb dL_law_2560 (lv_at hl 1 rfl) ?_
    refine lv_iconst (v := 4) hx hb dL_law_2562 (by decide) ?_
    refine lv_irem hx hb dL_law_2563 (by decide) ?_
    refine lv_iconst (v := 3) hx hb dL_law_2564 (by decide) ?_
    refine lv_icmp_lt (tgt := 2596) hx hb dL_law_2565 (by decide) (fun c_2565_2 => ?_) (fun c_2565_2 => ?_)
    · refine lv_iconst (v := 1) hx hb dL_law_2596 (by decide) ?_
      refine lv_goto (tgt := 2601) hx hb dL_law_2597 (by decide) ?_
      refine lv_istore (lv' := [(16, .int 1), (17, .int (nI i)), (20, .int (nI y)), (0, .ref b), (1, .ref a0), (2, .ref (al 0)), (3, .ref (al 1)), (4, .ref (al 2)), (5, .ref (al 3)), (6, .ref (al 4)), (7, .ref (al 5)), (8, .ref (al 6)), (9, .ref (al 7)), (10, .ref (al 8)), (11, .ref (al 9)), (12, .ref (al 10)), (13, .ref (al 11)), (14, .ref (al 12)), (15, .ref (al 13))]) hx hb dL_law_2601 hl (by decide) rfl (fun ls hl => ?_)
      refine lv_iinc (v := (nI (i + 1))) (lv' := [(17, .int (nI (i + 1))), (16, .int 1), (20, .int (nI y)), (0, .ref b), (1, .ref a0), (2, .ref (al 0)), (3, .ref (al 1)), (4, .ref (al 2)), (5, .ref (al 3)), (6, .ref (al 4)), (7, .ref (al 5)), (8, .ref (al 6)), (9, .ref (al 7)), (10, .ref (al 8)), (11, .ref (al 9)), (12, .ref (al 10)), (13, .ref (al 11)), (14, .ref (al 12)), (15, .ref (al 13))]) hx hb dL_law_2603 hl (k := 1) rfl (nI_1 _) (by decide) rfl (fun ls hl => ?_)
      refine lv_goto (tgt := 163) hx hb dL_law_2606 (by decide) ?_
      exact kq _ _ _ _ _ (show cc9 ≤ cc9 + 1000 by omega) (show ss9 ≤ ss9 + 12000 by omega) hS ⟨τ, μ, nT, nW, hC, hP, hR, ht0⟩ (lv_sub hl [1, 0, 3, 4, 5, 6, 7, 8, 9, 10, 11, 12, 13, 14, 15, 16, 17, 18] rfl)
    · refine lv_aload_n hx hb dL_law_2568 rfl (lv_at hl 4 rfl) ?_
      refine lv_aload_n hx hb dL_law_2569 rfl (lv_at hl 5 rfl) ?_
      refine lv_aload hx hb dL_law_2570 (lv_at hl 7 rfl) ?_
      refine lv_aload hx hb dL_law_2572 (lv_at hl 8 rfl) ?_
      refine lv_aload hx hb dL_law_2574 (lv_at hl 9 rfl) ?_
      refine lv_aload hx hb dL_law_2576 (lv_at hl 10 rfl) ?_
      refine lv_aload hx hb dL_law_2578 (lv_at hl 11 rfl) ?_
      refine lv_aload hx hb dL_law_2580 (lv_at hl 12 rfl) ?_
      refine lv_aload hx hb dL_law_2582 (lv_at hl 14 rfl) ?_
      refine lv_aload hx hb dL_law_2584 (lv_at hl 17 rfl) ?_
      refine lv_aload hx hb dL_law_2586 (lv_at hl 18 rfl) ?_
      refine lv_iload hx hb dL_law_2588 (lv_at hl 2 rfl) ?_
      refine hcallS (n := 12) C hE (kL_are l G (fun q => H.size ≤ q) (AxL s.heap.size al) (fun q => s.heap.size ≤ q) hl9 a0 al μ τ nT nW N hR (nI y)) wML_L_121 wST_L_areMuseums wIN_L wCO_L_areMuseums (by decide) rfl ⟨Nat.le_of_ble_eq_true rfl, Nat.le_of_ble_eq_true rfl⟩ hS (fun q h => Nat.le_trans hS.1 h) (fun q h => h) ⟨hC, hP⟩ rfl hl.1 (Nat.le_of_ble_eq_true rfl) dL_law_2590 ⟨by show cc9 + 1000 ≤ 709356; omega, by show ss9 + 12000 ≤ 6973399; omega⟩ (fun E ce q9 H1 locs1 hx9 _ _ _ _ _ => hx9.elim) (fun v H1 locs1 hv hk hS => ?_)
      have hP := hP.old hk
      have hC := hC.old hk
      subst hv
      refine lv_if_eq (tgt := 2600) hx hb dL_law_2593 (by decide) (fun c_2593_3 => ?_) (fun c_2593_3 => ?_)
      · exact absurd c_2593_3 (by decide)
      · refine lv_iconst (v := 1) hx hb dL_law_2596 (by decide) ?_
        refine lv_goto (tgt := 2601) hx hb dL_law_2597 (by decide) ?_
        refine lv_istore (lv' := [(16, .int 1), (17, .int (nI i)), (20, .int (nI y)), (0, .ref b), (1, .ref a0), (2, .ref (al 0)), (3, .ref (al 1)), (4, .ref (al 2)), (5, .ref (al 3)), (6, .ref (al 4)), (7, .ref (al 5)), (8, .ref (al 6)), (9, .ref (al 7)), (10, .ref (al 8)), (11, .ref (al 9)), (12, .ref (al 10)), (13, .ref (al 11)), (14, .ref (al 12)), (15, .ref (al 13))]) hx hb dL_law_2601 hl (by decide) rfl (fun ls hl => ?_)
        refine lv_iinc (v := (nI (i + 1))) (lv' := [(17, .int (nI (i + 1))), (16, .int 1), (20, .int (nI y)), (0, .ref b), (1, .ref a0), (2, .ref (al 0)), (3, .ref (al 1)), (4, .ref (al 2)), (5, .ref (al 3)), (6, .ref (al 4)), (7, .ref (al 5)), (8, .ref (al 6)), (9, .ref (al 7)), (10, .ref (al 8)), (11, .ref (al 9)), (12, .ref (al 10)), (13, .ref (al 11)), (14, .ref (al 12)), (15, .ref (al 13))]) hx hb dL_law_2603 hl (k := 1) rfl (nI_1 _) (by decide) rfl (fun ls hl => ?_)
        refine lv_goto (tgt := 163) hx hb dL_law_2606 (by decide) ?_
        exact kq _ _ _ _ _ (show cc9 + 1000 ≤ cc9 + 1000 by omega) (show ss9 + 12000 ≤ ss9 + 12000 by omega) hS ⟨τ, μ, nT, nW, hC, hP, hR, ht0⟩ (lv_sub hl [1, 0, 3, 4, 5, 6, 7, 8, 9, 10, 11, 12, 13, 14, 15, 16, 17, 18] rfl)
set_option maxHeartbeats 4000000 in
set_option maxRecDepth 100000 in
theorem LP_end (l : Launch) (hl9 : l.stackTraces = false) {p : Program} {e : Env} {s : State} {m : MethodId} {below : List Frame} {meth : Method} {c : Code} {b : Nat} {G : GE} {a0 : Nat} {al : Nat → Nat} (C : CallFix p m c cL_law 30 s #[Value.ref b] gTb RL) (hE : EN (fun q => s.heap.size ≤ q) G s s.heap) (hN : NCX s) {N cc9 ss9 : Nat} {Qw : State → Prop} {H : Heap} {locs : List Loc} {ls : Array Slot} (hcc : cc9 ≤ 700000) (hss : ss9 ≤ 6900000) (hN9 : N ≤ 200) {τ μ : SG} {nT nW : Nat} (hS : va_S (fun q => s.heap.size ≤ q) s.heap H locs) (hC : CST G (AxL s.heap.size al) a0 τ nT nW N H) (hP : PL G (fun q => s.heap.size ≤ q) al μ 14 H) (hR : LR μ τ nT nW) (ht0 : thr τ 0 = τ) {tn : Int32} (hr : meth.sig.returnType = ret) (hlocks : meth.locks = false) (hl : lv_has ls 30 [(16, .int 1), (17, .int tn), (0, .ref b), (1, .ref a0), (2, .ref (al 0)), (3, .ref (al 1)), (4, .ref (al 2)), (5, .ref (al 3)), (6, .ref (al 4)), (7, .ref (al 5)), (8, .ref (al 6)), (9, .ref (al 7)), (10, .ref (al 8)), (11, .ref (al 9)), (12, .ref (al 10)), (13, .ref (al 11)), (14, .ref (al 12)), (15, .ref (al 13))])
    (hQw : Qw = lw_Z below #[Value.ref b] s) : W p l e room_1 s m #[Value.ref b] below meth c H locs cc9 ss9 Qw (F0 m 2609 ls []) := by
  subst hQw
  have hx := C.1
  have hb := C.2.1
  have hown := C.2.2.2.1
  have hts := C.2.2.2.2
  obtain ⟨h60, h10⟩ := lr_n60 hR
  refine lv_iload hx hb dL_law_2609 (lv_at hl 0 rfl) ?_
  refine lv_if_eq (tgt := 2645) hx hb dL_law_2611 (by decide) (fun c_2611_1 => ?_) (fun c_2611_1 => ?_)
  · exact absurd c_2611_1 (by decide)
  · refine lv_aload_n hx hb dL_law_2614 rfl (lv_at hl 3 rfl) ?_
    refine lv_aload_n hx hb dL_law_2615 rfl (lv_at hl 4 rfl) ?_
    refine lv_aload hx hb dL_law_2616 (lv_at hl 6 rfl) ?_
    refine lv_aload hx hb dL_law_2618 (lv_at hl 7 rfl) ?_
    refine lv_aload hx hb dL_law_2620 (lv_at hl 8 rfl) ?_
    refine lv_aload hx hb dL_law_2622 (lv_at hl 9 rfl) ?_
    refine lv_aload hx hb dL_law_2624 (lv_at hl 10 rfl) ?_
    refine lv_aload hx hb dL_law_2626 (lv_at hl 11 rfl) ?_
    refine lv_aload hx hb dL_law_2628 (lv_at hl 13 rfl) ?_
    refine lv_aload hx hb dL_law_2630 (lv_at hl 16 rfl) ?_
    refine lv_aload hx hb dL_law_2632 (lv_at hl 17 rfl) ?_
    refine lv_iconst (v := 1) hx hb dL_law_2634 (by decide) ?_
    refine hcallS (n := 12) C hE (kL_are l G (fun q => H.size ≤ q) (AxL s.heap.size al) (fun q => s.heap.size ≤ q) hl9 a0 al μ τ nT nW N hR 1) wML_L_121 wST_L_areMuseums wIN_L wCO_L_areMuseums (by decide) rfl ⟨Nat.le_of_ble_eq_true rfl, Nat.le_of_ble_eq_true rfl⟩ hS (fun q h => Nat.le_trans hS.1 h) (fun q h => h) ⟨hC, hP⟩ rfl hl.1 (Nat.le_of_ble_eq_true rfl) dL_law_2635 ⟨by show cc9 + 1000 ≤ 709356; omega, by show ss9 + 12000 ≤ 6973399; omega⟩ (fun E ce q9 H1 locs1 hx9 _ _ _ _ _ => hx9.elim) (fun v H1 locs1 hv hk hS => ?_)
    have hP := hP.old hk
    have hC := hC.old hk
    subst hv
    refine lv_if_eq (tgt := 2645) hx hb dL_law_2638 (by decide) (fun c_2638_2 => ?_) (fun c_2638_2 => ?_)
    · exact absurd c_2638_2 (by decide)
    · refine lv_iconst (v := 1) hx hb dL_law_2641 (by decide) ?_
      refine lv_goto (tgt := 2646) hx hb dL_law_2642 (by decide) ?_
      refine va_forget (fun q hq => hS.2.2 q hq) ?_
      refine W.widen (k := 709356) (n := 6973399) (by show cc9 + 1000 ≤ 709356; omega) (by show ss9 + 12000 ≤ 6973399; omega) ?_
      exact lw_ret hx hb hr hlocks dL_law_2646
set_option maxHeartbeats 4000000 in
set_option maxRecDepth 100000 in
theorem law_loop (l : Launch) (hl9 : l.stackTraces = false) {p : Program} {e : Env} {s : State} {m : MethodId} {below : List Frame} {meth : Method} {c : Code} {b L : Nat} {xs : Nat → Int32} {G : GE} {a0 : Nat} {al : Nat → Nat} (C : CallFix p m c cL_law 30 s #[Value.ref b] gTb RL) (hE : EN (fun q => s.heap.size ≤ q) G s s.heap) (hN : NCX s) (hX : va_X b L xs s s.heap) (hbl : b < s.heap.size) (hL : L ≤ 260) (hr : meth.sig.returnType = ret) (hlocks : meth.locks = false) :
    ∀ (n i N cc ss : Nat) (H : Heap) (locs : List Loc) (ls : Array Slot), 130 < i + n → i ≤ 130 → cc ≤ 5000 + 1010 * i → ss ≤ 50000 + 12300 * i → N ≤ i → va_S (fun q => s.heap.size ≤ q) s.heap H locs → LINV G s.heap.size a0 al N H → lv_has ls 30 [(16, .int 1), (17, .int (nI i)), (0, .ref b), (1, .ref a0), (2, .ref (al 0)), (3, .ref (al 1)), (4, .ref (al 2)), (5, .ref (al 3)), (6, .ref (al 4)), (7, .ref (al 5)), (8, .ref (al 6)), (9, .ref (al 7)), (10, .ref (al 8)), (11, .ref (al 9)), (12, .ref (al 10)), (13, .ref (al 11)), (14, .ref (al 12)), (15, .ref (al 13))] →
      W p l e room_1 s m #[Value.ref b] below meth c H locs cc ss (lw_Z below #[Value.ref b] s) (F0 m 163 ls []) := by
  intro n
  induction n with
  | zero => intro i N cc ss H locs ls h1 h2; omega
  | succ n ih =>
    intro i N cc ss H locs ls h1 h2 hcc hss hNi hS hV hl
    have hx := C.1
    have hb := C.2.1
    have hown := C.2.2.2.1
    have hts := C.2.2.2.2
    obtain ⟨τ, μ, nT, nW, hC, hP, hR, ht0⟩ := hV
    refine lv_iload hx hb dL_law_163 (lv_at hl 1 rfl) ?_
    refine lv_sipush (v := 130) hx hb dL_law_165 (by decide) ?_
    refine lv_icmp_ge (tgt := 2609) hx hb dL_law_168 (by decide) (fun c_168_1 => ?_) (fun c_168_1 => ?_)
    · exact LP_end l hl9 C hE hN (by omega) (by omega) (by omega) hS hC hP hR ht0 hr hlocks (lv_sub hl [0, 1, 2, 3, 4, 5, 6, 7, 8, 9, 10, 11, 12, 13, 14, 15, 16, 17] rfl) rfl
    · have hi : i < 130 := nI_lt' h2 (by decide) c_168_1
      have next : ∀ (y : Nat) (H1 : Heap) (locs1 : List Loc) (ls1 : Array Slot) (cc1 ss1 : Nat), cc1 ≤ cc + 10 → ss1 ≤ ss + 300 → va_S (fun q => s.heap.size ≤ q) s.heap H1 locs1 → LINV G s.heap.size a0 al (N + 1) H1 → lv_has ls1 30 [(16, .int 1), (17, .int (nI i)), (20, .int (nI y)), (0, .ref b), (1, .ref a0), (2, .ref (al 0)), (3, .ref (al 1)), (4, .ref (al 2)), (5, .ref (al 3)), (6, .ref (al 4)), (7, .ref (al 5)), (8, .ref (al 6)), (9, .ref (al 7)), (10, .ref (al 8)), (11, .ref (al 9)), (12, .ref (al 10)), (13, .ref (al 11)), (14, .ref (al 12)), (15, .ref (al 13))] → W p l e room_1 s m #[Value.ref b] below meth c H1 locs1 cc1 ss1 (lw_Z below #[Value.ref b] s) (F0 m 2555 ls1 []) := by
        intro y H1 locs1 ls1 cc1 ss1 g1 g2 hS hV hl
        obtain ⟨τ, μ, nT, nW, hC, hP, hR, ht0⟩ := hV
        refine LP_2555 l hl9 C hE hN (by omega) (by omega) (by omega) hS hC hP hR ht0 hl ?_
        intro H2 locs2 ls2 cc2 ss2 k1 k2 hS hV hl
        exact ih (i + 1) (N + 1) _ _ _ _ _ (by omega) (by omega) (by omega) (by omega) (by omega) hS hV hl
      refine lv_iload hx hb dL_law_171 (lv_at hl 0 rfl) ?_
      refine lv_if_eq (tgt := 2609) hx hb dL_law_173 (by decide) (fun c_173_2 => ?_) (fun c_173_2 => ?_)
      · exact absurd c_173_2 (by decide)
      · refine lv_iload hx hb dL_law_176 (lv_at hl 1 rfl) ?_
        refine lv_aload_n hx hb dL_law_178 rfl (lv_at hl 2 rfl) ?_
        refine va_slen hx hb hX hbl (Nat.not_le.mpr hbl) hS dL_law_179 ?_
        refine lv_icmp_ge (tgt := 193) hx hb dL_law_180 (by decide) (fun c_180_3 => ?_) (fun c_180_3 => ?_)
        · refine lv_ldc (v := 46021) hx hb hown (hts _ wCN_L_126) dL_law_193 ?_
          refine lv_iload hx hb dL_law_195 (lv_at hl 1 rfl) ?_
          refine lv_imul hx hb dL_law_197 ?_
          refine lv_iload hx hb dL_law_198 (lv_at hl 1 rfl) ?_
          refine lv_imul hx hb dL_law_200 ?_
          refine lv_sipush (v := 8017) hx hb dL_law_201 (by decide) ?_
          refine lv_iload hx hb dL_law_204 (lv_at hl 1 rfl) ?_
          refine lv_imul hx hb dL_law_206 ?_
          refine lv_iadd hx hb dL_law_207 ?_
          refine lv_bipush (v := 19) hx hb dL_law_208 (by decide) ?_
          refine lv_iadd hx hb dL_law_210 ?_
          refine lv_ldc (v := 2147483647) hx hb hown (hts _ wCN_L_125) dL_law_211 ?_
          refine lv_iand hx hb dL_law_213 ?_
          obtain ⟨z1, hz1, ez1⟩ := pk_andE (((((46021 * (nI i)) * (nI i)) + (8017 * (nI i))) + 19)) (m := 2147483647) 31 (by decide +kernel)
          refine W.eq (g2 := F0 m 214 ls [.int (nI z1)]) (congrArg (fun z => F0 m 214 ls [.int z]) (ez1)) ?_
          exact LP_214 l hl9 C hE hN (by omega) (by omega) (by omega) hS hC hP hR ht0 hz1 (lv_sub hl [0, 1, 2, 3, 4, 5, 6, 7, 8, 9, 10, 11, 12, 13, 14, 15, 16, 17] rfl) next
        · have hiL : i < L := by
            have h3 : ¬ nI L ≤ nI i := c_180_3
            exact nlt2 (by omega) h3
          refine lv_aload_n hx hb dL_law_183 rfl (lv_at hl 2 rfl) ?_
          refine lv_iload hx hb dL_law_184 (lv_at hl 1 rfl) ?_
          refine va_sld hx hb hX hbl (Nat.not_le.mpr hbl) hS (vp_in_nI (show i < L by omega) (by omega)) dL_law_186 ?_
          rw [nI_clamp (show i < 2 ^ 31 by omega)]
          refine lv_ldc (v := 2147483647) hx hb hown (hts _ wCN_L_125) dL_law_187 ?_
          refine lv_iand hx hb dL_law_189 ?_
          refine lv_goto (tgt := 214) hx hb dL_law_190 (by decide) ?_
          obtain ⟨z1, hz1, ez1⟩ := pk_andE ((xs i)) (m := 2147483647) 31 (by decide +kernel)
          refine W.eq (g2 := F0 m 214 ls [.int (nI z1)]) (congrArg (fun z => F0 m 214 ls [.int z]) (ez1)) ?_
          exact LP_214 l hl9 C hE hN (by omega) (by omega) (by omega) hS hC hP hR ht0 hz1 (lv_sub hl [0, 1, 2, 3, 4, 5, 6, 7, 8, 9, 10, 11, 12, 13, 14, 15, 16, 17] rfl) next
