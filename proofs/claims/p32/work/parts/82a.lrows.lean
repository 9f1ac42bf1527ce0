theorem wML_L_41 : Cond.methodLink RL 41 yX5_admit ∈ gTb := gm (List.mem_of_getElem? (i := 597) (by decide +kernel)) rfl
theorem wIM_X5_admit : Cond.instanceMethod yX5_admit ∈ gTb := gm (List.mem_of_getElem? (i := 598) (by decide +kernel)) rfl
theorem wSE_X5_X5_admit : Cond.selects RX5 yX5_admit yX5_admit ∈ gTb := gm (List.mem_of_getElem? (i := 599) (by decide +kernel)) rfl
theorem wCO_X5_admit : Cond.code yX5_admit cX5_admit 5 (Option.some Jvm.ClassFile.FieldType.int) ∈ gTb := gm (List.mem_of_getElem? (i := 600) (by decide +kernel)) rfl
theorem wCW_L_does : Cond.codeWith yL_does cL_does 6 (Option.some Jvm.ClassFile.FieldType.int) [(0, 148, 149, 72), (0, 148, 154, 74), (0, 148, 159, 76)] ∈ gTb := gm (List.mem_of_getElem? (i := 481) (by decide +kernel)) rfl
/-! THE LAW'S LEVEL: methods with handlers, calls from the law -/
def nwNot : List (String × String) := [(xIA, xIO), (xIS, xIO), (xIS, xIA)]
def NCX (U : State) : Prop := ∀ q ∈ nwNot, va_Nc q.1 q.2 U
theorem NCX.warm {s U : State} (hW : s.WarmedH U.vm) (h : NCX s) : NCX U := fun q hq => (h q hq).moved hW.alike
def KPN (av : List Value) (A : Nat → Prop) (G : GE) (P : Heap → Prop) : Array Value → State → Prop := va_Pc av (fun U => (EN A G U U.heap ∧ NCX U) ∧ (∀ q, U.heap.size ≤ q → A q) ∧ P U.heap)
theorem KPN.blind {av : List Value} {A : Nat → Prop} {G : GE} {P : Heap → Prop} : FrameBlind (KPN av A G P) := by
  intro a U g mk h
  obtain ⟨h1, ⟨h2, h5⟩, h3, h4⟩ := h
  exact ⟨h1, ⟨EN.warm (s := U) (U := U.calling g mk a) (State.WarmedH.refl U) h2, NCX.warm (s := U) (U := U.calling g mk a) (State.WarmedH.refl U) h5⟩, h3, h4⟩
/-- the contract of a method with handlers that returns -/
def HM (l : Launch) (G : GE) (A : Nat → Prop) (y : MethodName) (cc : ByteArray) (n : Nat) (ret : Option FieldType) (hh : List (Nat × Nat × Nat × Nat)) (rm : Room) (av : List Value) (P : Heap → Prop) (Q : Option Value → Heap → Prop) : Prop :=
  vx_Met l y (.codeWith y cc n ret hh :: gTb) rm (KPN av A G P) (KQc A Q) (KXc A (fun _ _ => False)) rm.cells rm.slots A
def HX (l : Launch) (p : Program) (m : MethodId) (meth : Method) (c : Code) (cc : ByteArray) (n : Nat) (ret : Option FieldType) (s : State) (args : Array Value) (y : MethodName) (A : Nat → Prop) (G : GE) (hh : List (Nat × Nat × Nat × Nat)) : Prop :=
  CallFix p m c cc n s args gTb y.cls ∧ meth.sig.returnType = ret ∧ meth.locks = false ∧ c.exceptionTable.toList = tableOf hh ∧ EN A G s s.heap ∧ NCX s ∧ (∀ q, s.heap.size ≤ q → A q)
theorem HM.of {l : Launch} {G : GE} {A : Nat → Prop} {y : MethodName} {cc : ByteArray} {n : Nat} {ret : Option FieldType} {hh : List (Nat × Nat × Nat × Nat)} {rm : Room} {av : List Value} {P : Heap → Prop} {Q : Option Value → Heap → Prop} (hy : plainName y.cls = true) (hn : (lg_sl av).length ≤ n)
    (body : ∀ (p : Program) (e : Env) (s : State) (m : MethodId) (args : Array Value) (below : List Frame) (meth : Method) (c : Code), HX l p m meth c cc n ret s args y A G hh → P s.heap → ∀ ls : Array Slot, lv_has ls n (lv_args 0 av) →
      W p l e rm s m args below meth c s.heap [] 0 0 (KE below A Q (fun _ _ => False) args s rm) (F0 m 0 ls [])) : HM l G A y cc n ret hh rm av P Q := by
  refine vx_ofWH (cc := cc) (maxL := n) (ret := ret) (hh := hh) hy rfl ?_
  intro p e s m args below meth c s₁ B hml hv
  obtain ⟨rfl, ⟨hE, hN⟩, hA, hP⟩ := hv
  have hts := atoms_spec (ws := .codeWith y cc n ret hh :: gTb) B.pre
  have hown : s.vm.findClass y.cls = some m.cls := findClass_of_methodNamed B.named
  have htab := vx_table (x := y) B (hts _ List.mem_cons_self)
  have hl := lv_entry av hn
  rw [lg_entry_eq]
  exact body p e s m _ below meth c ⟨⟨B.exec, B.bytes, hml, hown, fun w hw => hts w (List.mem_cons_of_mem _ hw)⟩, B.returns, B.notSynchronized, htab, hE, hN, hA⟩ hP _ hl
section HCALLS
variable {p : Program} {l : Launch} {e : Env} {R : Room} {s : State} {m : MethodId} {args : Array Value} {below : List Frame} {meth : Method} {c : Code} {H : Heap} {locs : List Loc} {cells slots : Nat} {Qw : State → Prop}
variable {pc : Nat} {ls : Array Slot} {rest st0 : List Value} {a : Array Value} {A A1 : Nat → Prop} {Q : Option Value → Heap → Prop} {X : String → Heap → Prop} {rm : Room} {G : GE} {P : Heap → Prop}
variable {y : MethodName} {bytes cc : ByteArray} {maxL nL n index : Nat} {ret : Option FieldType} {own : String} {b : Addr} {As : List Value}
theorem hcallV (C : CallFix p m c cc nL s args gTb own) (hE : EN A G s s.heap) (hM : KM l G A1 y bytes maxL ret rm (.ref b :: As) P Q X)
    (w1 : Cond.methodLink own index y ∈ gTb) (w2 : Cond.instanceMethod y ∈ gTb) (w3 : Cond.selects y.cls y y ∈ gTb) (w4 : Cond.initialized y.cls ∈ gTb) (w5 : Cond.code y bytes maxL ret ∈ gTb)
    (hd : y.cls ≠ "java/lang/invoke/MethodHandle" ∧ y.cls ≠ "java/lang/invoke/VarHandle" ∧ (parseMethodDescriptor y.desc).map (fun d => d.parameters.length) = some n) (hn : As.length = n) (hR : rm.frames + 1 ≤ R.frames ∧ 8 + (maxL + 11) + rm.locals ≤ R.locals)
    (hrec : ∃ cell : Cell, H[b]? = some cell ∧ cell.vm.isStatics = false ∧ s.vm.findClass y.cls = some cell.cls) (hS : va_S A s.heap H locs) (h1 : ∀ q, A1 q → A q) (h2 : ∀ q, H.size ≤ q → A1 q) (hP : P H)
    (hst : st0 = As.reverse ++ .ref b :: rest) (hls : ls.size = nL) (hW : (rest.map fun v => v.category).sum ≤ 8) (hdg : decode cc pc = .ok (.invokevirtual index, 3)) (hf : cells + rm.cells ≤ R.cells ∧ slots + rm.slots ≤ R.slots)
    (kx : ∀ (E : String) (ce : Cell) (q9 : Addr) (H1 : Heap) (locs1 : List Loc), X E H1 → KF A1 H H1 → va_S A s.heap H1 locs1 → H1[q9]? = some ce → ce.vm = .none → s.vm.findClass E = some ce.cls → vx_W p l e R s m args below meth c H1 locs1 (cells + rm.cells) (slots + rm.slots) Qw (F0 m pc ls rest) q9)
    (kk : ∀ (v : Option Value) (H1 : Heap) (locs1 : List Loc), Q v H1 → KF A1 H H1 → va_S A s.heap H1 locs1 → W p l e R s m args below meth c H1 locs1 (cells + rm.cells) (slots + rm.slots) Qw (F0 m (pc + 3) ls (v.toList ++ rest))) : W p l e R s m args below meth c H locs cells slots Qw (F0 m pc ls st0) := by
  have hts := C.2.2.2.2
  exact kgo (vx_runV (As := As) (rest := rest) C hM ⟨kB hts w1 w4 w5 hd hR, hts _ w2, hts _ w3⟩ ⟨KP.blind, hrec, kpre hE hS h1 h2 hP⟩ rfl hn hls hst (by show 2 * 0 + _ ≤ 8; omega) hdg hf) hS h1 kx kk
theorem hcallI (C : CallFix p m c cc nL s args gTb own) (hE : EN A G s s.heap) (hM : KM l G A1 y bytes maxL none rm (.ref b :: As) P Q X)
    (w1 : Cond.methodLink own index y ∈ gTb) (w2 : Cond.instanceMethod y ∈ gTb) (w4 : Cond.initialized y.cls ∈ gTb) (w5 : Cond.code y bytes maxL none ∈ gTb) (hy1 : y.name = "<init>")
    (hd : y.cls ≠ "java/lang/invoke/MethodHandle" ∧ y.cls ≠ "java/lang/invoke/VarHandle" ∧ (parseMethodDescriptor y.desc).map (fun d => d.parameters.length) = some n) (hn : As.length = n) (hR : rm.frames + 1 ≤ R.frames ∧ 8 + (maxL + 11) + rm.locals ≤ R.locals)
    (hS : va_S A s.heap H locs) (h1 : ∀ q, A1 q → A q) (h2 : ∀ q, H.size ≤ q → A1 q) (hP : P H)
    (hst : st0 = As.reverse ++ .ref b :: rest) (hls : ls.size = nL) (hW : (rest.map fun v => v.category).sum ≤ 8) (hdg : decode cc pc = .ok (.invokespecial index, 3)) (hf : cells + rm.cells ≤ R.cells ∧ slots + rm.slots ≤ R.slots)
    (kx : ∀ (E : String) (ce : Cell) (q9 : Addr) (H1 : Heap) (locs1 : List Loc), X E H1 → KF A1 H H1 → va_S A s.heap H1 locs1 → H1[q9]? = some ce → ce.vm = .none → s.vm.findClass E = some ce.cls → vx_W p l e R s m args below meth c H1 locs1 (cells + rm.cells) (slots + rm.slots) Qw (F0 m pc ls rest) q9)
    (kk : ∀ (v : Option Value) (H1 : Heap) (locs1 : List Loc), Q v H1 → KF A1 H H1 → va_S A s.heap H1 locs1 → W p l e R s m args below meth c H1 locs1 (cells + rm.cells) (slots + rm.slots) Qw (F0 m (pc + 3) ls (v.toList ++ rest))) : W p l e R s m args below meth c H locs cells slots Qw (F0 m pc ls st0) := by
  have hts := C.2.2.2.2
  exact kgo (vx_runI (As := As) (rest := rest) C hM ⟨kB hts w1 w4 w5 hd hR, hy1, hts _ w2⟩ ⟨KP.blind, kpre hE hS h1 h2 hP⟩ rfl hn hls hst (by show 2 * 0 + _ ≤ 8; omega) hdg hf) hS h1 kx kk
/-- a static call of a method with handlers -/
theorem hcallH {hh : List (Nat × Nat × Nat × Nat)} (C : CallFix p m c cc nL s args gTb own) (hE : EN A G s s.heap) (hN : NCX s) (hM : HM l G A1 y bytes maxL ret hh rm As P Q)
    (w1 : Cond.methodLink own index y ∈ gTb) (w2 : Cond.static y ∈ gTb) (w4 : Cond.initialized y.cls ∈ gTb) (w5 : Cond.codeWith y bytes maxL ret hh ∈ gTb)
    (hd : y.cls ≠ "java/lang/invoke/MethodHandle" ∧ y.cls ≠ "java/lang/invoke/VarHandle" ∧ (parseMethodDescriptor y.desc).map (fun d => d.parameters.length) = some n) (hn : As.length = n) (hR : rm.frames + 1 ≤ R.frames ∧ 8 + (maxL + 11) + rm.locals ≤ R.locals)
    (hS : va_S A s.heap H locs) (h1 : ∀ q, A1 q → A q) (h2 : ∀ q, H.size ≤ q → A1 q) (hP : P H)
    (hst : st0 = As.reverse ++ rest) (hls : ls.size = nL) (hW : (rest.map fun v => v.category).sum ≤ 8) (hdg : decode cc pc = .ok (.invokestatic index, 3)) (hf : cells + rm.cells ≤ R.cells ∧ slots + rm.slots ≤ R.slots)
    (kk : ∀ (v : Option Value) (H1 : Heap) (locs1 : List Loc), Q v H1 → KF A1 H H1 → va_S A s.heap H1 locs1 → W p l e R s m args below meth c H1 locs1 (cells + rm.cells) (slots + rm.slots) Qw (F0 m (pc + 3) ls (v.toList ++ rest))) : W p l e R s m args below meth c H locs cells slots Qw (F0 m pc ls st0) := by
  have hts := C.2.2.2.2
  have cw : vx_CSW R s args own index y bytes maxL ret hh (.codeWith y bytes maxL ret hh :: gTb) rm rm.cells rm.slots n := by
    refine ⟨⟨rfl, rfl, hR.1, hR.2, ?_, List.mem_cons_self⟩, hts _ w5, hts _ w4, ⟨hd.1, hd.2.1⟩, fun sig h => ?_, hts _ w1, hts _ w2⟩
    · intro w hw a' U hW
      rcases List.mem_cons.mp hw with h | h
      · subst h
        exact gpay hts _ w5 a' U hW
      · exact gpay hts _ h a' U hW
    · have h2 := hd.2.2
      rw [h] at h2
      exact (Option.some.inj h2).symm
  have pre : ∀ (U : State), U.heap = H → s.WarmedH U.vm → KPN As A1 G P As.toArray U := fun U hU hW =>
    ⟨rfl, ⟨by rw [hU]; exact ((hE.at hS).narrow h1).warm hW, hN.warm hW⟩, by rw [hU]; exact h2, by rw [hU]; exact hP⟩
  exact kgo (vx_runSX (As := As) (rest := rest) C hM cw ⟨KPN.blind, pre⟩ rfl hn hls hst (by show 2 * 0 + _ ≤ 8; omega) hdg hf) hS h1 (fun E ce q9 H1 locs1 hx9 _ _ _ _ _ => hx9.elim) kk
end HCALLS

section LHYP
variable {σ τ : SG} {qs : Nat → List Nat} {nT nW f D N : Nat}
theorem L_wf (hR : RR0 σ qs nT nW f τ D N) : WFw σ nW := fun w hw => (hR.2.2.2.2.2.2.2.1 w hw).1
theorem L_wr (hR : RR0 σ qs nT nW f τ D N) : ∀ u, u < nW → ∃ b, b < 12 ∧ σ 19 u = nI b := fun w hw => (hR.2.2.2.2.2.2.2.1 w hw).2.1
theorem L_fe (hR : RR0 σ qs nT nW f τ D N) : ∀ u, u < nW → ∃ fe, fe ≤ 1000 ∧ σ 21 u = nI fe := fun w hw => (hR.2.2.2.2.2.2.2.1 w hw).2.2
theorem L_wfm (hR : RR0 σ qs nT nW f τ D N) : WFm τ nW := fun w hw => by rw [(wk7 hR hw).1]; exact L_wf hR w hw
theorem L_hg (hR : RR0 σ qs nT nW f τ D N) : ∀ u, u < nW → ∃ b, b < 12 ∧ τ 18 u = nI b := fun w hw => by rw [(wk7 hR hw).2.1]; exact L_wr hR w hw
theorem L_fem (hR : RR0 σ qs nT nW f τ D N) : ∀ u, u < nW → ∃ fe, fe ≤ 1000 ∧ τ 20 u = nI fe := fun w hw => by rw [(wk7 hR hw).2.2.2.1]; exact L_fe hR w hw
theorem L_pl (hR : RR0 σ qs nT nW f τ D N) : ∀ t, t < nT → σ 16 t = -1 ∨ ∃ r, r < 12 ∧ σ 16 t = nI r := fun t ht => by
  obtain ⟨hN, hP, hM, hT, hZ, hD, hW, hB, hA, hRR, hV, hO, -⟩ := hR
  rcases (hO t ht).1 with ⟨a1, -, -⟩ | ⟨r, hr, a1, -⟩
  · exact Or.inl a1
  · exact Or.inr ⟨r, hr, a1⟩
theorem L_plm (hR : RR0 σ qs nT nW f τ D N) : ∀ t, t < nT → τ 10 t = -1 ∨ ∃ r, r < 12 ∧ (τ 10 t = nI r ∨ τ 10 t = 100 + nI r) := fun t ht => by
  obtain ⟨hN, hP, hM, hT, hZ, hD, hW, hB, hA, hRR, hV, hO, -⟩ := hR
  rcases (hO t ht).1 with ⟨-, -, a1⟩ | ⟨r, hr, -, ⟨-, a1⟩ | ⟨-, a1⟩⟩
  · exact Or.inl a1
  · exact Or.inr ⟨r, hr, Or.inl a1⟩
  · exact Or.inr ⟨r, hr, Or.inr a1⟩
theorem L_V100 (hR : RR0 σ qs nT nW f τ D N) : ∀ r, r < 12 → ∃ v, v ≤ 100 ∧ σ 7 r = nI v := fun r hr => ⟨_, by have := in_le (τ := τ) (r := r) (nT := nT); have := hR.n80; omega, hR.k.2.2.2.2.2.2.2.2.1 r hr⟩
theorem L_free (hR : RR0 σ qs nT nW f τ D N) : ∀ r, r < 12 → ∃ c v, freeN σ r c v := fun r hr => by
  obtain ⟨-, -, c, hc, e⟩ := hR.2.2.2.2.2.2.2.2.2.1 r hr
  obtain ⟨v, hv, e2⟩ := L_V100 hR r hr
  exact ⟨c, v, e, e2, by omega, by omega⟩
theorem L_len (hR : RR0 σ qs nT nW f τ D N) {n : Nat} (hn : 80 ≤ n) : ∀ r, r < 12 → (qs r).length ≤ n := fun r hr => by
  have := q_len hR.k.2.2.2.2.2.2.2.2.2.2.1 hr
  have := hR.n80
  omega
theorem L_v1 (hR : RR0 σ qs nT nW f τ D N) : ∀ t r, t < nT → r < 12 → σ 16 t = nI r → σ 17 t = 0 → ∀ c v, freeN σ r c v → v ≠ 0 := fun t r ht hr a1 a2 c v h => (pr_outR hR ht hr a1 a2 h.1 h.2.2.1 h.2.1 h.2.2.2).2.1
end LHYP
/-! the class in the law's world -/
def CST (G : GE) (A : Nat → Prop) (a0 : Nat) (τ : SG) (nT nW N : Nat) (H : Heap) : Prop := ∃ (ad : Nat → Nat → Nat) (σ : SG) (qs : Nat → List Nat) (f D : Nat), ad 0 0 = a0 ∧ PX G A ad σ qs nT nW H ∧ RR0 σ qs nT nW f τ D N ∧ RI τ nT
def dres (k x : Int32) : Int32 := if k = 0 then x else if k = 1 then -11 else -13
def dresL (k x : Int32) : Int32 := if k = 0 then x else if k = 1 then -11 else if k = 2 then -12 else -13
theorem CST.nT {G : GE} {A : Nat → Prop} {a0 nT nW N k w : Nat} {τ : SG} {H : Heap} (h : CST G A a0 τ nT nW N H) (hk : k ≤ 100) (hw : w ≤ 100) (e3 : τ 3 0 = nI k) (e16 : τ 16 0 = nI w) : CST G A a0 τ k w N H := by
  obtain ⟨ad, σ, qs, f, D, ea, hP, hR, hI⟩ := h
  have h1 := hR.1.2.2.2.1
  have h2 := hR.1.2.2.2.2.1
  have h3 := hR.1.2.2.1
  have h4 := hR.1.2.2.2.2.2.1
  have a1 : nT = k := nIe (by omega) (by omega) (h1.symm.trans e3)
  have a2 : nW = w := nIe (by omega) (by omega) (h2.symm.trans e16)
  subst a1 a2
  exact ⟨ad, σ, qs, f, D, ea, hP, hR, hI⟩
theorem CST.old {G : GE} {A : Nat → Prop} {a0 nT nW N : Nat} {τ : SG} {H H1 : Heap} (h : CST G A a0 τ nT nW N H) (k : KF (fun q => H.size ≤ q) H H1) : CST G A a0 τ nT nW N H1 := by
  obtain ⟨ad, σ, qs, f, D, ea, hP, hR, hI⟩ := h
  exact ⟨ad, σ, qs, f, D, ea, hP.old k, hR, hI⟩
theorem CST.kept {G : GE} {A A1 : Nat → Prop} {a0 nT nW N : Nat} {τ : SG} {H H1 : Heap} (h : CST G A a0 τ nT nW N H) (k : KF A1 H H1) (hA : ∀ q, A q → q < H.size → ¬ A1 q) : CST G A a0 τ nT nW N H1 := by
  obtain ⟨ad, σ, qs, f, D, ea, hP, hR, hI⟩ := h
  exact ⟨ad, σ, qs, f, D, ea, hP.kept k hA, hR, hI⟩
