/-! THE LAW'S LEVEL: methods with handlers, calls from the law -/
def nwNot : List (String × String) := [(xIA, xIO), (xIS, xIO), (xIS, xIA)]
def NCX (U : State) : Prop := ∀ q ∈ nwNot, va_Nc q.1 q.2 U
theorem NCX.warm {s U : State} (hW : s.WarmedH U.vm) (h : NCX s) : NCX U := fun q hq => (h q hq).moved hW.alike
def KPN (av : List Value) (A : Nat → Prop) (G : GE) (P : Heap → Prop) : Array Value → State → Prop := va_Pc av (fun U => (EN A G U U.heap ∧ NCX U) ∧ (∀ q, U.heap.size ≤ q → A q) ∧ P U.heap)
theorem KPN.blind {av : List Value} {A : Nat → Prop} {G : GE} {P : Heap → Prop} : FrameBlind (KPN av A G P) := by
  intro a U g mk h
  obtain ⟨h1, ⟨h2, h5⟩, h3, h4⟩ := h
  exact ⟨h1, ⟨EN.warm (s := U) (U := U.calling g mk a) (State.WarmedH.refl U) h2, NCX.warm (s := U) (U := U.calling g mk a) (State.WarmedH.refl U) h5⟩, h3, h4⟩
/-- the contract of a method with handlers that returns -/
def HM (l : Launch) (G : GE) (A : Nat → Prop) (y : MethodName) (cc : ByteArray) (n : Nat) (ret : Option FieldType) (hh : List (Nat × Nat × Nat × Nat)) (rm : Room) (av : List Value) (P : Heap → Prop) (Q : Option Value → Heap → Prop) : Prop :=
  vx_Met l y (.codeWith y cc n ret hh :: gTb) rm (KPN av A G P) (KQc A Q) (KXc A (fun _ _ => False)) rm.cells rm.slots A
def HX (l : Launch) (p : Program) (m : MethodId) (meth : Method) (c : Code) (cc : ByteArray) (n : Nat) (ret : Option FieldType) (s : State) (args : Array Value) (y : MethodName) (A : Nat → Prop) (G : GE) (hh : List (Nat × Nat × Nat × Nat)) : Prop :=
  CallFix p m c cc n s args gTb y.cls ∧ meth.sig.returnType = ret ∧ meth.locks = false ∧ c.exceptionTable.toList = tableOf hh ∧ EN A G s s.heap ∧ NCX s ∧ (∀ q, s.heap.size ≤ q → A q)
theorem HM.of {l : Launch} {G : GE} {A : Nat → Prop} {y : MethodName} {cc : ByteArray} {n : Nat} {ret : Option FieldType} {hh : List (Nat × Nat × Nat × Nat)} {rm : Room} {av : List Value} {P : Heap → Prop} {Q : Option Value → Heap → Prop} (hy : plainName y.cls = true) (hn : (lg_sl av).length ≤ n)
    (body : ∀ (p : Program) (e : Env) (s : State) (m : MethodId) (args : Array Value) (below : List Frame) (meth : Method) (c : Code), HX l p m meth c cc n ret s args y A G hh → P s.heap → ∀ ls : Array Slot, lv_has ls n (lv_args 0 av) →
      W p l e rm s m args below meth c s.heap [] 0 0 (KE below A Q (fun _ _ => False) args s rm) (F0 m 0 ls [])) : HM l G A y cc n ret hh rm av P Q := by
  refine vx_ofWH (cc := cc) (maxL := n) (ret := ret) (hh := hh) hy rfl ?_
  intro p e s m args below meth c s₁ B hml hv
  obtain ⟨rfl, ⟨hE, hN⟩, hA, hP⟩ := hv
  have hts := atoms_spec (ws := .codeWith y cc n ret hh :: gTb) B.pre
  have hown : s.vm.findClass y.cls = some m.cls := findClass_of_methodNamed B.named
  have htab := vx_table (x := y) B (hts _ List.mem_cons_self)
  have hl := lv_entry av hn
  rw [lg_entry_eq]
  exact body p e s m _ below meth c ⟨⟨B.exec, B.bytes, hml, hown, fun w hw => hts w (List.mem_cons_of_mem _ hw)⟩, B.returns, B.notSynchronized, htab, hE, hN, hA⟩ hP _ hl
section HCALLS
variable {p : Program} {l : Launch} {e : Env} {R : Room} {s : State} {m : MethodId} {args : Array Value} {below : List Frame} {meth : Method} {c : Code} {H : Heap} {locs : List Loc} {cells slots : Nat} {Qw : State → Prop}
variable {pc : Nat} {ls : Array Slot} {rest st0 : List Value} {a : Array Value} {A A1 : Nat → Prop} {Q : Option Value → Heap → Prop} {X : String → Heap → Prop} {rm : Room} {G : GE} {P : Heap → Prop}
variable {y : MethodName} {bytes cc : ByteArray} {maxL nL n index : Nat} {ret : Option FieldType} {own : String} {b : Addr} {As : List Value}
theorem hcallV (C : CallFix p m c cc nL s args gTb own) (hE : EN A G s s.heap) (hM : KM l G A1 y bytes maxL ret rm (.ref b :: As) P Q X)
    (w1 : Cond.methodLink own index y ∈ gTb) (w2 : Cond.instanceMethod y ∈ gTb) (w3 : Cond.selects y.cls y y ∈ gTb) (w4 : Cond.initialized y.cls ∈ gTb) (w5 : Cond.code y bytes maxL ret ∈ gTb)
    (hd : y.cls ≠ "java/lang/invoke/MethodHandle" ∧ y.cls ≠ "java/lang/invoke/VarHandle" ∧ (parseMethodDescriptor y.desc).map (fun d => d.parameters.length) = some n) (hn : As.length = n) (hR : rm.frames + 1 ≤ R.frames ∧ 8 + (maxL + 11) + rm.locals ≤ R.locals)
    (hrec : ∃ cell : Cell, H[b]? = some cell ∧ cell.vm.isStatics = false ∧ s.vm.findClass y.cls = some cell.cls) (hS : va_S A s.heap H locs) (h1 : ∀ q, A1 q → A q) (h2 : ∀ q, H.size ≤ q → A1 q) (hP : P H)
    (hst : st0 = As.reverse ++ .ref b :: rest) (hls : ls.size = nL) (hW : (rest.map fun v => v.category).sum ≤ 8) (hdg : decode cc pc = .ok (.invokevirtual index, 3)) (hf : cells + rm.cells ≤ R.cells ∧ slots + rm.slots ≤ R.slots)
    (kx : ∀ (E : String) (ce : Cell) (q9 : Addr) (H1 : Heap) (locs1 : List Loc), X E H1 → KF A1 H H1 → va_S A s.heap H1 locs1 → H1[q9]? = some ce → ce.vm = .none → s.vm.findClass E = some ce.cls → vx_W p l e R s m args below meth c H1 locs1 (cells + rm.cells) (slots + rm.slots) Qw (F0 m pc ls rest) q9)
    (kk : ∀ (v : Option Value) (H1 : Heap) (locs1 : List Loc), Q v H1 → KF A1 H H1 → va_S A s.heap H1 locs1 → W p l e R s m args below meth c H1 locs1 (cells + rm.cells) (slots + rm.slots) Qw (F0 m (pc + 3) ls (v.toList ++ rest))) : W p l e R s m args below meth c H locs cells slots Qw (F0 m pc ls st0) := by
  have hts := C.2.2.2.2
  exact kgo (vx_runV (As := As) (rest := rest) C hM ⟨kB hts w1 w4 w5 hd hR, hts _ w2, hts _ w3⟩ ⟨KP.blind, hrec, kpre hE hS h1 h2 hP⟩ rfl hn hls hst (by show 2 * 0 + _ ≤ 8; omega) hdg hf) hS h1 kx kk
theorem hcallI (C : CallFix p m c cc nL s args gTb own) (hE : EN A G s s.heap) (hM : KM l G A1 y bytes maxL none rm (.ref b :: As) P Q X)
    (w1 : Cond.methodLink own index y ∈ gTb) (w2 : Cond.instanceMethod y ∈ gTb) (w4 : Cond.initialized y.cls ∈ gTb) (w5 : Cond.code y bytes maxL none ∈ gTb) (hy1 : y.name = "<init>")
    (hd : y.cls ≠ "java/lang/invoke/MethodHandle" ∧ y.cls ≠ "java/lang/invoke/VarHandle" ∧ (parseMethodDescriptor y.desc).map (fun d => d.parameters.length) = some n) (hn : As.length = n) (hR : rm.frames + 1 ≤ R.frames ∧ 8 + (maxL + 11) + rm.locals ≤ R.locals)
    (hS : va_S A s.heap H locs) (h1 : ∀ q, A1 q → A q) (h2 : ∀ q, H.size ≤ q → A1 q) (hP : P H)
    (hst : st0 = As.reverse ++ .ref b :: rest) (hls : ls.size = nL) (hW : (rest.map fun v => v.category).sum ≤ 8) (hdg : decode cc pc = .ok (.invokespecial index, 3)) (hf : cells + rm.cells ≤ R.cells ∧ slots + rm.slots ≤ R.slots)
    (kx : ∀ (E : String) (ce : Cell) (q9 : Addr) (H1 : Heap) (locs1 : List Loc), X E H1 → KF A1 H H1 → va_S A s.heap H1 locs1 → H1[q9]? = some ce → ce.vm = .none → s.vm.findClass E = some ce.cls → vx_W p l e R s m args below meth c H1 locs1 (cells + rm.cells) (slots + rm.slots) Qw (F0 m pc ls rest) q9)
    (kk : ∀ (v : Option Value) (H1 : Heap) (locs1 : List Loc), Q v H1 → KF A1 H H1 → va_S A s.heap H1 locs1 → W p l e R s m args below meth c H1 locs1 (cells + rm.cells) (slots + rm.slots) Qw (F0 m (pc + 3) ls (v.toList ++ rest))) : W p l e R s m args below meth c H locs cells slots Qw (F0 m pc ls st0) := by
  have hts := C.2.2.2.2
  exact kgo (vx_runI (As := As) (rest := rest) C hM ⟨kB hts w1 w4 w5 hd hR, hy1, hts _ w2⟩ ⟨KP.blind, kpre hE hS h1 h2 hP⟩ rfl hn hls hst (by show 2 * 0 + _ ≤ 8; omega) hdg hf) hS h1 kx kk
/-- a static call of a method with handlers -/
theorem hcallH {hh : List (Nat × Nat × Nat × Nat)} (C : CallFix p m c cc nL s args gTb own) (hE : EN A G s s.heap) (hN : NCX s) (hM : HM l G A1 y bytes maxL ret hh rm As P Q)
    (w1 : Cond.methodLink own index y ∈ gTb) (w2 : Cond.static y ∈ gTb) (w4 : Cond.initialized y.cls ∈ gTb) (w5 : Cond.codeWith y bytes maxL ret hh ∈ gTb)
    (hd : y.cls ≠ "java/lang/invoke/MethodHandle" ∧ y.cls ≠ "java/lang/invoke/VarHandle" ∧ (parseMethodDescriptor y.desc).map (fun d => d.parameters.length) = some n) (hn : As.length = n) (hR : rm.frames + 1 ≤ R.frames ∧ 8 + (maxL + 11) + rm.locals ≤ R.locals)
    (hS : va_S A s.heap H locs) (h1 : ∀ q, A1 q → A q) (h2 : ∀ q, H.size ≤ q → A1 q) (hP : P H)
    (hst : st0 = As.reverse ++ rest) (hls : ls.size = nL) (hW : (rest.map fun v => v.category).sum ≤ 8) (hdg : decode cc pc = .ok (.invokestatic index, 3)) (hf : cells + rm.cells ≤ R.cells ∧ slots + rm.slots ≤ R.slots)
    (kk : ∀ (v : Option Value) (H1 : Heap) (locs1 : List Loc), Q v H1 → KF A1 H H1 → va_S A s.heap H1 locs1 → W p l e R s m args below meth c H1 locs1 (cells + rm.cells) (slots + rm.slots) Qw (F0 m (pc + 3) ls (v.toList ++ rest))) : W p l e R s m args below meth c H locs cells slots Qw (F0 m pc ls st0) := by
  have hts := C.2.2.2.2
  have cw : vx_CSW R s args own index y bytes maxL ret hh (.codeWith y bytes maxL ret hh :: gTb) rm rm.cells rm.slots n := by
    refine ⟨⟨rfl, rfl, hR.1, hR.2, ?_, List.mem_cons_self⟩, hts _ w5, hts _ w4, ⟨hd.1, hd.2.1⟩, fun sig h => ?_, hts _ w1, hts _ w2⟩
    · intro w hw a' U hW
      rcases List.mem_cons.mp hw with h | h
      · subst h
        exact gpay hts _ w5 a' U hW
      · exact gpay hts _ h a' U hW
    · have h2 := hd.2.2
      rw [h] at h2
      exact (Option.some.inj h2).symm
  have pre : ∀ (U : State), U.heap = H → s.WarmedH U.vm → KPN As A1 G P As.toArray U := fun U hU hW =>
    ⟨rfl, ⟨by rw [hU]; exact ((hE.at hS).narrow h1).warm hW, hN.warm hW⟩, by rw [hU]; exact h2, by rw [hU]; exact hP⟩
  exact kgo (vx_runSX (As := As) (rest := rest) C hM cw ⟨KPN.blind, pre⟩ rfl hn hls hst (by show 2 * 0 + _ ≤ 8; omega) hdg hf) hS h1 (fun E ce q9 H1 locs1 hx9 _ _ _ _ _ => hx9.elim) kk
end HCALLS
/-- the law's answer cell: one long -/
abbrev LO (G : GE) (y : Int64) : va_E := .inl (G.2.1 6, 1, .inr (.inl (fun _ => y)))
theorem arrV_one {cA : ClassId} {f g : Nat → Value} (h : f 0 = g 0) : arrV cA 1 f = arrV cA 1 g := by
  unfold arrV
  congr 1
  simp [h]
section LROWS
variable {p : Program} {l : Launch} {e : Env} {R : Room} {s : State} {m : MethodId} {args : Array Value} {below : List Frame} {meth : Method} {c : Code} {H : Heap} {locs : List Loc} {cells slots : Nat} {Q : State → Prop}
variable {cc : ByteArray} {pc : Nat} {ls : Array Slot} {rest : List Value} {A : Nat → Prop} {a : Nat} {H0 : Heap} {G : GE}
theorem xlast (hexec : p.tables.exec = Jvm.exec) (hb : c.code = cc) (hK : va_K G.1 mcl (kTy G.2.1) s) (hS : va_S A H0 H locs) {y x : Int64} (ha : va_at G.1 mcl (a, LO G y) H) (hA : A a) (hdg : decode cc pc = .ok (.lastore, 1))
    (kk : ∀ (H1 : Heap) (locs1 : List Loc), va_at G.1 mcl (a, LO G x) H1 → H1.size = H.size → (∀ q, q ≠ a → H1[q]? = H[q]?) → va_S A H0 H1 locs1 → W p l e R s m args below meth c H1 locs1 cells slots Q (F0 m (pc + 1) ls rest)) : W p l e R s m args below meth c H locs cells slots Q (F0 m pc ls (.long x :: .int 0 :: .ref a :: rest)) := by
  have hin : vp_in 0 1 := (by unfold vp_in; decide)
  refine W.last hexec hb ha ((hK.2 6 _ rfl).1 1 (fun j => .long y)) (fun q => by cases q) (by show ¬ ((0 : Int32) < 0 ∨ (arrV _ _ _).slots.size ≤ _); rw [arrV_size]; exact hin) rfl rfl hdg fun H1 e9 z oq => ?_
  refine kk H1 _ ?_ z oq (hS.put z oq hA)
  show H1[a]? = some (vp_cell _ _)
  rw [e9, vp_cell_l, vp_cell_l, arrV_store, show (0 : Int32).toNatClampNeg = 0 from rfl]
  exact congrArg some (arrV_one (by simp [updV]))
theorem xlald (hexec : p.tables.exec = Jvm.exec) (hb : c.code = cc) (hK : va_K G.1 mcl (kTy G.2.1) s) {y : Int64} (ha : va_at G.1 mcl (a, LO G y) H) (hdg : decode cc pc = .ok (.laload, 1))
    (kk : W p l e R s m args below meth c H locs cells slots Q (F0 m (pc + 1) ls (.long y :: rest))) : W p l e R s m args below meth c H locs cells slots Q (F0 m pc ls (.int 0 :: .ref a :: rest)) :=
  va_lald (ws := [(a, LO G y)]) hexec hb hK (at1 ha) 0 6 rfl rfl ((by unfold vp_in; decide)) hdg kk
end LROWS
