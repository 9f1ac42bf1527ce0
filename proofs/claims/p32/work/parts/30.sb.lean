/-! calls of an inherited or a superclass's method -/
theorem kselP {C : String} {x y : MethodName} {s : State} {args : Array Value} (hx : x.cls ≠ "java/lang/invoke/MethodHandle" ∧ x.cls ≠ "java/lang/invoke/VarHandle") (hy : y.cls ≠ "java/lang/invoke/MethodHandle" ∧ y.cls ≠ "java/lang/invoke/VarHandle") (hcl : x.cls = y.cls) (hsel : (Cond.selects C x x).before args s = true) (hinx : (Cond.instanceMethod x).before args s = true)
    (hpriv : (Cond.privateMethod y).before args s = true) (hinst : (Cond.instanceMethod y).before args s = true) : (Cond.selects C y y).before args s = true := by
  obtain ⟨mk, methM, hnamed, hmethM, -, -⟩ := Cond.instanceMethod_spec hinst
  obtain ⟨mx, methX, hnamedx, hmethX, -, -⟩ := Cond.instanceMethod_spec hinx
  have hfound : s.methodFound? y.cls y.name y.desc = some mk := State.methodFound?_of_named hnamed hy
  have hfoundx : s.methodFound? x.cls x.name x.desc = some mx := State.methodFound?_of_named hnamedx hx
  have hcls : mx.cls = mk.cls := by
    have h1 := findClass_of_methodNamed hnamedx
    have h2 := findClass_of_methodNamed hnamed
    rw [hcl] at h1
    exact Option.some.inj (h1.symm.trans h2)
  simp only [Cond.before, Cond.holds, Cond.value, hfoundx, hnamedx] at hsel
  simp only [Cond.before, Cond.holds, Cond.value, hfound, hnamed]
  cases hc : s.vm.findClass C with
  | none => rw [hc] at hsel; simp at hsel
  | some c =>
    rw [hc] at hsel
    have hsel2 : selectMethod {} s.vm c mk = .method mk := selectMethod_private hmethM (Cond.privateMethod_at hpriv mk methM hnamed hmethM)
    simp only [hsel2]
    dsimp only at hsel
    rw [hcls] at hsel
    generalize selectMethod {} s.vm c mx = z at hsel
    cases z <;> simp_all
section KC2
variable {p : Program} {l : Launch} {e : Env} {R : Room} {s : State} {m : MethodId} {args : Array Value} {below : List Frame} {meth : Method} {c : Code} {H : Heap} {locs : List Loc} {cells slots : Nat} {Qw : State → Prop}
variable {cc : ByteArray} {pc nL : Nat} {ls : Array Slot} {rest st0 : List Value} {A A1 : Nat → Prop} {G : GE} {y : MethodName} {bytes : ByteArray} {maxL n index : Nat} {ret : Option FieldType} {rm : Room} {b : Nat} {As : List Value} {P : Heap → Prop} {Q : Option Value → Heap → Prop} {X : String → Heap → Prop}
theorem kcallVC {ret0 : Option FieldType} {y0 : MethodName} {C9 : String} (F : FX l p m meth c cc nL ret0 s args y0 A G) (hM : KM l G A1 y bytes maxL ret rm (.ref b :: As) P Q X)
    (w1 : Cond.methodLink y0.cls index y ∈ gTb) (w2 : Cond.instanceMethod y ∈ gTb) (w3 : (Cond.selects C9 y y).before args s = true) (w4 : Cond.initialized y.cls ∈ gTb) (w5 : Cond.code y bytes maxL ret ∈ gTb)
    (hd : y.cls ≠ "java/lang/invoke/MethodHandle" ∧ y.cls ≠ "java/lang/invoke/VarHandle" ∧ (parseMethodDescriptor y.desc).map (fun d => d.parameters.length) = some n) (hn : As.length = n) (hR : rm.frames + 1 ≤ R.frames ∧ 8 + (maxL + 11) + rm.locals ≤ R.locals)
    (hrec : ∃ cell : Cell, H[b]? = some cell ∧ cell.vm.isStatics = false ∧ s.vm.findClass C9 = some cell.cls) (hS : va_S A s.heap H locs) (h1 : ∀ q, A1 q → A q) (h2 : ∀ q, H.size ≤ q → A1 q) (hP : P H)
    (hst : st0 = As.reverse ++ .ref b :: rest) (hls : ls.size = nL) (hW : (rest.map fun v => v.category).sum ≤ 8) (hdg : decode cc pc = .ok (.invokevirtual index, 3)) (hf : cells + rm.cells ≤ R.cells ∧ slots + rm.slots ≤ R.slots)
    (kx : ∀ (E : String) (ce : Cell) (q9 : Addr) (H1 : Heap) (locs1 : List Loc), X E H1 → KF A1 H H1 → va_S A s.heap H1 locs1 → H1[q9]? = some ce → ce.vm = .none → s.vm.findClass E = some ce.cls → vx_W p l e R s m args below meth c H1 locs1 (cells + rm.cells) (slots + rm.slots) Qw (F0 m pc ls rest) q9)
    (kk : ∀ (v : Option Value) (H1 : Heap) (locs1 : List Loc), Q v H1 → KF A1 H H1 → va_S A s.heap H1 locs1 → W p l e R s m args below meth c H1 locs1 (cells + rm.cells) (slots + rm.slots) Qw (F0 m (pc + 3) ls (v.toList ++ rest))) : W p l e R s m args below meth c H locs cells slots Qw (F0 m pc ls st0) := by
  obtain ⟨C, hr, hlocks, hnm, hno, hE, hA⟩ := F
  have hts := C.2.2.2.2
  exact kgo (vx_runV (As := As) (rest := rest) C hM ⟨kB hts w1 w4 w5 hd hR, hts _ w2, w3⟩ ⟨KP.blind, hrec, kpre hE hS h1 h2 hP⟩ rfl hn hls hst (by show 2 * 0 + _ ≤ 8; omega) hdg hf) hS h1 kx kk
theorem kcallSU {ret0 : Option FieldType} {y0 : MethodName} {C9 : String} {cC : ClassId} (hat : ClassAt s C9 cC) (F : FX l p m meth c cc nL ret0 s args y0 A G) (hM : KM l G A1 y bytes maxL ret rm (.ref b :: As) P Q X)
    (w1 : Cond.methodLink y0.cls index y ∈ gTb) (w2 : Cond.instanceMethod y ∈ gTb) (w3 : Cond.sameMethod y.cls y.cls y.name y.desc ∈ gTb) (w6 : Cond.superclass y0.cls y.cls ∈ gTb) (w4 : Cond.initialized y.cls ∈ gTb) (w5 : Cond.code y bytes maxL ret ∈ gTb)
    (hd : y.cls ≠ "java/lang/invoke/MethodHandle" ∧ y.cls ≠ "java/lang/invoke/VarHandle" ∧ (parseMethodDescriptor y.desc).map (fun d => d.parameters.length) = some n) (hni : y.name ≠ "<init>") (hn : As.length = n) (hR : rm.frames + 1 ≤ R.frames ∧ 8 + (maxL + 11) + rm.locals ≤ R.locals)
    (hrec : ∃ cell : Cell, H[b]? = some cell ∧ cell.vm.isStatics = false ∧ s.vm.findClass C9 = some cell.cls) (hS : va_S A s.heap H locs) (h1 : ∀ q, A1 q → A q) (h2 : ∀ q, H.size ≤ q → A1 q) (hP : P H)
    (hst : st0 = As.reverse ++ .ref b :: rest) (hls : ls.size = nL) (hW : (rest.map fun v => v.category).sum ≤ 8) (hdg : decode cc pc = .ok (.invokespecial index, 3)) (hf : cells + rm.cells ≤ R.cells ∧ slots + rm.slots ≤ R.slots)
    (kx : ∀ (E : String) (ce : Cell) (q9 : Addr) (H1 : Heap) (locs1 : List Loc), X E H1 → KF A1 H H1 → va_S A s.heap H1 locs1 → H1[q9]? = some ce → ce.vm = .none → s.vm.findClass E = some ce.cls → vx_W p l e R s m args below meth c H1 locs1 (cells + rm.cells) (slots + rm.slots) Qw (F0 m pc ls rest) q9)
    (kk : ∀ (v : Option Value) (H1 : Heap) (locs1 : List Loc), Q v H1 → KF A1 H H1 → va_S A s.heap H1 locs1 → W p l e R s m args below meth c H1 locs1 (cells + rm.cells) (slots + rm.slots) Qw (F0 m (pc + 3) ls (v.toList ++ rest))) : W p l e R s m args below meth c H locs cells slots Qw (F0 m pc ls st0) := by
  obtain ⟨C, hr, hlocks, hnm, hno, hE, hA⟩ := F
  have hts := C.2.2.2.2
  have hB := kB (R := R) hts w1 w4 w5 hd hR
  exact kgo (vx_runSU (As := As) (rest := rest) hat C hM ⟨⟨rfl, rfl, hR.1, hR.2, hB.2.2.2.2.1, List.mem_cons_self⟩, hts _ w1, hts _ w3, hts _ w6, hts _ w2, hts _ w4, hts _ w5, hni, fun sig h => by have h2 := hd.2.2; rw [h] at h2; exact (Option.some.inj h2).symm⟩ ⟨KP.blind, hrec, kpre hE hS h1 h2 hP⟩ rfl hn hls hst (by show 2 * 0 + _ ≤ 8; omega) hdg hf) hS h1 kx kk
end KC2
