/-! the constructor of a nest mate's class -/
section KC3
variable {p : Program} {l : Launch} {e : Env} {R : Room} {s : State} {m : MethodId} {args : Array Value} {below : List Frame} {meth : Method} {c : Code} {H : Heap} {locs : List Loc} {cells slots : Nat} {Qw : State → Prop}
variable {cc : ByteArray} {pc nL : Nat} {ls : Array Slot} {rest st0 : List Value} {A A1 : Nat → Prop} {G : GE} {y : MethodName} {bytes : ByteArray} {maxL n index : Nat} {ret : Option FieldType} {rm : Room} {b : Nat} {As : List Value} {P : Heap → Prop} {Q : Option Value → Heap → Prop} {X : String → Heap → Prop}
theorem kcallIN {ret0 : Option FieldType} {y0 : MethodName} {host : String} (F : FX l p m meth c cc nL ret0 s args y0 A G) (hM : KM l G A1 y bytes maxL none rm (.ref b :: As) P Q X)
    (w1 : va_Nw (.methodLinkNest y0.cls index y host) s) (w2 : Cond.instanceMethod y ∈ gTb) (w4 : Cond.initialized y.cls ∈ gTb) (w5 : Cond.code y bytes maxL none ∈ gTb) (hy1 : y.name = "<init>")
    (hd : y.cls ≠ "java/lang/invoke/MethodHandle" ∧ y.cls ≠ "java/lang/invoke/VarHandle" ∧ (parseMethodDescriptor y.desc).map (fun d => d.parameters.length) = some n) (hn : As.length = n) (hR : rm.frames + 1 ≤ R.frames ∧ 8 + (maxL + 11) + rm.locals ≤ R.locals)
    (hS : va_S A s.heap H locs) (h1 : ∀ q, A1 q → A q) (h2 : ∀ q, H.size ≤ q → A1 q) (hP : P H)
    (hst : st0 = As.reverse ++ .ref b :: rest) (hls : ls.size = nL) (hW : (rest.map fun v => v.category).sum ≤ 8) (hdg : decode cc pc = .ok (.invokespecial index, 3)) (hf : cells + rm.cells ≤ R.cells ∧ slots + rm.slots ≤ R.slots)
    (kx : ∀ (E : String) (ce : Cell) (q9 : Addr) (H1 : Heap) (locs1 : List Loc), X E H1 → KF A1 H H1 → va_S A s.heap H1 locs1 → H1[q9]? = some ce → ce.vm = .none → s.vm.findClass E = some ce.cls → vx_W p l e R s m args below meth c H1 locs1 (cells + rm.cells) (slots + rm.slots) Qw (F0 m pc ls rest) q9)
    (kk : ∀ (v : Option Value) (H1 : Heap) (locs1 : List Loc), Q v H1 → KF A1 H H1 → va_S A s.heap H1 locs1 → W p l e R s m args below meth c H1 locs1 (cells + rm.cells) (slots + rm.slots) Qw (F0 m (pc + 3) ls (v.toList ++ rest))) : W p l e R s m args below meth c H locs cells slots Qw (F0 m pc ls st0) := by
  obtain ⟨C, hr, hlocks, hnm, hno, hE, hA⟩ := F
  have hts := C.2.2.2.2
  exact kgo (vx_runIN (As := As) (rest := rest) C hM ⟨⟨⟨rfl, rfl, hR.1, hR.2, fun w hw a' U hW => (List.mem_cons.mp hw).elim (fun h => by subst h; exact gpay hts _ w5 a' U hW) (fun h => gpay hts _ h a' U hW), List.mem_cons_self⟩, hts _ w5, hts _ w4, ⟨hd.1, hd.2.1⟩, fun sig h => by have h2 := hd.2.2; rw [h] at h2; exact (Option.some.inj h2).symm, va_Nw.use rfl w1⟩, hy1, hts _ w2⟩ ⟨KP.blind, kpre hE hS h1 h2 hP⟩ rfl hn hls hst (by show 2 * 0 + _ ≤ 8; omega) hdg hf) hS h1 kx kk
end KC3
