/-! THE CORE: one list of words for all methods, one environment, contracts of one form -/
theorem gpay {s : State} {args : Array Value} (ht : ∀ w ∈ gTb, w.before args s = true) : ∀ w ∈ gTb, ∀ (a' : Array Value) (U : State), s.WarmedH U.vm → w.before a' U = true := fun w hw _ _ hW => word_at hW (good_of_word (List.mem_filter.mp hw).2) (ht w hw)
/-- the classes: 0 StringBuilder, 1 ArrayList, 2 Member, 3 Room, 4 Ticket, 5 Till, 6 Work, 7 MuseumTill -/
abbrev mcl : List vw_C := [(RJ4, TJ4, 4), (RJx4a65c, TJx4a65c, 3), (RX0, TX0, 2), (RX1, TX1, 6), (RX2, TX2, 9), (RX3, TX3, 5), (RX4, TX4, 8), (RX5, TX5, 8)]
/-- the classes of arrays -/
abbrev kTy (cy : Nat → ClassId) : List (ClassId × FieldType) := [(cy 0, .int), (cy 0, .int), (cy 2, .object RX0), (cy 3, .object RX1), (cy 4, .object RX3), (cy 5, .object "java/lang/Object"), (cy 0, .int), (cy 7, .byte)]
/-- classes' numbers and slots; array classes; the empty array that new lists share; the tables of decimal signs; the Class object of Object[] -/
abbrev GE : Type := va_G × (Nat → ClassId) × Nat × Nat × Nat × Nat
def dgO (j : Nat) : Value := .int (nI (48 + j % 10))
def dgT (j : Nat) : Value := .int (nI (48 + j / 10))
/-- texts of exceptions: class, entry, text -/
def xTx : List (String × Nat × String) := [(RX5, 286, "no such house"), (RX5, 301, "out of range"), (RX5, 304, "no more tickets"), (RX5, 291, "no such member"), (RX5, 74, "no membership"), (RX5, 83, "a MEMBER ticket of today, or none"), (RX5, 85, "no more guests today"), (RX5, 293, "no such ticket"), (RX5, 306, "not of today, or void"), (RX5, 108, "cannot be given back"), (RX5, 119, "the membership is not over"), (RX5, 289, "no such room"), (RX5, 157, "may not enter"), (RX5, 162, "in no room and in no queue"), (RX5, 177, "no more works"), (RX5, 295, "no such work"), (RX5, 194, "another house"), (RX5, 200, "lent, or its own house"), (RX5, 208, "not lent, or not its own house"), (RX5, 223, "beyond the last day"), (RX5, 297, "no such place")]
def nwCast : List (String × String) := [(RX2, "java/lang/Object"), (RX4, "java/lang/Object"), ("java/lang/IndexOutOfBoundsException", "java/lang/IndexOutOfBoundsException"), ("java/lang/IllegalArgumentException", "java/lang/IllegalArgumentException"), ("java/lang/IllegalStateException", "java/lang/IllegalStateException")]
def nwDecl : List MethodName := [⟨"java/lang/Object", "getClass", "()Ljava/lang/Class;"⟩, ⟨"java/lang/RuntimeException", "<init>", "()V"⟩, ⟨"java/lang/RuntimeException", "<init>", "(Ljava/lang/String;)V"⟩, ⟨"java/lang/Exception", "<init>", "()V"⟩, ⟨"java/lang/Exception", "<init>", "(Ljava/lang/String;)V"⟩, ⟨"java/lang/Throwable", "<init>", "()V"⟩, ⟨"java/lang/Throwable", "<init>", "(Ljava/lang/String;)V"⟩]
def nwArr : List String := [RX3, RX1, RX0, "java/lang/Object"]
/-- what holds of the tables beyond the words that keep themselves -/
def NW (mi : Nat) (U : State) : Prop := (∀ q ∈ nwCast, va_Nw (.castable q.1 q.2) U) ∧ (∀ x ∈ nwDecl, va_Nw (.declares x) U) ∧ (∀ C ∈ nwArr, va_AO C U) ∧ (va_Nw (.methodLinkNest RX5 41 yX0_init RX5) U ∧ (Cond.selects RJ4 yJ5_ensureCapacityInternal_d00df yJ5_ensureCapacityInternal_d00df).before #[] U = true) ∧ (∀ q ∈ xTx, ∃ a, vk_R q.1 q.2.1 q.2.2 a U) ∧ va_Mi "[Ljava/lang/Object;" mi U
theorem NW.warm {mi : Nat} {s U : State} (hW : s.WarmedH U.vm) (h : NW mi s) : NW mi U := by
  obtain ⟨h1, h2, h3, h4, h5, h6⟩ := h
  exact ⟨fun q hq => va_Nw.warmC hW (h1 q hq), fun x hx => va_Nw.warmD hW (h2 x hx), fun C hC => (h3 C hC).moved hW.alike, ⟨va_Nw.warmM hW h4.1, word_at hW (Or.inl (by first | rfl | simp [Cond.onTables, Cond.keeps, Cond.steady])) h4.2⟩, fun q hq => by obtain ⟨a, ha⟩ := h5 q hq; exact ⟨a, ha.warm hW⟩, h6.moved hW.alike⟩
def EN (A : Nat → Prop) (G : GE) (U : State) (H : Heap) : Prop :=
  (va_K G.1 mcl (kTy G.2.1) U ∧ NW G.2.2.2.2.2 U) ∧ (vx_Zq Bundle.tN "UNASSIGNED_STACK" Bundle.steD A U H ∧ vx_Zq Bundle.tN "SUPPRESSED_SENTINEL" Bundle.listD A U H) ∧
  (va_Z "java/util/ArrayList" "DEFAULTCAPACITY_EMPTY_ELEMENTDATA" "[Ljava/lang/Object;" (.ref G.2.2.1) A U H ∧ va_T (.object "java/lang/Object") G.2.2.1 0 (fun _ => .null) A U H) ∧
  (va_Z "java/lang/String" "COMPACT_STRINGS" "Z" (.int 1) A U H ∧ va_Zq "jdk/internal/util/Preconditions" "SIOOBE_FORMATTER" "Ljava/util/function/BiFunction;" A U H) ∧
  (va_Z "java/lang/Integer" "DigitOnes" "[B" (.ref G.2.2.2.1) A U H ∧ va_T .byte G.2.2.2.1 100 dgO A U H) ∧
  (va_Z "java/lang/Integer" "DigitTens" "[B" (.ref G.2.2.2.2.1) A U H ∧ va_T .byte G.2.2.2.2.1 100 dgT A U H)
theorem EN.warm {A : Nat → Prop} {G : GE} {s U : State} {H : Heap} (hW : s.WarmedH U.vm) (h : EN A G s H) : EN A G U H := by
  obtain ⟨⟨h1, h2⟩, ⟨h3, h4⟩, ⟨h5, h6⟩, ⟨h7, h12⟩, ⟨h8, h9⟩, h10, h11⟩ := h
  have hv := hW.alike
  exact ⟨⟨h1.moved hv, h2.warm hW⟩, ⟨h3.moved hv, h4.moved hv⟩, ⟨h5.moved hv, h6.moved hv⟩, ⟨h7.moved hv, h12.moved hv⟩, ⟨h8.moved hv, h9.moved hv⟩, h10.moved hv, h11.moved hv⟩
theorem EN.kept {A : Nat → Prop} {G : GE} {U : State} {H H1 : Heap} (h : EN A G U H) (hq : ∀ a : Nat, a < H.size → ¬ A a → H1[a]? = H[a]?) : EN A G U H1 := by
  obtain ⟨h1, ⟨h3, h4⟩, ⟨h5, h6⟩, ⟨h7, h12⟩, ⟨h8, h9⟩, h10, h11⟩ := h
  exact ⟨h1, ⟨h3.kept hq, h4.kept hq⟩, ⟨h5.kept hq, h6.kept hq⟩, ⟨h7.kept hq, h12.kept hq⟩, ⟨h8.kept hq, h9.kept hq⟩, h10.kept hq, h11.kept hq⟩
theorem EN.narrow {A B : Nat → Prop} {G : GE} {U : State} {H : Heap} (h : EN A G U H) (hAB : ∀ q, B q → A q) : EN B G U H := by
  obtain ⟨h1, ⟨h3, h4⟩, ⟨h5, h6⟩, ⟨h7, h12⟩, ⟨h8, h9⟩, h10, h11⟩ := h
  exact ⟨h1, ⟨h3.narrow hAB, h4.narrow hAB⟩, ⟨h5.narrow hAB, h6.narrow hAB⟩, ⟨h7.narrow hAB, h12.narrow hAB⟩, ⟨h8.narrow hAB, h9.narrow hAB⟩, h10.narrow hAB, h11.narrow hAB⟩
/-- nothing outside A has changed, and nothing went -/
def KF (A : Nat → Prop) (H H1 : Heap) : Prop := H.size ≤ H1.size ∧ ∀ q : Nat, q < H.size → ¬ A q → H1[q]? = H[q]?
theorem KF.old {H H1 : Heap} {z : Nat} (hz : H.size ≤ z) (h : KF (fun q => z ≤ q) H H1) {q : Nat} (hq : q < H.size) : H1[q]? = H[q]? := h.2 q hq (fun k => by omega)
/-- a room for k levels of calls -/
abbrev rmL (k mc ms : Nat) : Room := { frames := 8 * k, cells := mc, slots := ms, locals := 200 * k }
def KP (av : List Value) (A : Nat → Prop) (G : GE) (P : Heap → Prop) : Array Value → State → Prop := va_Pc av (fun U => EN A G U U.heap ∧ (∀ q, U.heap.size ≤ q → A q) ∧ P U.heap)
def KQc (A : Nat → Prop) (Q : Option Value → Heap → Prop) : Array Value → State → Outcome → State → Prop := fun _ st o t => (∃ v, o = .returned v ∧ Q v t.heap) ∧ va_F A st t
def KXc (A : Nat → Prop) (X : String → Heap → Prop) : String → State → State → Prop := fun E st t => X E t.heap ∧ va_F A st t
/-- A CONTRACT: from every heap with P the method returns v with Q v, or throws an exception of class E with X E; what isn't in A stays -/
def KM (l : Launch) (G : GE) (A : Nat → Prop) (y : MethodName) (cc : ByteArray) (n : Nat) (ret : Option FieldType) (rm : Room) (av : List Value) (P : Heap → Prop) (Q : Option Value → Heap → Prop) (X : String → Heap → Prop) : Prop :=
  vx_Met l y (.code y cc n ret :: gTb) rm (KP av A G P) (KQc A Q) (KXc A X) rm.cells rm.slots A
/-- where a method's walk ends -/
def KE (below : List Frame) (A : Nat → Prop) (Q : Option Value → Heap → Prop) (X : String → Heap → Prop) (args : Array Value) (s : State) (rm : Room) : State → Prop := vx_MQ below (KQc A Q) (KXc A X) args s rm.cells rm.slots A
/-- what a walk stands on -/
def FX (l : Launch) (p : Program) (m : MethodId) (meth : Method) (c : Code) (cc : ByteArray) (n : Nat) (ret : Option FieldType) (s : State) (args : Array Value) (y : MethodName) (A : Nat → Prop) (G : GE) : Prop :=
  CallFix p m c cc n s args gTb y.cls ∧ meth.sig.returnType = ret ∧ meth.locks = false ∧ meth.name = y.name ∧ (∀ x ∈ c.exceptionTable.toList, False) ∧ EN A G s s.heap ∧ (∀ q, s.heap.size ≤ q → A q)
theorem KM.of {l : Launch} {G : GE} {A : Nat → Prop} {y : MethodName} {cc : ByteArray} {n : Nat} {ret : Option FieldType} {rm : Room} {av : List Value} {P : Heap → Prop} {Q : Option Value → Heap → Prop} {X : String → Heap → Prop} (hy : plainName y.cls = true) (hn : (lg_sl av).length ≤ n)
    (body : ∀ (p : Program) (e : Env) (s : State) (m : MethodId) (args : Array Value) (below : List Frame) (meth : Method) (c : Code), FX l p m meth c cc n ret s args y A G → P s.heap → ∀ ls : Array Slot, lv_has ls n (lv_args 0 av) →
      W p l e rm s m args below meth c s.heap [] 0 0 (KE below A Q X args s rm) (F0 m 0 ls [])) : KM l G A y cc n ret rm av P Q X := by
  refine vx_ofW (cc := cc) (maxL := n) (ret := ret) hy rfl ?_
  intro p e s m args below meth c s₁ B hml hno hv
  obtain ⟨rfl, hE, hA, hP⟩ := hv
  have hts := atoms_spec (ws := .code y cc n ret :: gTb) B.pre
  have hown : s.vm.findClass y.cls = some m.cls := findClass_of_methodNamed B.named
  have hin : meth.name = y.name := (name_of_methodNamed B.named B.method).1
  have hl := lv_entry av hn
  rw [lg_entry_eq]
  exact body p e s m _ below meth c ⟨⟨B.exec, B.bytes, hml, hown, fun w hw => hts w (List.mem_cons_of_mem _ hw)⟩, B.returns, B.notSynchronized, hin, hno, hE, hA⟩ hP _ hl
theorem at1 {D : va_G} {cl : List vw_C} {q : Nat × va_E} {H : Heap} (h : va_at D cl q H) : va_P D cl [q] H := by
  intro k x hx
  cases k with
  | zero => cases hx; exact h
  | succ k => simp at hx
theorem atK {D : va_G} {cl : List vw_C} {q : Nat × va_E} {H H1 : Heap} {A : Nat → Prop} (h : va_at D cl q H) (k : KF A H H1) (hq : ¬ A q.1) : va_at D cl q H1 := h.kept (k.2 _ h.lt hq)
theorem EN.at {A : Nat → Prop} {G : GE} {s : State} {H : Heap} {locs : List Loc} (h : EN A G s s.heap) (hS : va_S A s.heap H locs) : EN A G s H := h.kept hS.2.1
section ROWS
variable {p : Program} {l : Launch} {e : Env} {R : Room} {s : State} {m : MethodId} {args : Array Value} {below : List Frame} {meth : Method} {c : Code} {H : Heap} {locs : List Loc} {cells slots : Nat} {Q : State → Prop}
variable {cc : ByteArray} {pc : Nat} {ls : Array Slot} {rest : List Value} {D : va_G} {cl : List vw_C} {A : Nat → Prop} {a : Nat} {tys : List (ClassId × FieldType)} {H0 : Heap}
theorem xget (hexec : p.tables.exec = Jvm.exec) (hb : c.code = cc) {own ref C : String} {T : u_T} {N ci index : Nat} {Ts : List Cond} (hts : ∀ w ∈ Ts, w.before args s = true) (hin : ∀ w ∈ u_ws C T N, w ∈ Ts) (hown : s.vm.findClass own = some m.cls) (hK : va_K D cl tys s) {fs : List Value} (he : va_at D cl (a, .inr (ci, fs)) H) (hc : cl[ci]? = some (C, T, N)) (k : Nat) (hk : k < N) (hlink : Cond.fieldLink own index ref (T k).2.1 (T k).2.2.1 ∈ Ts) (hsame : ∀ x, s.fieldFound? (T k).1 (T k).2.1 (T k).2.2.1 = some x → s.fieldFound? ref (T k).2.1 (T k).2.2.1 = some x) {v : Value} (hv : fs[k]? = some v) (hdg : decode cc pc = .ok (.getfield index, 3))
    (kk : W p l e R s m args below meth c H locs cells slots Q (F0 m (pc + 3) ls (v :: rest))) : W p l e R s m args below meth c H locs cells slots Q (F0 m pc ls (.ref a :: rest)) :=
  va_get (ws := [(a, .inr (ci, fs))]) hexec hb hts hin hown hK (at1 he) 0 rfl hc k hk (hts _ hlink) hsame hv hdg kk
theorem xput (hexec : p.tables.exec = Jvm.exec) (hb : c.code = cc) {own ref C : String} {T : u_T} {N ci index : Nat} {Ts : List Cond} (hts : ∀ w ∈ Ts, w.before args s = true) (hin : ∀ w ∈ u_ws C T N, w ∈ Ts) (ty0 : Nat → FieldType) (hty : ∀ k, k < N → parseFieldDescriptor (T k).2.2.1 = some (ty0 k)) (hnm : ∀ a, a < N → ∀ b, b < N → a ≠ b → (T a).2.1 ≠ (T b).2.1) (hown : s.vm.findClass own = some m.cls) (hK : va_K D cl tys s) (hS0 : va_S A H0 H locs) {fs : List Value} (he : va_at D cl (a, .inr (ci, fs)) H) (hA : A a) (hc : cl[ci]? = some (C, T, N)) (k : Nat) (hk : k < N) (hlink : Cond.fieldLink own index ref (T k).2.1 (T k).2.2.1 ∈ Ts) (hsame : ∀ x, s.fieldFound? (T k).1 (T k).2.1 (T k).2.2.1 = some x → s.fieldFound? ref (T k).2.1 (T k).2.2.1 = some x) (hfin : (T k).2.2.2 = false) {v : Value} (hd : parseFieldDescriptor (T k).2.2.1 = some (ty0 k)) (hn : narrow (ty0 k) v = v) (hfit : fits (ty0 k) v = true) (hl : k < fs.length)
    (hdg : decode cc pc = .ok (.putfield index, 3)) (kk : ∀ (H1 : Heap) (locs1 : List Loc), va_at D cl (a, .inr (ci, fs.set k v)) H1 → H1.size = H.size → (∀ q, q ≠ a → H1[q]? = H[q]?) → va_S A H0 H1 locs1 → W p l e R s m args below meth c H1 locs1 cells slots Q (F0 m (pc + 3) ls rest)) : W p l e R s m args below meth c H locs cells slots Q (F0 m pc ls (v :: .ref a :: rest)) := by
  have hap := va_apart (own := own) hts hin ty0 hty hnm hK hc
  obtain ⟨r, h1, cell, q1, q2, q3, q4⟩ := he
  have hr : r = (C, T, N) := Option.some.inj (h1.symm.trans hc)
  subst hr
  obtain ⟨hS, hfc, kC, hkC, hkind⟩ := hK.1 ci _ hc
  obtain ⟨cf, kf, fi, f, hi, hsl⟩ := hS k hk
  have hlay := hts _ (hin _ (u_in_lay hk))
  unfold u_lay at hlay
  rw [if_neg (by rw [hfin]; decide)] at hlay
  have hst := (u_facts hfc hkC (u_lays hts hin hk) hi).1
  have h6 := u_store hfc hkC hkind hlay hi hd hn hfit
  refine W.putK hexec hb (f := f) ⟨hown, hts _ hlink, ⟨_, _, _, hsame _ hi⟩, hst⟩ (by rw [q2]; exact h6) q1 q3 (by rw [hsl]; exact k2_hasslot (q4 k hk)) rfl rfl hdg fun H' e1 e2 e3 => ?_
  rw [hsl] at e1 ⊢
  exact kk H' _ ⟨_, hc, t_OB.to (V := updV (vp_V fs) k v) ⟨_, e1, q2, q3, t_set q4 hap hk v⟩ (fun j _ => vp_updV_set hl v j)⟩ e2 e3 (hS0.put e2 e3 hA)
theorem xputF (hexec : p.tables.exec = Jvm.exec) (hb : c.code = cc) {own ref C : String} {T : u_T} {N ci index : Nat} {Ts : List Cond} (hts : ∀ w ∈ Ts, w.before args s = true) (hin : ∀ w ∈ u_ws C T N, w ∈ Ts) (ty0 : Nat → FieldType) (hty : ∀ k, k < N → parseFieldDescriptor (T k).2.2.1 = some (ty0 k)) (hnm : ∀ a, a < N → ∀ b, b < N → a ≠ b → (T a).2.1 ≠ (T b).2.1) (hown : s.vm.findClass own = some m.cls) (hK : va_K D cl tys s) (hS0 : va_S A H0 H locs) {fs : List Value} (he : va_at D cl (a, .inr (ci, fs)) H) (hA : A a) (hc : cl[ci]? = some (C, T, N)) (k : Nat) (hk : k < N) (hlink : Cond.fieldLink own index ref (T k).2.1 (T k).2.2.1 ∈ Ts) (hsame : ∀ x, s.fieldFound? (T k).1 (T k).2.1 (T k).2.2.1 = some x → s.fieldFound? ref (T k).2.1 (T k).2.2.1 = some x) (hfin : (T k).2.2.2 = true) (hin2 : meth.name = "<init>") (hdecl : (T k).1 = own) {v : Value} (hd : parseFieldDescriptor (T k).2.2.1 = some (ty0 k)) (hn : narrow (ty0 k) v = v) (hfit : fits (ty0 k) v = true) (hl : k < fs.length)
    (hdg : decode cc pc = .ok (.putfield index, 3)) (kk : ∀ (H1 : Heap) (locs1 : List Loc), va_at D cl (a, .inr (ci, fs.set k v)) H1 → H1.size = H.size → (∀ q, q ≠ a → H1[q]? = H[q]?) → va_S A H0 H1 locs1 → W p l e R s m args below meth c H1 locs1 cells slots Q (F0 m (pc + 3) ls rest)) : W p l e R s m args below meth c H locs cells slots Q (F0 m pc ls (v :: .ref a :: rest)) := by
  have hap := va_apart (own := own) hts hin ty0 hty hnm hK hc
  obtain ⟨r, h1, cell, q1, q2, q3, q4⟩ := he
  have hr : r = (C, T, N) := Option.some.inj (h1.symm.trans hc)
  subst hr
  obtain ⟨hS, hfc, kC, hkC, hkind⟩ := hK.1 ci _ hc
  obtain ⟨cf, kf, fi, f, hi, hsl⟩ := hS k hk
  have hlay := hts _ (hin _ (u_in_lay hk))
  unfold u_lay at hlay
  rw [if_pos hfin] at hlay
  have hst := (u_facts hfc hkC (u_lays hts hin hk) hi).1
  have hcf : m.cls = cf := by
    obtain ⟨_, _, c', _, _, _, -, -, hf', -, -, -, hown2, -⟩ := Cond.laysFinal_spec hlay
    have e1 : c' = cf := by have := hi.symm.trans hf'; simp at this; exact this.1.symm
    rw [hdecl] at hown2
    rw [← e1]; exact Option.some.inj (hown.symm.trans hown2)
  have h6 := u_fits hfc hkC hkind (Or.inr hlay) hi hd hn hfit
  refine W.putFinK hexec hb hown (hts _ hlink) (hsame _ hi) hst hcf hin2 (by rw [q2]; exact h6) q1 q3 (by rw [hsl]; exact k2_hasslot (q4 k hk)) rfl rfl hdg fun H' e1 e2 e3 => ?_
  rw [hsl] at e1 ⊢
  exact kk H' _ ⟨_, hc, t_OB.to (V := updV (vp_V fs) k v) ⟨_, e1, q2, q3, t_set q4 hap hk v⟩ (fun j _ => vp_updV_set hl v j)⟩ e2 e3 (hS0.put e2 e3 hA)
theorem xiald (hexec : p.tables.exec = Jvm.exec) (hb : c.code = cc) (hK : va_K D cl tys s) {cA : ClassId} {n : Nat} {f : Nat → Int32} (ha : va_at D cl (a, .inl (cA, n, .inl f)) H) (t0 : Nat) (ht : tys[t0]? = some (cA, .int)) {k : Nat} {i : Int32} (hi : i = nI k) (hk : k < n) (hn : n < 2 ^ 31) (hdg : decode cc pc = .ok (.iaload, 1))
    (kk : W p l e R s m args below meth c H locs cells slots Q (F0 m (pc + 1) ls (.int (f k) :: rest))) : W p l e R s m args below meth c H locs cells slots Q (F0 m pc ls (.int i :: .ref a :: rest)) := by
  subst hi
  refine va_iald (ws := [(a, .inl (cA, n, .inl f))]) hexec hb hK (at1 ha) 0 t0 rfl ht (vp_in_nI hk hn) hdg ?_
  rw [nI_clamp (by omega)]
  exact kk
theorem xzald (hexec : p.tables.exec = Jvm.exec) (hb : c.code = cc) (hK : va_K D cl tys s) {cA : ClassId} {n : Nat} {f : Nat → Int32} (ha : va_at D cl (a, .inl (cA, n, .inl f)) H) (t0 : Nat) (ht : tys[t0]? = some (cA, .boolean)) {k : Nat} {i : Int32} (hi : i = nI k) (hk : k < n) (hn : n < 2 ^ 31) (hdg : decode cc pc = .ok (.baload, 1))
    (kk : W p l e R s m args below meth c H locs cells slots Q (F0 m (pc + 1) ls (.int (f k) :: rest))) : W p l e R s m args below meth c H locs cells slots Q (F0 m pc ls (.int i :: .ref a :: rest)) := by
  subst hi
  refine va_zald (ws := [(a, .inl (cA, n, .inl f))]) hexec hb hK (at1 ha) 0 t0 rfl ht (vp_in_nI hk hn) hdg ?_
  rw [nI_clamp (by omega)]
  exact kk
theorem xaald (hexec : p.tables.exec = Jvm.exec) (hb : c.code = cc) (hK : va_K D cl tys s) {cA : ClassId} {C : String} {n : Nat} {f : Nat → Option Nat} (ha : va_at D cl (a, .inl (cA, n, .inr (.inr (.inr (.inr f))))) H) (t0 : Nat) (ht : tys[t0]? = some (cA, .object C)) {k y : Nat} {i : Int32} (hi : i = nI k) (hk : k < n) (hn : n < 2 ^ 31) (hy : f k = some y) (hdg : decode cc pc = .ok (.aaload, 1))
    (kk : W p l e R s m args below meth c H locs cells slots Q (F0 m (pc + 1) ls (.ref y :: rest))) : W p l e R s m args below meth c H locs cells slots Q (F0 m pc ls (.int i :: .ref a :: rest)) := by
  subst hi
  refine va_aldq (ws := [(a, .inl (cA, n, .inr (.inr (.inr (.inr f)))))]) hexec hb hK (at1 ha) 0 t0 rfl ht (vp_in_nI hk hn) hdg ?_
  rw [nI_clamp (by omega), hy]
  exact kk
theorem xalen (hexec : p.tables.exec = Jvm.exec) (hb : c.code = cc) (hK : va_K D cl tys s) {cA : ClassId} {x : vp_A} (ha : va_at D cl (a, .inl (cA, x)) H) (t0 : Nat) {ty : FieldType} (ht : tys[t0]? = some (cA, ty)) (hdg : decode cc pc = .ok (.arraylength, 1))
    (kk : W p l e R s m args below meth c H locs cells slots Q (F0 m (pc + 1) ls (.int (nI x.1) :: rest))) : W p l e R s m args below meth c H locs cells slots Q (F0 m pc ls (.ref a :: rest)) :=
  va_alen (ws := [(a, .inl (cA, x))]) hexec hb hK (at1 ha) 0 t0 rfl ht rfl hdg kk
theorem xiast (hexec : p.tables.exec = Jvm.exec) (hb : c.code = cc) (hK : va_K D cl tys s) (hS : va_S A H0 H locs) {cA : ClassId} {n : Nat} {f : Nat → Int32} (ha : va_at D cl (a, .inl (cA, n, .inl f)) H) (hA : A a) (t0 : Nat) (ht : tys[t0]? = some (cA, .int)) {k : Nat} {i x : Int32} (hi : i = nI k) (hk : k < n) (hn : n < 2 ^ 31) (hdg : decode cc pc = .ok (.iastore, 1))
    (kk : ∀ (H1 : Heap) (locs1 : List Loc), va_at D cl (a, .inl (cA, n, .inl (upd f k x))) H1 → H1.size = H.size → (∀ q, q ≠ a → H1[q]? = H[q]?) → va_S A H0 H1 locs1 → W p l e R s m args below meth c H1 locs1 cells slots Q (F0 m (pc + 1) ls rest)) : W p l e R s m args below meth c H locs cells slots Q (F0 m pc ls (.int x :: .int i :: .ref a :: rest)) := by
  subst hi
  have hin := vp_in_nI hk hn
  refine W.iast hexec hb ha ((hK.2 t0 _ ht).1 n (fun j => .int (f j))) (fun q => by cases q) (by show ¬ (nI k < 0 ∨ (arrV _ _ _).slots.size ≤ _); rw [arrV_size]; exact hin) rfl rfl hdg fun H1 e z oq => ?_
  refine kk H1 _ ?_ z oq (hS.put z oq hA)
  show H1[a]? = some (vp_cell _ _)
  rw [e]
  rw [vp_cell_i, vp_cell_i, arrV_store, nI_clamp (by omega)]
  congr 2
  funext q
  by_cases hq : q = k
  · subst hq
    simp [updV, upd]
  · simp [updV, upd, hq]
theorem xzast (hexec : p.tables.exec = Jvm.exec) (hb : c.code = cc) (hK : va_K D cl tys s) (hS : va_S A H0 H locs) {cA : ClassId} {n : Nat} {f : Nat → Int32} (ha : va_at D cl (a, .inl (cA, n, .inl f)) H) (hA : A a) (t0 : Nat) (ht : tys[t0]? = some (cA, .boolean)) {k : Nat} {i x : Int32} (hi : i = nI k) (hk : k < n) (hn : n < 2 ^ 31) (hx : x = 0 ∨ x = 1) (hdg : decode cc pc = .ok (.bastore, 1))
    (kk : ∀ (H1 : Heap) (locs1 : List Loc), va_at D cl (a, .inl (cA, n, .inl (upd f k x))) H1 → H1.size = H.size → (∀ q, q ≠ a → H1[q]? = H[q]?) → va_S A H0 H1 locs1 → W p l e R s m args below meth c H1 locs1 cells slots Q (F0 m (pc + 1) ls rest)) : W p l e R s m args below meth c H locs cells slots Q (F0 m pc ls (.int x :: .int i :: .ref a :: rest)) := by
  subst hi
  have hin := vp_in_nI hk hn
  have hnz : narrow .boolean (.int x) = .int x := by rcases hx with h | h <;> subst h <;> rfl
  refine W.zast hexec hb ha ((hK.2 t0 _ ht).1 n (fun j => .int (f j))) (fun q => by cases q) (by show ¬ (nI k < 0 ∨ (arrV _ _ _).slots.size ≤ _); rw [arrV_size]; exact hin) rfl rfl hdg fun H1 e z oq => ?_
  refine kk H1 _ ?_ z oq (hS.put z oq hA)
  show H1[a]? = some (vp_cell _ _)
  rw [e, hnz]
  rw [vp_cell_i, vp_cell_i, arrV_store, nI_clamp (by omega)]
  congr 2
  funext q
  by_cases hq : q = k
  · subst hq
    simp [updV, upd]
  · simp [updV, upd, hq]
end ROWS
section ENDS
variable {p : Program} {l : Launch} {e : Env} {R : Room} {s : State} {m : MethodId} {args : Array Value} {below : List Frame} {meth : Method} {c : Code} {H : Heap} {locs : List Loc} {cells slots : Nat}
variable {cc : ByteArray} {pc : Nat} {ls : Array Slot} {rest : List Value} {A : Nat → Prop} {Q : Option Value → Heap → Prop} {X : String → Heap → Prop} {rm : Room}
theorem kiret {v : Int32} (hx : p.tables.exec = Jvm.exec) (hb : c.code = cc) (hr : meth.sig.returnType = some .int) (hlocks : meth.locks = false) (hS : va_S A s.heap H locs) (hc : cells ≤ rm.cells) (hs : slots ≤ rm.slots) (hdg : decode cc pc = .ok (.ireturn, 1)) (hq : Q (some (.int v)) H) : W p l e R s m args below meth c H locs cells slots (KE below A Q X args s rm) (F0 m pc ls [.int v]) :=
  W.widen hc hs (vx_ret (W.iret hx hb hr (fun t ht _ => ⟨⟨_, rfl, by rw [ht]; exact hq⟩, hS.F ht⟩) hS.2.2 hdg hlocks))
theorem kzret {v : Int32} (hx : p.tables.exec = Jvm.exec) (hb : c.code = cc) (hr : meth.sig.returnType = some .boolean) (hlocks : meth.locks = false) (hS : va_S A s.heap H locs) (hc : cells ≤ rm.cells) (hs : slots ≤ rm.slots) (hv : v = 0 ∨ v = 1) (hdg : decode cc pc = .ok (.ireturn, 1)) (hq : Q (some (.int v)) H) : W p l e R s m args below meth c H locs cells slots (KE below A Q X args s rm) (F0 m pc ls [.int v]) :=
  W.widen hc hs (vx_ret (W.zret hx hb hr (by rcases hv with h | h <;> subst h <;> rfl) (fun t ht _ => ⟨⟨_, rfl, by rw [ht]; exact hq⟩, hS.F ht⟩) hS.2.2 hdg hlocks))
theorem knret {v : Int32} {ty : FieldType} (hx : p.tables.exec = Jvm.exec) (hb : c.code = cc) (hr : meth.sig.returnType = some ty) (hn : narrow ty (.int v) = .int v) (hlocks : meth.locks = false) (hS : va_S A s.heap H locs) (hc : cells ≤ rm.cells) (hs : slots ≤ rm.slots) (hdg : decode cc pc = .ok (.ireturn, 1)) (hq : Q (some (.int v)) H) : W p l e R s m args below meth c H locs cells slots (KE below A Q X args s rm) (F0 m pc ls [.int v]) :=
  W.widen hc hs (vx_ret (W.zret hx hb hr hn (fun t ht _ => ⟨⟨_, rfl, by rw [ht]; exact hq⟩, hS.F ht⟩) hS.2.2 hdg hlocks))
theorem kvret (hx : p.tables.exec = Jvm.exec) (hb : c.code = cc) (hr : meth.sig.returnType = none) (hlocks : meth.locks = false) (hS : va_S A s.heap H locs) (hc : cells ≤ rm.cells) (hs : slots ≤ rm.slots) (hdg : decode cc pc = .ok (.return_, 1)) (hq : Q none H) : W p l e R s m args below meth c H locs cells slots (KE below A Q X args s rm) (F0 m pc ls []) :=
  W.widen hc hs (vx_ret (W.vret hx hb hr (fun t ht _ => ⟨⟨_, rfl, by rw [ht]; exact hq⟩, hS.F ht⟩) hS.2.2 hdg hlocks))
theorem karet {a : Nat} {n : String} (hx : p.tables.exec = Jvm.exec) (hb : c.code = cc) (hr : meth.sig.returnType = some (.object n)) (hlocks : meth.locks = false) (hS : va_S A s.heap H locs) (hc : cells ≤ rm.cells) (hs : slots ≤ rm.slots) (hdg : decode cc pc = .ok (.areturn, 1)) (hq : Q (some (.ref a)) H) : W p l e R s m args below meth c H locs cells slots (KE below A Q X args s rm) (F0 m pc ls [.ref a]) :=
  W.widen hc hs (vx_ret (W.aret hx hb hr (Or.inl ⟨_, rfl⟩) (Or.inr ⟨_, rfl⟩) (fun t ht _ => ⟨⟨_, rfl, by rw [ht]; exact hq⟩, hS.F ht⟩) hS.2.2 hdg hlocks))
theorem karetA {a : Nat} {n : FieldType} (hx : p.tables.exec = Jvm.exec) (hb : c.code = cc) (hr : meth.sig.returnType = some (.array n)) (hlocks : meth.locks = false) (hS : va_S A s.heap H locs) (hc : cells ≤ rm.cells) (hs : slots ≤ rm.slots) (hdg : decode cc pc = .ok (.areturn, 1)) (hq : Q (some (.ref a)) H) : W p l e R s m args below meth c H locs cells slots (KE below A Q X args s rm) (F0 m pc ls [.ref a]) :=
  W.widen hc hs (vx_ret (W.aret hx hb hr (Or.inr ⟨_, rfl⟩) (Or.inr ⟨_, rfl⟩) (fun t ht _ => ⟨⟨_, rfl, by rw [ht]; exact hq⟩, hS.F ht⟩) hS.2.2 hdg hlocks))
/-- an exception goes on to the caller -/
theorem kout {G : GE} {E : String} {ce : Cell} {q : Addr} (hno : ∀ x ∈ c.exceptionTable.toList, False) (hlocks : meth.locks = false) (hS : va_S A s.heap H locs) (hc : cells ≤ rm.cells) (hs : slots ≤ rm.slots) (hcell : H[q]? = some ce) (hv : ce.vm = .none) (hcl : s.vm.findClass E = some ce.cls) (hq : X E H) : vx_W p l e R s m args below meth c H locs cells slots (KE below A Q X args s rm) (F0 m pc ls rest) q :=
  vx_out (fun x hx => (hno x hx).elim) hlocks hcell hv hcl (fun t ht _ => ⟨by rw [ht]; exact hq, hS.F ht⟩) hS.2.2 hc hs
end ENDS
theorem KP.blind {av : List Value} {A : Nat → Prop} {G : GE} {P : Heap → Prop} : FrameBlind (KP av A G P) := by
  intro a U g mk h
  obtain ⟨h1, h2, h3, h4⟩ := h
  exact ⟨h1, EN.warm (s := U) (U := U.calling g mk a) (State.WarmedH.refl U) h2, h3, h4⟩
section CALLS
variable {p : Program} {l : Launch} {e : Env} {R : Room} {s : State} {m : MethodId} {args : Array Value} {below : List Frame} {meth : Method} {c : Code} {H : Heap} {locs : List Loc} {cells slots : Nat} {Qw : State → Prop}
variable {pc : Nat} {ls : Array Slot} {rest st0 : List Value} {a : Array Value} {A A1 : Nat → Prop} {Q : Option Value → Heap → Prop} {X : String → Heap → Prop} {rm : Room} {G : GE} {P : Heap → Prop}
theorem kpre {As : List Value} (hE : EN A G s s.heap) (hS : va_S A s.heap H locs) (h1 : ∀ q, A1 q → A q) (h2 : ∀ q, H.size ≤ q → A1 q) (hP : P H) (U : State) (hU : U.heap = H) (hW : s.WarmedH U.vm) : KP As A1 G P As.toArray U :=
  ⟨rfl, by rw [hU]; exact ((hE.at hS).narrow h1).warm hW, by rw [hU]; exact h2, by rw [hU]; exact hP⟩
/-- behind a call -/
theorem kgo {mc ms : Nat} (hr : vx_Run p l e R s m args below meth c H locs cells slots mc ms (F0 m pc ls st0) rest (KQc A1 Q a) (KXc A1 X) A1) (hS : va_S A s.heap H locs) (h1 : ∀ q, A1 q → A q)
    (kx : ∀ (E : String) (ce : Cell) (q9 : Addr) (H1 : Heap) (locs1 : List Loc), X E H1 → KF A1 H H1 → va_S A s.heap H1 locs1 → H1[q9]? = some ce → ce.vm = .none → s.vm.findClass E = some ce.cls → vx_W p l e R s m args below meth c H1 locs1 (cells + mc) (slots + ms) Qw (F0 m pc ls rest) q9)
    (kk : ∀ (v : Option Value) (H1 : Heap) (locs1 : List Loc), Q v H1 → KF A1 H H1 → va_S A s.heap H1 locs1 → W p l e R s m args below meth c H1 locs1 (cells + mc) (slots + ms) Qw (F0 m (pc + 3) ls (v.toList ++ rest))) : W p l e R s m args below meth c H locs cells slots Qw (F0 m pc ls st0) := by
  have keep : ∀ (t T' : State) (L : List Loc), T'.heap = t.heap → (∀ q ∈ L, A1 q.base) → H.size ≤ t.heap.size → (∀ q : Nat, q < H.size → ¬ A1 q → t.heap[q]? = H[q]?) → KF A1 H T'.heap ∧ va_S A s.heap T'.heap (locs ++ L) := by
    intro t T' L e1 hL hz hk
    refine ⟨⟨by rw [e1]; exact hz, fun q g1 g2 => by rw [e1]; exact hk q g1 g2⟩, ⟨Nat.le_trans hS.1 (by rw [e1]; exact hz), fun q g1 g2 => ?_, fun q hq => ?_⟩⟩
    · rw [e1, hk q (Nat.lt_of_lt_of_le g1 hS.1) (fun z => g2 (h1 q z))]
      exact hS.2.1 q g1 g2
    · rcases List.mem_append.mp hq with h | h
      · exact hS.2.2 q h
      · exact h1 _ (hL q h)
  intro T hT X9
  rcases hr T hT X9 with ⟨v, st₀, t, T', L, h0, X', hL, e1, e2, hqq, st⟩ | ⟨q, st₀, t, T', L, E, ce, h0, X', hL, e1, e2, hxx, hce, hcv, hcl, st⟩
  · obtain ⟨⟨v', hv, hq⟩, hz, hk⟩ := hqq
    cases hv
    rw [h0] at hz hk
    obtain ⟨k1, k2⟩ := keep t T' L e1 hL hz hk
    obtain ⟨t2, a1, b1⟩ := kk v T'.heap (locs ++ L) (by rw [e1]; exact hq) k1 k2 T' rfl X'
    exact ⟨t2, st t2 a1, b1⟩
  · obtain ⟨hx, hz, hk⟩ := hxx
    rw [h0] at hz hk
    obtain ⟨k1, k2⟩ := keep t T' L e1 hL hz hk
    obtain ⟨t2, a1, b1⟩ := kx E ce q T'.heap (locs ++ L) (by rw [e1]; exact hx) k1 k2 (by rw [e1]; exact hce) hcv hcl T' rfl X'
    exact ⟨t2, st.trans a1, b1⟩
variable {y : MethodName} {bytes cc : ByteArray} {maxL nL n index : Nat} {ret : Option FieldType} {own : String} {b : Addr} {As : List Value}
theorem kB (hts : ∀ w ∈ gTb, w.before args s = true) (w1 : Cond.methodLink own index y ∈ gTb) (w4 : Cond.initialized y.cls ∈ gTb) (w5 : Cond.code y bytes maxL ret ∈ gTb) (hd : y.cls ≠ "java/lang/invoke/MethodHandle" ∧ y.cls ≠ "java/lang/invoke/VarHandle" ∧ (parseMethodDescriptor y.desc).map (fun d => d.parameters.length) = some n) (hR : rm.frames + 1 ≤ R.frames ∧ 8 + (maxL + 11) + rm.locals ≤ R.locals) :
    CallB R s args own index y bytes maxL ret (.code y bytes maxL ret :: gTb) rm rm.cells rm.slots n := by
  refine ⟨rfl, rfl, hR.1, hR.2, ?_, List.mem_cons_self, hts _ w5, hts _ w4, ⟨hd.1, hd.2.1⟩, fun sig h => ?_, hts _ w1⟩
  · intro w hw a' U hW
    rcases List.mem_cons.mp hw with h | h
    · subst h
      exact gpay hts _ w5 a' U hW
    · exact gpay hts _ h a' U hW
  · have h2 := hd.2.2
    rw [h] at h2
    exact (Option.some.inj h2).symm
theorem kcallV {ret0 : Option FieldType} {y0 : MethodName} (F : FX l p m meth c cc nL ret0 s args y0 A G) (hM : KM l G A1 y bytes maxL ret rm (.ref b :: As) P Q X)
    (w1 : Cond.methodLink y0.cls index y ∈ gTb) (w2 : Cond.instanceMethod y ∈ gTb) (w3 : Cond.selects y.cls y y ∈ gTb) (w4 : Cond.initialized y.cls ∈ gTb) (w5 : Cond.code y bytes maxL ret ∈ gTb)
    (hd : y.cls ≠ "java/lang/invoke/MethodHandle" ∧ y.cls ≠ "java/lang/invoke/VarHandle" ∧ (parseMethodDescriptor y.desc).map (fun d => d.parameters.length) = some n) (hn : As.length = n) (hR : rm.frames + 1 ≤ R.frames ∧ 8 + (maxL + 11) + rm.locals ≤ R.locals)
    (hrec : ∃ cell : Cell, H[b]? = some cell ∧ cell.vm.isStatics = false ∧ s.vm.findClass y.cls = some cell.cls) (hS : va_S A s.heap H locs) (h1 : ∀ q, A1 q → A q) (h2 : ∀ q, H.size ≤ q → A1 q) (hP : P H)
    (hst : st0 = As.reverse ++ .ref b :: rest) (hls : ls.size = nL) (hW : (rest.map fun v => v.category).sum ≤ 8) (hdg : decode cc pc = .ok (.invokevirtual index, 3)) (hf : cells + rm.cells ≤ R.cells ∧ slots + rm.slots ≤ R.slots)
    (kx : ∀ (E : String) (ce : Cell) (q9 : Addr) (H1 : Heap) (locs1 : List Loc), X E H1 → KF A1 H H1 → va_S A s.heap H1 locs1 → H1[q9]? = some ce → ce.vm = .none → s.vm.findClass E = some ce.cls → vx_W p l e R s m args below meth c H1 locs1 (cells + rm.cells) (slots + rm.slots) Qw (F0 m pc ls rest) q9)
    (kk : ∀ (v : Option Value) (H1 : Heap) (locs1 : List Loc), Q v H1 → KF A1 H H1 → va_S A s.heap H1 locs1 → W p l e R s m args below meth c H1 locs1 (cells + rm.cells) (slots + rm.slots) Qw (F0 m (pc + 3) ls (v.toList ++ rest))) : W p l e R s m args below meth c H locs cells slots Qw (F0 m pc ls st0) := by
  obtain ⟨C, hr, hlocks, hnm, hno, hE, hA⟩ := F
  have hts := C.2.2.2.2
  exact kgo (vx_runV (As := As) (rest := rest) C hM ⟨kB hts w1 w4 w5 hd hR, hts _ w2, hts _ w3⟩ ⟨KP.blind, hrec, kpre hE hS h1 h2 hP⟩ rfl hn hls hst (by show 2 * 0 + _ ≤ 8; omega) hdg hf) hS h1 kx kk
theorem kcallS {ret0 : Option FieldType} {y0 : MethodName} (F : FX l p m meth c cc nL ret0 s args y0 A G) (hM : KM l G A1 y bytes maxL ret rm As P Q X)
    (w1 : Cond.methodLink y0.cls index y ∈ gTb) (w2 : Cond.static y ∈ gTb) (w4 : Cond.initialized y.cls ∈ gTb) (w5 : Cond.code y bytes maxL ret ∈ gTb)
    (hd : y.cls ≠ "java/lang/invoke/MethodHandle" ∧ y.cls ≠ "java/lang/invoke/VarHandle" ∧ (parseMethodDescriptor y.desc).map (fun d => d.parameters.length) = some n) (hn : As.length = n) (hR : rm.frames + 1 ≤ R.frames ∧ 8 + (maxL + 11) + rm.locals ≤ R.locals)
    (hS : va_S A s.heap H locs) (h1 : ∀ q, A1 q → A q) (h2 : ∀ q, H.size ≤ q → A1 q) (hP : P H)
    (hst : st0 = As.reverse ++ rest) (hls : ls.size = nL) (hW : (rest.map fun v => v.category).sum ≤ 8) (hdg : decode cc pc = .ok (.invokestatic index, 3)) (hf : cells + rm.cells ≤ R.cells ∧ slots + rm.slots ≤ R.slots)
    (kx : ∀ (E : String) (ce : Cell) (q9 : Addr) (H1 : Heap) (locs1 : List Loc), X E H1 → KF A1 H H1 → va_S A s.heap H1 locs1 → H1[q9]? = some ce → ce.vm = .none → s.vm.findClass E = some ce.cls → vx_W p l e R s m args below meth c H1 locs1 (cells + rm.cells) (slots + rm.slots) Qw (F0 m pc ls rest) q9)
    (kk : ∀ (v : Option Value) (H1 : Heap) (locs1 : List Loc), Q v H1 → KF A1 H H1 → va_S A s.heap H1 locs1 → W p l e R s m args below meth c H1 locs1 (cells + rm.cells) (slots + rm.slots) Qw (F0 m (pc + 3) ls (v.toList ++ rest))) : W p l e R s m args below meth c H locs cells slots Qw (F0 m pc ls st0) := by
  obtain ⟨C, hr, hlocks, hnm, hno, hE, hA⟩ := F
  have hts := C.2.2.2.2
  exact kgo (vx_runS (As := As) (rest := rest) C hM ⟨kB hts w1 w4 w5 hd hR, hts _ w2⟩ ⟨KP.blind, kpre hE hS h1 h2 hP⟩ rfl hn hls hst (by show 2 * 0 + _ ≤ 8; omega) hdg hf) hS h1 kx kk
theorem kcallI {ret0 : Option FieldType} {y0 : MethodName} (F : FX l p m meth c cc nL ret0 s args y0 A G) (hM : KM l G A1 y bytes maxL none rm (.ref b :: As) P Q X)
    (w1 : Cond.methodLink y0.cls index y ∈ gTb) (w2 : Cond.instanceMethod y ∈ gTb) (w4 : Cond.initialized y.cls ∈ gTb) (w5 : Cond.code y bytes maxL none ∈ gTb) (hy1 : y.name = "<init>")
    (hd : y.cls ≠ "java/lang/invoke/MethodHandle" ∧ y.cls ≠ "java/lang/invoke/VarHandle" ∧ (parseMethodDescriptor y.desc).map (fun d => d.parameters.length) = some n) (hn : As.length = n) (hR : rm.frames + 1 ≤ R.frames ∧ 8 + (maxL + 11) + rm.locals ≤ R.locals)
    (hS : va_S A s.heap H locs) (h1 : ∀ q, A1 q → A q) (h2 : ∀ q, H.size ≤ q → A1 q) (hP : P H)
    (hst : st0 = As.reverse ++ .ref b :: rest) (hls : ls.size = nL) (hW : (rest.map fun v => v.category).sum ≤ 8) (hdg : decode cc pc = .ok (.invokespecial index, 3)) (hf : cells + rm.cells ≤ R.cells ∧ slots + rm.slots ≤ R.slots)
    (kx : ∀ (E : String) (ce : Cell) (q9 : Addr) (H1 : Heap) (locs1 : List Loc), X E H1 → KF A1 H H1 → va_S A s.heap H1 locs1 → H1[q9]? = some ce → ce.vm = .none → s.vm.findClass E = some ce.cls → vx_W p l e R s m args below meth c H1 locs1 (cells + rm.cells) (slots + rm.slots) Qw (F0 m pc ls rest) q9)
    (kk : ∀ (v : Option Value) (H1 : Heap) (locs1 : List Loc), Q v H1 → KF A1 H H1 → va_S A s.heap H1 locs1 → W p l e R s m args below meth c H1 locs1 (cells + rm.cells) (slots + rm.slots) Qw (F0 m (pc + 3) ls (v.toList ++ rest))) : W p l e R s m args below meth c H locs cells slots Qw (F0 m pc ls st0) := by
  obtain ⟨C, hr, hlocks, hnm, hno, hE, hA⟩ := F
  have hts := C.2.2.2.2
  exact kgo (vx_runI (As := As) (rest := rest) C hM ⟨kB hts w1 w4 w5 hd hR, hy1, hts _ w2⟩ ⟨KP.blind, kpre hE hS h1 h2 hP⟩ rfl hn hls hst (by show 2 * 0 + _ ≤ 8; omega) hdg hf) hS h1 kx kk
end CALLS
theorem orec {A : Nat → Prop} {G : GE} {s : State} {H H0 : Heap} {a ci : Nat} {fs : List Value} {q : vw_C} (hE : EN A G s H0) (he : va_at G.1 mcl (a, .inr (ci, fs)) H) (hc : mcl[ci]? = some q) : ∃ cell : Cell, H[a]? = some cell ∧ cell.vm.isStatics = false ∧ s.vm.findClass q.1 = some cell.cls :=
  va_recv (q0 := 0) hE.1.1 (at1 he) hc rfl
theorem frec {l : Launch} {p : Program} {m : MethodId} {meth : Method} {c : Code} {cc : ByteArray} {n : Nat} {ret : Option FieldType} {s : State} {args : Array Value} {y : MethodName} {A : Nat → Prop} {G : GE} (F : FX l p m meth c cc n ret s args y A G) {H : Heap} {a ci : Nat} {fs : List Value} (he : va_at G.1 mcl (a, .inr (ci, fs)) H) (q : vw_C) (hc : mcl[ci]? = some q) : ∃ cell : Cell, H[a]? = some cell ∧ cell.vm.isStatics = false ∧ s.vm.findClass q.1 = some cell.cls :=
  orec F.2.2.2.2.2.1 he hc
/-- a family of cells: kind and place, address, contents -/
def FAM (D : va_G) (cl : List vw_C) (ad : Nat → Nat → Nat) (dm : Nat → Nat → Prop) (ce : Nat → Nat → va_E) (A : Nat → Prop) (H : Heap) : Prop :=
  (∀ k i, dm k i → va_at D cl (ad k i, ce k i) H) ∧ (∀ k i k' i', dm k i → dm k' i' → ad k i = ad k' i' → k = k' ∧ i = i') ∧ ∀ k i, dm k i → A (ad k i)
theorem FAM.put {D : va_G} {cl : List vw_C} {ad : Nat → Nat → Nat} {dm : Nat → Nat → Prop} {ce ce' : Nat → Nat → va_E} {A : Nat → Prop} {H H1 : Heap} (h : FAM D cl ad dm ce A H) {k i : Nat} (hd : dm k i) (he : va_at D cl (ad k i, ce' k i) H1) (oq : ∀ q, q ≠ ad k i → H1[q]? = H[q]?) (hce : ∀ k' i', ¬ (k' = k ∧ i' = i) → dm k' i' → ce' k' i' = ce k' i') : FAM D cl ad dm ce' A H1 := by
  refine ⟨fun k' i' hd' => ?_, h.2.1, h.2.2⟩
  by_cases e : k' = k ∧ i' = i
  · obtain ⟨e1, e2⟩ := e
    subst e1; subst e2
    exact he
  · rw [hce k' i' e hd']
    exact (h.1 k' i' hd').kept (oq _ (fun z => e (h.2.1 k' i' k i hd' hd z)))
theorem FAM.kept {D : va_G} {cl : List vw_C} {ad : Nat → Nat → Nat} {dm : Nat → Nat → Prop} {ce : Nat → Nat → va_E} {A A1 : Nat → Prop} {H H1 : Heap} (h : FAM D cl ad dm ce A H) (k : KF A1 H H1) (hA : ∀ k i, dm k i → ¬ A1 (ad k i)) : FAM D cl ad dm ce A H1 :=
  ⟨fun k' i' hd' => atK (h.1 k' i' hd') k (hA k' i' hd'), h.2.1, h.2.2⟩
theorem FAM.old {D : va_G} {cl : List vw_C} {ad : Nat → Nat → Nat} {dm : Nat → Nat → Prop} {ce : Nat → Nat → va_E} {A : Nat → Prop} {H H1 : Heap} (h : FAM D cl ad dm ce A H) (k : KF (fun q => H.size ≤ q) H H1) : FAM D cl ad dm ce A H1 :=
  h.kept k (fun k' i' hd' => Nat.not_le.mpr (h.1 k' i' hd').lt)
/-! ===== exceptions that the class throws ===== -/
abbrev exN : List String := ["java/lang/RuntimeException", "java/lang/Exception"]
abbrev exB (E : String) : List Cond := .castable E E :: nwDecl.map .declares
abbrev xIO : String := "java/lang/IndexOutOfBoundsException"
abbrev xIA : String := "java/lang/IllegalArgumentException"
abbrev xIS : String := "java/lang/IllegalStateException"
theorem exB_ok {mi : Nat} {s : State} {args : Array Value} (h : NW mi s) {E : String} (hE : (E, E) ∈ nwCast) : ∀ w ∈ exB E, w.before args s = true := by
  intro w hw
  rcases List.mem_cons.mp hw with h1 | h1
  · subst h1
    exact va_Nw.use rfl (h.1 _ hE)
  · obtain ⟨x, hx, rfl⟩ := List.mem_map.mp h1
    exact va_Nw.use rfl (h.2.1 x hx)
theorem io_good : ∀ w ∈ (vx_atS RX5 288 xIO exN).filter goodWord, w ∈ lw_tbl := by decide +kernel
theorem io_bad : ∀ w ∈ (vx_atS RX5 288 xIO exN).filter (fun w => !goodWord w), w ∈ exB xIO := by decide +kernel
theorem io_ot : ∀ w ∈ Cond.classLink RX5 284 xIO :: Cond.initialized xIO :: vx_atS RX5 288 xIO exN, vx_ot w = true := by decide +kernel
theorem ia_good : ∀ w ∈ (vx_atS RX5 303 xIA exN).filter goodWord, w ∈ lw_tbl := by decide +kernel
theorem ia_bad : ∀ w ∈ (vx_atS RX5 303 xIA exN).filter (fun w => !goodWord w), w ∈ exB xIA := by decide +kernel
theorem ia_ot : ∀ w ∈ Cond.classLink RX5 299 xIA :: Cond.initialized xIA :: vx_atS RX5 303 xIA exN, vx_ot w = true := by decide +kernel
theorem is_good : ∀ w ∈ (vx_atS RX5 76 xIS exN).filter goodWord, w ∈ lw_tbl := by decide +kernel
theorem is_bad : ∀ w ∈ (vx_atS RX5 76 xIS exN).filter (fun w => !goodWord w), w ∈ exB xIS := by decide +kernel
theorem is_ot : ∀ w ∈ Cond.classLink RX5 72 xIS :: Cond.initialized xIS :: vx_atS RX5 76 xIS exN, vx_ot w = true := by decide +kernel
theorem fgood {L : List Cond} (h : ∀ w ∈ L.filter goodWord, w ∈ lw_tbl) {s : State} {args : Array Value} (ht : ∀ w ∈ gTb, w.before args s = true) : ∀ w ∈ L.filter goodWord, w.before args s = true := fun w hw => ht w (gm (h w hw) (List.mem_filter.mp hw).2)
section THROW
variable {l : Launch} {p : Program} {e : Env} {R : Room} {s : State} {m : MethodId} {args : Array Value} {below : List Frame} {meth : Method} {c : Code} {H : Heap} {locs : List Loc} {cells slots : Nat}
variable {cc : ByteArray} {pc nL : Nat} {ls : Array Slot} {rest : List Value} {A : Nat → Prop} {G : GE} {ret : Option FieldType} {y : MethodName} {Q : Option Value → Heap → Prop} {X : String → Heap → Prop} {rm : Room}
theorem kthrow (F : FX l p m meth c cc nL ret s args y A G) (hl : l.stackTraces = false) (hS : va_S A s.heap H locs) (hls : ls.size = nL) {cls text : String} {ik is ic : Nat} (hcls : Bundle.fit cls = true) (hk : Cond.classLink y.cls ik cls ∈ gTb) (hi : Cond.initialized cls ∈ gTb) (htx : (y.cls, is, text) ∈ xTx) (hc9 : (cls, cls) ∈ nwCast)
    (g1 : ∀ w ∈ (vx_atS y.cls ic cls exN).filter goodWord, w ∈ lw_tbl) (g2 : ∀ w ∈ (vx_atS y.cls ic cls exN).filter (fun w => !goodWord w), w ∈ exB cls) (g3 : ∀ w ∈ Cond.classLink y.cls ik cls :: Cond.initialized cls :: vx_atS y.cls ic cls exN, vx_ot w = true)
    (d0 : decode cc pc = .ok (.new ik, 3)) (d3 : decode cc (pc + 3) = .ok (.dup, 1)) (d4 : decode cc (pc + 4) = .ok (.ldc is, 2)) (d6 : decode cc (pc + 6) = .ok (.invokespecial ic, 3)) (d9 : decode cc (pc + 9) = .ok (.athrow, 1))
    (hRf : 5 < R.frames) (hRl : (rest.map fun v => v.category).sum + 82 ≤ R.locals) (hRc : cells + 1 ≤ R.cells) (hRs : slots + 6 ≤ R.slots) (hc : cells + 1 ≤ rm.cells) (hs : slots + 6 ≤ rm.slots)
    (hx : ∀ H1 : Heap, H.size ≤ H1.size → (∀ q : Nat, q < H.size → H1[q]? = H[q]?) → X cls H1) : W p l e R s m args below meth c H locs cells slots (KE below A Q X args s rm) (F0 m pc ls rest) := by
  obtain ⟨⟨hx1, hb, hml, hown, hts⟩, hr, hlocks, hnm, hno, hE, hA⟩ := F
  obtain ⟨a, ha⟩ := hE.1.2.2.2.2.2.1 _ htx
  refine vx_throwS (names := exN) hx1 hb hl hown hcls (by decide +kernel) (hts _ hk) (hts _ hi) ha (vx_hat (fgood g1 hts) g2 (exB_ok hE.1.2 hc9)) g3 hE.2.1.1 hE.2.1.2 hS (hls.trans hml.symm) d0 d3 d4 d6 d9 (fun x hx => (hno x hx).elim) hRf hRl hRc hRs hlocks (fun t hv hz hq => ⟨hx _ hz hq, ?_⟩) hS.2.2 hc hs
  exact ⟨Nat.le_trans hS.1 hz, fun q h1 h2 => (hq q (Nat.lt_of_lt_of_le h1 hS.1)).trans (hS.2.1 q h1 h2)⟩
theorem kthrowW (F : FX l p m meth c cc nL ret s args y A G) (hl : l.stackTraces = false) (hS : va_S A s.heap H locs) (hls : ls.size = nL) {cls text : String} {ik is ic : Nat} (hcls : Bundle.fit cls = true) (hk : Cond.classLink y.cls ik cls ∈ gTb) (hi : Cond.initialized cls ∈ gTb) (htx : (y.cls, is, text) ∈ xTx) (hc9 : (cls, cls) ∈ nwCast)
    (g1 : ∀ w ∈ (vx_atS y.cls ic cls exN).filter goodWord, w ∈ lw_tbl) (g2 : ∀ w ∈ (vx_atS y.cls ic cls exN).filter (fun w => !goodWord w), w ∈ exB cls) (g3 : ∀ w ∈ Cond.classLink y.cls ik cls :: Cond.initialized cls :: vx_atS y.cls ic cls exN, vx_ot w = true)
    (d0 : decode cc pc = .ok (.new ik, 3)) (d3 : decode cc (pc + 3) = .ok (.dup, 1)) (d4 : decode cc (pc + 4) = .ok (.ldc_w is, 3)) (d7 : decode cc (pc + 7) = .ok (.invokespecial ic, 3)) (d10 : decode cc (pc + 10) = .ok (.athrow, 1))
    (hRf : 5 < R.frames) (hRl : (rest.map fun v => v.category).sum + 82 ≤ R.locals) (hRc : cells + 1 ≤ R.cells) (hRs : slots + 6 ≤ R.slots) (hc : cells + 1 ≤ rm.cells) (hs : slots + 6 ≤ rm.slots)
    (hx : ∀ H1 : Heap, H.size ≤ H1.size → (∀ q : Nat, q < H.size → H1[q]? = H[q]?) → X cls H1) : W p l e R s m args below meth c H locs cells slots (KE below A Q X args s rm) (F0 m pc ls rest) := by
  obtain ⟨⟨hx1, hb, hml, hown, hts⟩, hr, hlocks, hnm, hno, hE, hA⟩ := F
  obtain ⟨a, ha⟩ := hE.1.2.2.2.2.2.1 _ htx
  refine vx_throwSW (names := exN) hx1 hb hl hown hcls (by decide +kernel) (hts _ hk) (hts _ hi) ha (vx_hat (fgood g1 hts) g2 (exB_ok hE.1.2 hc9)) g3 hE.2.1.1 hE.2.1.2 hS (hls.trans hml.symm) d0 d3 d4 d7 d10 (fun x hx => (hno x hx).elim) hRf hRl hRc hRs hlocks (fun t hv hz hq => ⟨hx _ hz hq, ?_⟩) hS.2.2 hc hs
  exact ⟨Nat.le_trans hS.1 hz, fun q h1 h2 => (hq q (Nat.lt_of_lt_of_le h1 hS.1)).trans (hS.2.1 q h1 h2)⟩
end THROW
section CLS
variable {l : Launch} {p : Program} {e : Env} {R : Room} {s : State} {m : MethodId} {args : Array Value} {below : List Frame} {meth : Method} {c : Code} {H : Heap} {locs : List Loc} {cells slots : Nat} {Q : State → Prop}
variable {cc : ByteArray} {pc nL : Nat} {ls : Array Slot} {rest : List Value} {A : Nat → Prop} {a : Nat} {G : GE} {ret : Option FieldType} {y : MethodName}
theorem gX0 (F : FX l p m meth c cc nL ret s args y A G) {fs : List Value} (he : va_at G.1 mcl (a, .inr (2, fs)) H) (k : Nat) (hk : k < 2) {index : Nat} {ref : String} (hlink : Cond.fieldLink y.cls index ref (TX0 k).2.1 (TX0 k).2.2.1 ∈ gTb) (hsame : ∀ x, s.fieldFound? (TX0 k).1 (TX0 k).2.1 (TX0 k).2.2.1 = some x → s.fieldFound? ref (TX0 k).2.1 (TX0 k).2.2.1 = some x) {v : Value} (hv : fs[k]? = some v) (hdg : decode cc pc = .ok (.getfield index, 3))
    (kk : W p l e R s m args below meth c H locs cells slots Q (F0 m (pc + 3) ls (v :: rest))) : W p l e R s m args below meth c H locs cells slots Q (F0 m pc ls (.ref a :: rest)) :=
  xget F.1.1 F.1.2.1 F.1.2.2.2.2 inG_X0 F.1.2.2.2.1 F.2.2.2.2.2.1.1.1 he (show mcl[2]? = some (RX0, TX0, 2) from rfl) k hk hlink hsame hv hdg kk
theorem pX0 (F : FX l p m meth c cc nL ret s args y A G) (hS : va_S A s.heap H locs) {fs : List Value} (he : va_at G.1 mcl (a, .inr (2, fs)) H) (hA : A a) (k : Nat) (hk : k < 2) {index : Nat} {ref : String} (hlink : Cond.fieldLink y.cls index ref (TX0 k).2.1 (TX0 k).2.2.1 ∈ gTb) (hsame : ∀ x, s.fieldFound? (TX0 k).1 (TX0 k).2.1 (TX0 k).2.2.1 = some x → s.fieldFound? ref (TX0 k).2.1 (TX0 k).2.2.1 = some x) (hfin : (TX0 k).2.2.2 = false) {v : Value} (hn : narrow (tyX0 k) v = v) (hfit : fits (tyX0 k) v = true) (hl : k < fs.length) (hdg : decode cc pc = .ok (.putfield index, 3))
    (kk : ∀ (H1 : Heap) (locs1 : List Loc), va_at G.1 mcl (a, .inr (2, fs.set k v)) H1 → H1.size = H.size → (∀ q, q ≠ a → H1[q]? = H[q]?) → va_S A s.heap H1 locs1 → W p l e R s m args below meth c H1 locs1 cells slots Q (F0 m (pc + 3) ls rest)) : W p l e R s m args below meth c H locs cells slots Q (F0 m pc ls (v :: .ref a :: rest)) :=
  xput F.1.1 F.1.2.1 F.1.2.2.2.2 inG_X0 tyX0 tyX0_ok nmX0 F.1.2.2.2.1 F.2.2.2.2.2.1.1.1 hS he hA (show mcl[2]? = some (RX0, TX0, 2) from rfl) k hk hlink hsame hfin (tyX0_ok k hk) hn hfit hl hdg kk
theorem pfX0 (F : FX l p m meth c cc nL ret s args y A G) (hS : va_S A s.heap H locs) {fs : List Value} (he : va_at G.1 mcl (a, .inr (2, fs)) H) (hA : A a) (k : Nat) (hk : k < 2) {index : Nat} {ref : String} (hlink : Cond.fieldLink y.cls index ref (TX0 k).2.1 (TX0 k).2.2.1 ∈ gTb) (hsame : ∀ x, s.fieldFound? (TX0 k).1 (TX0 k).2.1 (TX0 k).2.2.1 = some x → s.fieldFound? ref (TX0 k).2.1 (TX0 k).2.2.1 = some x) (hfin : (TX0 k).2.2.2 = true) (hin : y.name = "<init>") (hdecl : (TX0 k).1 = y.cls) {v : Value} (hn : narrow (tyX0 k) v = v) (hfit : fits (tyX0 k) v = true) (hl : k < fs.length) (hdg : decode cc pc = .ok (.putfield index, 3))
    (kk : ∀ (H1 : Heap) (locs1 : List Loc), va_at G.1 mcl (a, .inr (2, fs.set k v)) H1 → H1.size = H.size → (∀ q, q ≠ a → H1[q]? = H[q]?) → va_S A s.heap H1 locs1 → W p l e R s m args below meth c H1 locs1 cells slots Q (F0 m (pc + 3) ls rest)) : W p l e R s m args below meth c H locs cells slots Q (F0 m pc ls (v :: .ref a :: rest)) :=
  xputF F.1.1 F.1.2.1 F.1.2.2.2.2 inG_X0 tyX0 tyX0_ok nmX0 F.1.2.2.2.1 F.2.2.2.2.2.1.1.1 hS he hA (show mcl[2]? = some (RX0, TX0, 2) from rfl) k hk hlink hsame hfin (F.2.2.2.1.trans hin) hdecl (tyX0_ok k hk) hn hfit hl hdg kk
theorem gX1 (F : FX l p m meth c cc nL ret s args y A G) {fs : List Value} (he : va_at G.1 mcl (a, .inr (3, fs)) H) (k : Nat) (hk : k < 6) {index : Nat} {ref : String} (hlink : Cond.fieldLink y.cls index ref (TX1 k).2.1 (TX1 k).2.2.1 ∈ gTb) (hsame : ∀ x, s.fieldFound? (TX1 k).1 (TX1 k).2.1 (TX1 k).2.2.1 = some x → s.fieldFound? ref (TX1 k).2.1 (TX1 k).2.2.1 = some x) {v : Value} (hv : fs[k]? = some v) (hdg : decode cc pc = .ok (.getfield index, 3))
    (kk : W p l e R s m args below meth c H locs cells slots Q (F0 m (pc + 3) ls (v :: rest))) : W p l e R s m args below meth c H locs cells slots Q (F0 m pc ls (.ref a :: rest)) :=
  xget F.1.1 F.1.2.1 F.1.2.2.2.2 inG_X1 F.1.2.2.2.1 F.2.2.2.2.2.1.1.1 he (show mcl[3]? = some (RX1, TX1, 6) from rfl) k hk hlink hsame hv hdg kk
theorem pX1 (F : FX l p m meth c cc nL ret s args y A G) (hS : va_S A s.heap H locs) {fs : List Value} (he : va_at G.1 mcl (a, .inr (3, fs)) H) (hA : A a) (k : Nat) (hk : k < 6) {index : Nat} {ref : String} (hlink : Cond.fieldLink y.cls index ref (TX1 k).2.1 (TX1 k).2.2.1 ∈ gTb) (hsame : ∀ x, s.fieldFound? (TX1 k).1 (TX1 k).2.1 (TX1 k).2.2.1 = some x → s.fieldFound? ref (TX1 k).2.1 (TX1 k).2.2.1 = some x) (hfin : (TX1 k).2.2.2 = false) {v : Value} (hn : narrow (tyX1 k) v = v) (hfit : fits (tyX1 k) v = true) (hl : k < fs.length) (hdg : decode cc pc = .ok (.putfield index, 3))
    (kk : ∀ (H1 : Heap) (locs1 : List Loc), va_at G.1 mcl (a, .inr (3, fs.set k v)) H1 → H1.size = H.size → (∀ q, q ≠ a → H1[q]? = H[q]?) → va_S A s.heap H1 locs1 → W p l e R s m args below meth c H1 locs1 cells slots Q (F0 m (pc + 3) ls rest)) : W p l e R s m args below meth c H locs cells slots Q (F0 m pc ls (v :: .ref a :: rest)) :=
  xput F.1.1 F.1.2.1 F.1.2.2.2.2 inG_X1 tyX1 tyX1_ok nmX1 F.1.2.2.2.1 F.2.2.2.2.2.1.1.1 hS he hA (show mcl[3]? = some (RX1, TX1, 6) from rfl) k hk hlink hsame hfin (tyX1_ok k hk) hn hfit hl hdg kk
theorem pfX1 (F : FX l p m meth c cc nL ret s args y A G) (hS : va_S A s.heap H locs) {fs : List Value} (he : va_at G.1 mcl (a, .inr (3, fs)) H) (hA : A a) (k : Nat) (hk : k < 6) {index : Nat} {ref : String} (hlink : Cond.fieldLink y.cls index ref (TX1 k).2.1 (TX1 k).2.2.1 ∈ gTb) (hsame : ∀ x, s.fieldFound? (TX1 k).1 (TX1 k).2.1 (TX1 k).2.2.1 = some x → s.fieldFound? ref (TX1 k).2.1 (TX1 k).2.2.1 = some x) (hfin : (TX1 k).2.2.2 = true) (hin : y.name = "<init>") (hdecl : (TX1 k).1 = y.cls) {v : Value} (hn : narrow (tyX1 k) v = v) (hfit : fits (tyX1 k) v = true) (hl : k < fs.length) (hdg : decode cc pc = .ok (.putfield index, 3))
    (kk : ∀ (H1 : Heap) (locs1 : List Loc), va_at G.1 mcl (a, .inr (3, fs.set k v)) H1 → H1.size = H.size → (∀ q, q ≠ a → H1[q]? = H[q]?) → va_S A s.heap H1 locs1 → W p l e R s m args below meth c H1 locs1 cells slots Q (F0 m (pc + 3) ls rest)) : W p l e R s m args below meth c H locs cells slots Q (F0 m pc ls (v :: .ref a :: rest)) :=
  xputF F.1.1 F.1.2.1 F.1.2.2.2.2 inG_X1 tyX1 tyX1_ok nmX1 F.1.2.2.2.1 F.2.2.2.2.2.1.1.1 hS he hA (show mcl[3]? = some (RX1, TX1, 6) from rfl) k hk hlink hsame hfin (F.2.2.2.1.trans hin) hdecl (tyX1_ok k hk) hn hfit hl hdg kk
theorem gX2 (F : FX l p m meth c cc nL ret s args y A G) {fs : List Value} (he : va_at G.1 mcl (a, .inr (4, fs)) H) (k : Nat) (hk : k < 9) {index : Nat} {ref : String} (hlink : Cond.fieldLink y.cls index ref (TX2 k).2.1 (TX2 k).2.2.1 ∈ gTb) (hsame : ∀ x, s.fieldFound? (TX2 k).1 (TX2 k).2.1 (TX2 k).2.2.1 = some x → s.fieldFound? ref (TX2 k).2.1 (TX2 k).2.2.1 = some x) {v : Value} (hv : fs[k]? = some v) (hdg : decode cc pc = .ok (.getfield index, 3))
    (kk : W p l e R s m args below meth c H locs cells slots Q (F0 m (pc + 3) ls (v :: rest))) : W p l e R s m args below meth c H locs cells slots Q (F0 m pc ls (.ref a :: rest)) :=
  xget F.1.1 F.1.2.1 F.1.2.2.2.2 inG_X2 F.1.2.2.2.1 F.2.2.2.2.2.1.1.1 he (show mcl[4]? = some (RX2, TX2, 9) from rfl) k hk hlink hsame hv hdg kk
theorem pX2 (F : FX l p m meth c cc nL ret s args y A G) (hS : va_S A s.heap H locs) {fs : List Value} (he : va_at G.1 mcl (a, .inr (4, fs)) H) (hA : A a) (k : Nat) (hk : k < 9) {index : Nat} {ref : String} (hlink : Cond.fieldLink y.cls index ref (TX2 k).2.1 (TX2 k).2.2.1 ∈ gTb) (hsame : ∀ x, s.fieldFound? (TX2 k).1 (TX2 k).2.1 (TX2 k).2.2.1 = some x → s.fieldFound? ref (TX2 k).2.1 (TX2 k).2.2.1 = some x) (hfin : (TX2 k).2.2.2 = false) {v : Value} (hn : narrow (tyX2 k) v = v) (hfit : fits (tyX2 k) v = true) (hl : k < fs.length) (hdg : decode cc pc = .ok (.putfield index, 3))
    (kk : ∀ (H1 : Heap) (locs1 : List Loc), va_at G.1 mcl (a, .inr (4, fs.set k v)) H1 → H1.size = H.size → (∀ q, q ≠ a → H1[q]? = H[q]?) → va_S A s.heap H1 locs1 → W p l e R s m args below meth c H1 locs1 cells slots Q (F0 m (pc + 3) ls rest)) : W p l e R s m args below meth c H locs cells slots Q (F0 m pc ls (v :: .ref a :: rest)) :=
  xput F.1.1 F.1.2.1 F.1.2.2.2.2 inG_X2 tyX2 tyX2_ok nmX2 F.1.2.2.2.1 F.2.2.2.2.2.1.1.1 hS he hA (show mcl[4]? = some (RX2, TX2, 9) from rfl) k hk hlink hsame hfin (tyX2_ok k hk) hn hfit hl hdg kk
theorem pfX2 (F : FX l p m meth c cc nL ret s args y A G) (hS : va_S A s.heap H locs) {fs : List Value} (he : va_at G.1 mcl (a, .inr (4, fs)) H) (hA : A a) (k : Nat) (hk : k < 9) {index : Nat} {ref : String} (hlink : Cond.fieldLink y.cls index ref (TX2 k).2.1 (TX2 k).2.2.1 ∈ gTb) (hsame : ∀ x, s.fieldFound? (TX2 k).1 (TX2 k).2.1 (TX2 k).2.2.1 = some x → s.fieldFound? ref (TX2 k).2.1 (TX2 k).2.2.1 = some x) (hfin : (TX2 k).2.2.2 = true) (hin : y.name = "<init>") (hdecl : (TX2 k).1 = y.cls) {v : Value} (hn : narrow (tyX2 k) v = v) (hfit : fits (tyX2 k) v = true) (hl : k < fs.length) (hdg : decode cc pc = .ok (.putfield index, 3))
    (kk : ∀ (H1 : Heap) (locs1 : List Loc), va_at G.1 mcl (a, .inr (4, fs.set k v)) H1 → H1.size = H.size → (∀ q, q ≠ a → H1[q]? = H[q]?) → va_S A s.heap H1 locs1 → W p l e R s m args below meth c H1 locs1 cells slots Q (F0 m (pc + 3) ls rest)) : W p l e R s m args below meth c H locs cells slots Q (F0 m pc ls (v :: .ref a :: rest)) :=
  xputF F.1.1 F.1.2.1 F.1.2.2.2.2 inG_X2 tyX2 tyX2_ok nmX2 F.1.2.2.2.1 F.2.2.2.2.2.1.1.1 hS he hA (show mcl[4]? = some (RX2, TX2, 9) from rfl) k hk hlink hsame hfin (F.2.2.2.1.trans hin) hdecl (tyX2_ok k hk) hn hfit hl hdg kk
theorem gX3 (F : FX l p m meth c cc nL ret s args y A G) {fs : List Value} (he : va_at G.1 mcl (a, .inr (5, fs)) H) (k : Nat) (hk : k < 5) {index : Nat} {ref : String} (hlink : Cond.fieldLink y.cls index ref (TX3 k).2.1 (TX3 k).2.2.1 ∈ gTb) (hsame : ∀ x, s.fieldFound? (TX3 k).1 (TX3 k).2.1 (TX3 k).2.2.1 = some x → s.fieldFound? ref (TX3 k).2.1 (TX3 k).2.2.1 = some x) {v : Value} (hv : fs[k]? = some v) (hdg : decode cc pc = .ok (.getfield index, 3))
    (kk : W p l e R s m args below meth c H locs cells slots Q (F0 m (pc + 3) ls (v :: rest))) : W p l e R s m args below meth c H locs cells slots Q (F0 m pc ls (.ref a :: rest)) :=
  xget F.1.1 F.1.2.1 F.1.2.2.2.2 inG_X3 F.1.2.2.2.1 F.2.2.2.2.2.1.1.1 he (show mcl[5]? = some (RX3, TX3, 5) from rfl) k hk hlink hsame hv hdg kk
theorem pX3 (F : FX l p m meth c cc nL ret s args y A G) (hS : va_S A s.heap H locs) {fs : List Value} (he : va_at G.1 mcl (a, .inr (5, fs)) H) (hA : A a) (k : Nat) (hk : k < 5) {index : Nat} {ref : String} (hlink : Cond.fieldLink y.cls index ref (TX3 k).2.1 (TX3 k).2.2.1 ∈ gTb) (hsame : ∀ x, s.fieldFound? (TX3 k).1 (TX3 k).2.1 (TX3 k).2.2.1 = some x → s.fieldFound? ref (TX3 k).2.1 (TX3 k).2.2.1 = some x) (hfin : (TX3 k).2.2.2 = false) {v : Value} (hn : narrow (tyX3 k) v = v) (hfit : fits (tyX3 k) v = true) (hl : k < fs.length) (hdg : decode cc pc = .ok (.putfield index, 3))
    (kk : ∀ (H1 : Heap) (locs1 : List Loc), va_at G.1 mcl (a, .inr (5, fs.set k v)) H1 → H1.size = H.size → (∀ q, q ≠ a → H1[q]? = H[q]?) → va_S A s.heap H1 locs1 → W p l e R s m args below meth c H1 locs1 cells slots Q (F0 m (pc + 3) ls rest)) : W p l e R s m args below meth c H locs cells slots Q (F0 m pc ls (v :: .ref a :: rest)) :=
  xput F.1.1 F.1.2.1 F.1.2.2.2.2 inG_X3 tyX3 tyX3_ok nmX3 F.1.2.2.2.1 F.2.2.2.2.2.1.1.1 hS he hA (show mcl[5]? = some (RX3, TX3, 5) from rfl) k hk hlink hsame hfin (tyX3_ok k hk) hn hfit hl hdg kk
theorem pfX3 (F : FX l p m meth c cc nL ret s args y A G) (hS : va_S A s.heap H locs) {fs : List Value} (he : va_at G.1 mcl (a, .inr (5, fs)) H) (hA : A a) (k : Nat) (hk : k < 5) {index : Nat} {ref : String} (hlink : Cond.fieldLink y.cls index ref (TX3 k).2.1 (TX3 k).2.2.1 ∈ gTb) (hsame : ∀ x, s.fieldFound? (TX3 k).1 (TX3 k).2.1 (TX3 k).2.2.1 = some x → s.fieldFound? ref (TX3 k).2.1 (TX3 k).2.2.1 = some x) (hfin : (TX3 k).2.2.2 = true) (hin : y.name = "<init>") (hdecl : (TX3 k).1 = y.cls) {v : Value} (hn : narrow (tyX3 k) v = v) (hfit : fits (tyX3 k) v = true) (hl : k < fs.length) (hdg : decode cc pc = .ok (.putfield index, 3))
    (kk : ∀ (H1 : Heap) (locs1 : List Loc), va_at G.1 mcl (a, .inr (5, fs.set k v)) H1 → H1.size = H.size → (∀ q, q ≠ a → H1[q]? = H[q]?) → va_S A s.heap H1 locs1 → W p l e R s m args below meth c H1 locs1 cells slots Q (F0 m (pc + 3) ls rest)) : W p l e R s m args below meth c H locs cells slots Q (F0 m pc ls (v :: .ref a :: rest)) :=
  xputF F.1.1 F.1.2.1 F.1.2.2.2.2 inG_X3 tyX3 tyX3_ok nmX3 F.1.2.2.2.1 F.2.2.2.2.2.1.1.1 hS he hA (show mcl[5]? = some (RX3, TX3, 5) from rfl) k hk hlink hsame hfin (F.2.2.2.1.trans hin) hdecl (tyX3_ok k hk) hn hfit hl hdg kk
theorem gX4 (F : FX l p m meth c cc nL ret s args y A G) {fs : List Value} (he : va_at G.1 mcl (a, .inr (6, fs)) H) (k : Nat) (hk : k < 8) {index : Nat} {ref : String} (hlink : Cond.fieldLink y.cls index ref (TX4 k).2.1 (TX4 k).2.2.1 ∈ gTb) (hsame : ∀ x, s.fieldFound? (TX4 k).1 (TX4 k).2.1 (TX4 k).2.2.1 = some x → s.fieldFound? ref (TX4 k).2.1 (TX4 k).2.2.1 = some x) {v : Value} (hv : fs[k]? = some v) (hdg : decode cc pc = .ok (.getfield index, 3))
    (kk : W p l e R s m args below meth c H locs cells slots Q (F0 m (pc + 3) ls (v :: rest))) : W p l e R s m args below meth c H locs cells slots Q (F0 m pc ls (.ref a :: rest)) :=
  xget F.1.1 F.1.2.1 F.1.2.2.2.2 inG_X4 F.1.2.2.2.1 F.2.2.2.2.2.1.1.1 he (show mcl[6]? = some (RX4, TX4, 8) from rfl) k hk hlink hsame hv hdg kk
theorem pX4 (F : FX l p m meth c cc nL ret s args y A G) (hS : va_S A s.heap H locs) {fs : List Value} (he : va_at G.1 mcl (a, .inr (6, fs)) H) (hA : A a) (k : Nat) (hk : k < 8) {index : Nat} {ref : String} (hlink : Cond.fieldLink y.cls index ref (TX4 k).2.1 (TX4 k).2.2.1 ∈ gTb) (hsame : ∀ x, s.fieldFound? (TX4 k).1 (TX4 k).2.1 (TX4 k).2.2.1 = some x → s.fieldFound? ref (TX4 k).2.1 (TX4 k).2.2.1 = some x) (hfin : (TX4 k).2.2.2 = false) {v : Value} (hn : narrow (tyX4 k) v = v) (hfit : fits (tyX4 k) v = true) (hl : k < fs.length) (hdg : decode cc pc = .ok (.putfield index, 3))
    (kk : ∀ (H1 : Heap) (locs1 : List Loc), va_at G.1 mcl (a, .inr (6, fs.set k v)) H1 → H1.size = H.size → (∀ q, q ≠ a → H1[q]? = H[q]?) → va_S A s.heap H1 locs1 → W p l e R s m args below meth c H1 locs1 cells slots Q (F0 m (pc + 3) ls rest)) : W p l e R s m args below meth c H locs cells slots Q (F0 m pc ls (v :: .ref a :: rest)) :=
  xput F.1.1 F.1.2.1 F.1.2.2.2.2 inG_X4 tyX4 tyX4_ok nmX4 F.1.2.2.2.1 F.2.2.2.2.2.1.1.1 hS he hA (show mcl[6]? = some (RX4, TX4, 8) from rfl) k hk hlink hsame hfin (tyX4_ok k hk) hn hfit hl hdg kk
theorem pfX4 (F : FX l p m meth c cc nL ret s args y A G) (hS : va_S A s.heap H locs) {fs : List Value} (he : va_at G.1 mcl (a, .inr (6, fs)) H) (hA : A a) (k : Nat) (hk : k < 8) {index : Nat} {ref : String} (hlink : Cond.fieldLink y.cls index ref (TX4 k).2.1 (TX4 k).2.2.1 ∈ gTb) (hsame : ∀ x, s.fieldFound? (TX4 k).1 (TX4 k).2.1 (TX4 k).2.2.1 = some x → s.fieldFound? ref (TX4 k).2.1 (TX4 k).2.2.1 = some x) (hfin : (TX4 k).2.2.2 = true) (hin : y.name = "<init>") (hdecl : (TX4 k).1 = y.cls) {v : Value} (hn : narrow (tyX4 k) v = v) (hfit : fits (tyX4 k) v = true) (hl : k < fs.length) (hdg : decode cc pc = .ok (.putfield index, 3))
    (kk : ∀ (H1 : Heap) (locs1 : List Loc), va_at G.1 mcl (a, .inr (6, fs.set k v)) H1 → H1.size = H.size → (∀ q, q ≠ a → H1[q]? = H[q]?) → va_S A s.heap H1 locs1 → W p l e R s m args below meth c H1 locs1 cells slots Q (F0 m (pc + 3) ls rest)) : W p l e R s m args below meth c H locs cells slots Q (F0 m pc ls (v :: .ref a :: rest)) :=
  xputF F.1.1 F.1.2.1 F.1.2.2.2.2 inG_X4 tyX4 tyX4_ok nmX4 F.1.2.2.2.1 F.2.2.2.2.2.1.1.1 hS he hA (show mcl[6]? = some (RX4, TX4, 8) from rfl) k hk hlink hsame hfin (F.2.2.2.1.trans hin) hdecl (tyX4_ok k hk) hn hfit hl hdg kk
theorem gX5 (F : FX l p m meth c cc nL ret s args y A G) {fs : List Value} (he : va_at G.1 mcl (a, .inr (7, fs)) H) (k : Nat) (hk : k < 8) {index : Nat} {ref : String} (hlink : Cond.fieldLink y.cls index ref (TX5 k).2.1 (TX5 k).2.2.1 ∈ gTb) (hsame : ∀ x, s.fieldFound? (TX5 k).1 (TX5 k).2.1 (TX5 k).2.2.1 = some x → s.fieldFound? ref (TX5 k).2.1 (TX5 k).2.2.1 = some x) {v : Value} (hv : fs[k]? = some v) (hdg : decode cc pc = .ok (.getfield index, 3))
    (kk : W p l e R s m args below meth c H locs cells slots Q (F0 m (pc + 3) ls (v :: rest))) : W p l e R s m args below meth c H locs cells slots Q (F0 m pc ls (.ref a :: rest)) :=
  xget F.1.1 F.1.2.1 F.1.2.2.2.2 inG_X5 F.1.2.2.2.1 F.2.2.2.2.2.1.1.1 he (show mcl[7]? = some (RX5, TX5, 8) from rfl) k hk hlink hsame hv hdg kk
theorem pX5 (F : FX l p m meth c cc nL ret s args y A G) (hS : va_S A s.heap H locs) {fs : List Value} (he : va_at G.1 mcl (a, .inr (7, fs)) H) (hA : A a) (k : Nat) (hk : k < 8) {index : Nat} {ref : String} (hlink : Cond.fieldLink y.cls index ref (TX5 k).2.1 (TX5 k).2.2.1 ∈ gTb) (hsame : ∀ x, s.fieldFound? (TX5 k).1 (TX5 k).2.1 (TX5 k).2.2.1 = some x → s.fieldFound? ref (TX5 k).2.1 (TX5 k).2.2.1 = some x) (hfin : (TX5 k).2.2.2 = false) {v : Value} (hn : narrow (tyX5 k) v = v) (hfit : fits (tyX5 k) v = true) (hl : k < fs.length) (hdg : decode cc pc = .ok (.putfield index, 3))
    (kk : ∀ (H1 : Heap) (locs1 : List Loc), va_at G.1 mcl (a, .inr (7, fs.set k v)) H1 → H1.size = H.size → (∀ q, q ≠ a → H1[q]? = H[q]?) → va_S A s.heap H1 locs1 → W p l e R s m args below meth c H1 locs1 cells slots Q (F0 m (pc + 3) ls rest)) : W p l e R s m args below meth c H locs cells slots Q (F0 m pc ls (v :: .ref a :: rest)) :=
  xput F.1.1 F.1.2.1 F.1.2.2.2.2 inG_X5 tyX5 tyX5_ok nmX5 F.1.2.2.2.1 F.2.2.2.2.2.1.1.1 hS he hA (show mcl[7]? = some (RX5, TX5, 8) from rfl) k hk hlink hsame hfin (tyX5_ok k hk) hn hfit hl hdg kk
theorem pfX5 (F : FX l p m meth c cc nL ret s args y A G) (hS : va_S A s.heap H locs) {fs : List Value} (he : va_at G.1 mcl (a, .inr (7, fs)) H) (hA : A a) (k : Nat) (hk : k < 8) {index : Nat} {ref : String} (hlink : Cond.fieldLink y.cls index ref (TX5 k).2.1 (TX5 k).2.2.1 ∈ gTb) (hsame : ∀ x, s.fieldFound? (TX5 k).1 (TX5 k).2.1 (TX5 k).2.2.1 = some x → s.fieldFound? ref (TX5 k).2.1 (TX5 k).2.2.1 = some x) (hfin : (TX5 k).2.2.2 = true) (hin : y.name = "<init>") (hdecl : (TX5 k).1 = y.cls) {v : Value} (hn : narrow (tyX5 k) v = v) (hfit : fits (tyX5 k) v = true) (hl : k < fs.length) (hdg : decode cc pc = .ok (.putfield index, 3))
    (kk : ∀ (H1 : Heap) (locs1 : List Loc), va_at G.1 mcl (a, .inr (7, fs.set k v)) H1 → H1.size = H.size → (∀ q, q ≠ a → H1[q]? = H[q]?) → va_S A s.heap H1 locs1 → W p l e R s m args below meth c H1 locs1 cells slots Q (F0 m (pc + 3) ls rest)) : W p l e R s m args below meth c H locs cells slots Q (F0 m pc ls (v :: .ref a :: rest)) :=
  xputF F.1.1 F.1.2.1 F.1.2.2.2.2 inG_X5 tyX5 tyX5_ok nmX5 F.1.2.2.2.1 F.2.2.2.2.2.1.1.1 hS he hA (show mcl[7]? = some (RX5, TX5, 8) from rfl) k hk hlink hsame hfin (F.2.2.2.1.trans hin) hdecl (tyX5_ok k hk) hn hfit hl hdg kk
theorem gJ4 (F : FX l p m meth c cc nL ret s args y A G) {fs : List Value} (he : va_at G.1 mcl (a, .inr (0, fs)) H) (k : Nat) (hk : k < 4) {index : Nat} {ref : String} (hlink : Cond.fieldLink y.cls index ref (TJ4 k).2.1 (TJ4 k).2.2.1 ∈ gTb) (hsame : ∀ x, s.fieldFound? (TJ4 k).1 (TJ4 k).2.1 (TJ4 k).2.2.1 = some x → s.fieldFound? ref (TJ4 k).2.1 (TJ4 k).2.2.1 = some x) {v : Value} (hv : fs[k]? = some v) (hdg : decode cc pc = .ok (.getfield index, 3))
    (kk : W p l e R s m args below meth c H locs cells slots Q (F0 m (pc + 3) ls (v :: rest))) : W p l e R s m args below meth c H locs cells slots Q (F0 m pc ls (.ref a :: rest)) :=
  xget F.1.1 F.1.2.1 F.1.2.2.2.2 inG_J4 F.1.2.2.2.1 F.2.2.2.2.2.1.1.1 he (show mcl[0]? = some (RJ4, TJ4, 4) from rfl) k hk hlink hsame hv hdg kk
theorem pJ4 (F : FX l p m meth c cc nL ret s args y A G) (hS : va_S A s.heap H locs) {fs : List Value} (he : va_at G.1 mcl (a, .inr (0, fs)) H) (hA : A a) (k : Nat) (hk : k < 4) {index : Nat} {ref : String} (hlink : Cond.fieldLink y.cls index ref (TJ4 k).2.1 (TJ4 k).2.2.1 ∈ gTb) (hsame : ∀ x, s.fieldFound? (TJ4 k).1 (TJ4 k).2.1 (TJ4 k).2.2.1 = some x → s.fieldFound? ref (TJ4 k).2.1 (TJ4 k).2.2.1 = some x) (hfin : (TJ4 k).2.2.2 = false) {v : Value} (hn : narrow (tyJ4 k) v = v) (hfit : fits (tyJ4 k) v = true) (hl : k < fs.length) (hdg : decode cc pc = .ok (.putfield index, 3))
    (kk : ∀ (H1 : Heap) (locs1 : List Loc), va_at G.1 mcl (a, .inr (0, fs.set k v)) H1 → H1.size = H.size → (∀ q, q ≠ a → H1[q]? = H[q]?) → va_S A s.heap H1 locs1 → W p l e R s m args below meth c H1 locs1 cells slots Q (F0 m (pc + 3) ls rest)) : W p l e R s m args below meth c H locs cells slots Q (F0 m pc ls (v :: .ref a :: rest)) :=
  xput F.1.1 F.1.2.1 F.1.2.2.2.2 inG_J4 tyJ4 tyJ4_ok nmJ4 F.1.2.2.2.1 F.2.2.2.2.2.1.1.1 hS he hA (show mcl[0]? = some (RJ4, TJ4, 4) from rfl) k hk hlink hsame hfin (tyJ4_ok k hk) hn hfit hl hdg kk
theorem pfJ4 (F : FX l p m meth c cc nL ret s args y A G) (hS : va_S A s.heap H locs) {fs : List Value} (he : va_at G.1 mcl (a, .inr (0, fs)) H) (hA : A a) (k : Nat) (hk : k < 4) {index : Nat} {ref : String} (hlink : Cond.fieldLink y.cls index ref (TJ4 k).2.1 (TJ4 k).2.2.1 ∈ gTb) (hsame : ∀ x, s.fieldFound? (TJ4 k).1 (TJ4 k).2.1 (TJ4 k).2.2.1 = some x → s.fieldFound? ref (TJ4 k).2.1 (TJ4 k).2.2.1 = some x) (hfin : (TJ4 k).2.2.2 = true) (hin : y.name = "<init>") (hdecl : (TJ4 k).1 = y.cls) {v : Value} (hn : narrow (tyJ4 k) v = v) (hfit : fits (tyJ4 k) v = true) (hl : k < fs.length) (hdg : decode cc pc = .ok (.putfield index, 3))
    (kk : ∀ (H1 : Heap) (locs1 : List Loc), va_at G.1 mcl (a, .inr (0, fs.set k v)) H1 → H1.size = H.size → (∀ q, q ≠ a → H1[q]? = H[q]?) → va_S A s.heap H1 locs1 → W p l e R s m args below meth c H1 locs1 cells slots Q (F0 m (pc + 3) ls rest)) : W p l e R s m args below meth c H locs cells slots Q (F0 m pc ls (v :: .ref a :: rest)) :=
  xputF F.1.1 F.1.2.1 F.1.2.2.2.2 inG_J4 tyJ4 tyJ4_ok nmJ4 F.1.2.2.2.1 F.2.2.2.2.2.1.1.1 hS he hA (show mcl[0]? = some (RJ4, TJ4, 4) from rfl) k hk hlink hsame hfin (F.2.2.2.1.trans hin) hdecl (tyJ4_ok k hk) hn hfit hl hdg kk
theorem gJx4a65c (F : FX l p m meth c cc nL ret s args y A G) {fs : List Value} (he : va_at G.1 mcl (a, .inr (1, fs)) H) (k : Nat) (hk : k < 3) {index : Nat} {ref : String} (hlink : Cond.fieldLink y.cls index ref (TJx4a65c k).2.1 (TJx4a65c k).2.2.1 ∈ gTb) (hsame : ∀ x, s.fieldFound? (TJx4a65c k).1 (TJx4a65c k).2.1 (TJx4a65c k).2.2.1 = some x → s.fieldFound? ref (TJx4a65c k).2.1 (TJx4a65c k).2.2.1 = some x) {v : Value} (hv : fs[k]? = some v) (hdg : decode cc pc = .ok (.getfield index, 3))
    (kk : W p l e R s m args below meth c H locs cells slots Q (F0 m (pc + 3) ls (v :: rest))) : W p l e R s m args below meth c H locs cells slots Q (F0 m pc ls (.ref a :: rest)) :=
  xget F.1.1 F.1.2.1 F.1.2.2.2.2 inG_Jx4a65c F.1.2.2.2.1 F.2.2.2.2.2.1.1.1 he (show mcl[1]? = some (RJx4a65c, TJx4a65c, 3) from rfl) k hk hlink hsame hv hdg kk
theorem pJx4a65c (F : FX l p m meth c cc nL ret s args y A G) (hS : va_S A s.heap H locs) {fs : List Value} (he : va_at G.1 mcl (a, .inr (1, fs)) H) (hA : A a) (k : Nat) (hk : k < 3) {index : Nat} {ref : String} (hlink : Cond.fieldLink y.cls index ref (TJx4a65c k).2.1 (TJx4a65c k).2.2.1 ∈ gTb) (hsame : ∀ x, s.fieldFound? (TJx4a65c k).1 (TJx4a65c k).2.1 (TJx4a65c k).2.2.1 = some x → s.fieldFound? ref (TJx4a65c k).2.1 (TJx4a65c k).2.2.1 = some x) (hfin : (TJx4a65c k).2.2.2 = false) {v : Value} (hn : narrow (tyJx4a65c k) v = v) (hfit : fits (tyJx4a65c k) v = true) (hl : k < fs.length) (hdg : decode cc pc = .ok (.putfield index, 3))
    (kk : ∀ (H1 : Heap) (locs1 : List Loc), va_at G.1 mcl (a, .inr (1, fs.set k v)) H1 → H1.size = H.size → (∀ q, q ≠ a → H1[q]? = H[q]?) → va_S A s.heap H1 locs1 → W p l e R s m args below meth c H1 locs1 cells slots Q (F0 m (pc + 3) ls rest)) : W p l e R s m args below meth c H locs cells slots Q (F0 m pc ls (v :: .ref a :: rest)) :=
  xput F.1.1 F.1.2.1 F.1.2.2.2.2 inG_Jx4a65c tyJx4a65c tyJx4a65c_ok nmJx4a65c F.1.2.2.2.1 F.2.2.2.2.2.1.1.1 hS he hA (show mcl[1]? = some (RJx4a65c, TJx4a65c, 3) from rfl) k hk hlink hsame hfin (tyJx4a65c_ok k hk) hn hfit hl hdg kk
theorem pfJx4a65c (F : FX l p m meth c cc nL ret s args y A G) (hS : va_S A s.heap H locs) {fs : List Value} (he : va_at G.1 mcl (a, .inr (1, fs)) H) (hA : A a) (k : Nat) (hk : k < 3) {index : Nat} {ref : String} (hlink : Cond.fieldLink y.cls index ref (TJx4a65c k).2.1 (TJx4a65c k).2.2.1 ∈ gTb) (hsame : ∀ x, s.fieldFound? (TJx4a65c k).1 (TJx4a65c k).2.1 (TJx4a65c k).2.2.1 = some x → s.fieldFound? ref (TJx4a65c k).2.1 (TJx4a65c k).2.2.1 = some x) (hfin : (TJx4a65c k).2.2.2 = true) (hin : y.name = "<init>") (hdecl : (TJx4a65c k).1 = y.cls) {v : Value} (hn : narrow (tyJx4a65c k) v = v) (hfit : fits (tyJx4a65c k) v = true) (hl : k < fs.length) (hdg : decode cc pc = .ok (.putfield index, 3))
    (kk : ∀ (H1 : Heap) (locs1 : List Loc), va_at G.1 mcl (a, .inr (1, fs.set k v)) H1 → H1.size = H.size → (∀ q, q ≠ a → H1[q]? = H[q]?) → va_S A s.heap H1 locs1 → W p l e R s m args below meth c H1 locs1 cells slots Q (F0 m (pc + 3) ls rest)) : W p l e R s m args below meth c H locs cells slots Q (F0 m pc ls (v :: .ref a :: rest)) :=
  xputF F.1.1 F.1.2.1 F.1.2.2.2.2 inG_Jx4a65c tyJx4a65c tyJx4a65c_ok nmJx4a65c F.1.2.2.2.1 F.2.2.2.2.2.1.1.1 hS he hA (show mcl[1]? = some (RJx4a65c, TJx4a65c, 3) from rfl) k hk hlink hsame hfin (F.2.2.2.1.trans hin) hdecl (tyJx4a65c_ok k hk) hn hfit hl hdg kk
end CLS
