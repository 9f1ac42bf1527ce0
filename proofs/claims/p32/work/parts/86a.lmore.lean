section HCALLS
variable {p : Program} {l : Launch} {e : Env} {R : Room} {s : State} {m : MethodId} {args : Array Value} {below : List Frame} {meth : Method} {c : Code} {H : Heap} {locs : List Loc} {cells slots : Nat} {Qw : State → Prop}
variable {pc : Nat} {ls : Array Slot} {rest st0 : List Value} {a : Array Value} {A A1 : Nat → Prop} {Q : Option Value → Heap → Prop} {X : String → Heap → Prop} {rm : Room} {G : GE} {P : Heap → Prop}
variable {y : MethodName} {bytes cc : ByteArray} {maxL nL n index : Nat} {ret : Option FieldType} {own : String} {b : Addr} {As : List Value}
/-- a static call from the law -/
theorem hcallS (C : CallFix p m c cc nL s args gTb own) (hE : EN A G s s.heap) (hM : KM l G A1 y bytes maxL ret rm As P Q X)
    (w1 : Cond.methodLink own index y ∈ gTb) (w2 : Cond.static y ∈ gTb) (w4 : Cond.initialized y.cls ∈ gTb) (w5 : Cond.code y bytes maxL ret ∈ gTb)
    (hd : y.cls ≠ "java/lang/invoke/MethodHandle" ∧ y.cls ≠ "java/lang/invoke/VarHandle" ∧ (parseMethodDescriptor y.desc).map (fun d => d.parameters.length) = some n) (hn : As.length = n) (hR : rm.frames + 1 ≤ R.frames ∧ 8 + (maxL + 11) + rm.locals ≤ R.locals)
    (hS : va_S A s.heap H locs) (h1 : ∀ q, A1 q → A q) (h2 : ∀ q, H.size ≤ q → A1 q) (hP : P H)
    (hst : st0 = As.reverse ++ rest) (hls : ls.size = nL) (hW : (rest.map fun v => v.category).sum ≤ 8) (hdg : decode cc pc = .ok (.invokestatic index, 3)) (hf : cells + rm.cells ≤ R.cells ∧ slots + rm.slots ≤ R.slots)
    (kx : ∀ (E : String) (ce : Cell) (q9 : Addr) (H1 : Heap) (locs1 : List Loc), X E H1 → KF A1 H H1 → va_S A s.heap H1 locs1 → H1[q9]? = some ce → ce.vm = .none → s.vm.findClass E = some ce.cls → vx_W p l e R s m args below meth c H1 locs1 (cells + rm.cells) (slots + rm.slots) Qw (F0 m pc ls rest) q9)
    (kk : ∀ (v : Option Value) (H1 : Heap) (locs1 : List Loc), Q v H1 → KF A1 H H1 → va_S A s.heap H1 locs1 → W p l e R s m args below meth c H1 locs1 (cells + rm.cells) (slots + rm.slots) Qw (F0 m (pc + 3) ls (v.toList ++ rest))) : W p l e R s m args below meth c H locs cells slots Qw (F0 m pc ls st0) := by
  have hts := C.2.2.2.2
  exact kgo (vx_runS (As := As) (rest := rest) C hM ⟨kB hts w1 w4 w5 hd hR, hts _ w2⟩ ⟨KP.blind, kpre hE hS h1 h2 hP⟩ rfl hn hls hst (by show 2 * 0 + _ ≤ 8; omega) hdg hf) hS h1 kx kk
end HCALLS
theorem CST.more {G : GE} {A : Nat → Prop} {a0 nT nW N : Nat} {τ : SG} {H : Heap} (h : CST G A a0 τ nT nW N H) : CST G A a0 τ nT nW (N + 1) H := by
  obtain ⟨ad, σ, qs, f, D, ea, hP, hR, hI⟩ := h
  exact ⟨ad, σ, qs, f, D, ea, hP, hR.more, hI⟩
theorem up_eq {μ : SG} {f i : Nat} {x : Int32} (h : μ f i = x) : up μ f i x = μ := by rw [← h, up_id]
theorem up_cm {μ : SG} {f i g j : Nat} {x y : Int32} (h : f ≠ g) : up (up μ f i x) g j y = up (up μ g j y) f i x := by
  funext a b
  unfold up
  by_cases c1 : a = g ∧ b = j
  · rw [if_pos c1, if_neg (fun z => h (z.1.symm.trans c1.1)), if_pos c1]
  · rw [if_neg c1]
    by_cases c2 : a = f ∧ b = i
    · rw [if_pos c2, if_pos c2]
    · rw [if_neg c2, if_neg c2, if_neg c1]
theorem mDays_ne {n g j : Nat} (hg : g ≠ 10 ∧ g ≠ 24 ∧ g ≠ 26) : ∀ (d : Nat) (τ : SG), mDays n d τ g j = τ g j
  | 0, _ => rfl
  | d + 1, τ => (mDays_ne hg d (mEnd n τ)).trans (mEnd_ne hg)
theorem yq {y a b : Nat} (hy : y < 67108864) (ha : 0 < a) (ha2 : a < 10000) (hb : 0 < b) (hb2 : b < 10000) : nI y / nI a - nI y / nI a / nI b * nI b = nI (y / a % b) := by
  rw [pk_div (by omega) ha (by omega)]
  exact pk_rem (Nat.lt_of_le_of_lt (Nat.div_le_self _ _) (by omega)) hb (by omega)
theorem nlt {n k : Nat} (hn : n ≤ k) (hk : k < 2 ^ 31) (h : ¬ nI k ≤ nI n) : n < k := nI_lt' hn hk h
theorem code_t1 {so d : Nat} {x : Int32} (e : x = nI d) : nI so + 128 * x = nI (so + 4 * 0 + 16 * 0 + 128 * d) := by
  rw [e]
  show nI so + nI 128 * nI d = _
  rw [pk_mul, nI_addN]
  exact congrArg nI (by omega)
theorem code_t0 {h d : Nat} {x : Int32} (e : x = nI d) : 4 * nI h + 128 * x = nI (0 + 4 * h + 16 * 0 + 128 * d) := by
  rw [e]
  show nI 4 * nI h + nI 128 * nI d = _
  rw [pk_mul, pk_mul, nI_addN]
  exact congrArg nI (by omega)
theorem code_tm {so k d : Nat} {x : Int32} (e : x = nI d) : (nI so + 16 * nI k) + 128 * x = nI (so + 4 * 0 + 16 * k + 128 * d) := by
  rw [e]
  show (nI so + nI 16 * nI k) + nI 128 * nI d = _
  rw [pk_mul, pk_mul, nI_addN, nI_addN]
  exact congrArg nI (by omega)
section LNN
variable {μ τ : SG} {nT nW h t : Nat}
theorem lr_pos3 (hR : LR μ τ nT nW) : ¬ τ 1 0 < 0 ∧ ¬ τ 1 0 / 2 < 0 := by
  obtain ⟨p, h1, h2⟩ := hR.2.1.2
  rw [← lr_n3 hR, h2]
  refine ⟨nI_pos (by omega), ?_⟩
  show ¬ nI p / nI 2 < 0
  rw [pk_div (by omega) (by decide) (by decide)]
  exact nI_pos (Nat.lt_of_le_of_lt (Nat.div_le_self _ _) (by omega))
theorem lr_posp (hR : LR μ τ nT nW) (hh : h < 4) : ¬ τ 0 h < 0 := by
  obtain ⟨h1, p, h2, h3⟩ := hR.2.1.1 h hh
  rw [← h1, h3]
  exact nI_pos (by omega)
theorem gb_cm {x : Int32} (hi : t < nT) (h : ¬ ((mNow τ t = true ∧ τ 13 t = 0 ∧ τ 10 t = -1) ∧ allCl τ t)) : cm_giveBack τ nT (nI t) x (thr τ 2) := by
  by_cases c : mNow τ t = true ∧ τ 13 t = 0 ∧ τ 10 t = -1
  · refine Or.inr (Or.inr (Or.inl ⟨t, hi, rfl, c, ?_, rfl⟩))
    exact Classical.byContradiction (fun z => h ⟨c, fun r hr hh => z ⟨r, hr, hh⟩⟩)
  · exact Or.inr (Or.inl ⟨t, hi, rfl, c, rfl⟩)
theorem so_0 (hR : LR μ τ nT nW) (ht : t < nT) (h : ¬ 0 < τ 4 t) : τ 4 t = 0 := by
  obtain ⟨so, ho, me, d, a1, a2, a3, a4, e, e4, -⟩ := hR.2.2.2.1 t ht
  rw [e4] at h ⊢
  rcases Nat.eq_zero_or_pos so with z | z
  · rw [z]; rfl
  · exact absurd ((nI_ltI (a := 0) (by decide) (by omega)).mpr z) h
theorem for_ok1 {x : Int32} (h : 0 < τ 4 t) : mFor τ t x = true := by
  unfold mFor
  have : ¬ τ 4 t = 0 := fun z => by rw [z] at h; exact absurd h (by decide)
  simp [this]
theorem for_ok2 {x : Int32} (h : τ 5 t = x) : mFor τ t x = true := by
  unfold mFor
  simp [h]
theorem for_no {x : Int32} (h4 : τ 4 t = 0) (h : ¬ τ 5 t = x) : ¬ mFor τ t x = true := by
  unfold mFor
  simp [h, h4]
theorem mQ_ge {n r : Nat} {pp : Int32} (hn : n ≤ 80) (h : ¬ 0 ≤ mQ τ n r pp) : mQ τ n r pp = -1 := by
  rcases mQ_or (τ := τ) (n := n) (r := r) (pp := pp) with z | ⟨u, hu, z⟩
  · exact z
  · rw [z] at h
    exact absurd (nI_pos' (by omega)) h
theorem mQ_gn {n r : Nat} {pp : Int32} (h : 0 ≤ mQ τ n r pp) : ¬ mQ τ n r pp = -1 := fun z => by
  rw [z] at h
  exact absurd h (by decide)
theorem its_val {x y : Int32} (h : pw x y) (h0 : ¬ x = 0) : ∃ r, r < 12 ∧ (y = nI r ∨ y = 100 + nI r) ∧ (x ≤ 100 → (x - 1) - (x - 1) / 100 * 100 = nI r) ∧ (¬ x ≤ 100 → (x - 2) - (x - 2) / 100 * 100 = nI r) := by
  rcases h with ⟨rfl, rfl⟩ | ⟨b, hb, ⟨rfl, rfl⟩ | ⟨rfl, rfl⟩⟩
  · exact absurd rfl h0
  · refine ⟨b, hb, Or.inl rfl, fun _ => ?_, fun z => absurd ((nI_leI (a := b + 1) (b := 100) (by omega) (by decide)).mpr (by omega)) z⟩
    rw [nI_m1]
    show nI b - nI b / nI 100 * nI 100 = nI b
    rw [pk_rem (by omega) (by decide) (by decide), Nat.mod_eq_of_lt (by omega)]
  · refine ⟨b, hb, Or.inr rfl, fun z => ?_, fun _ => ?_⟩
    · have := (nI_leI (a := b + 102) (b := 100) (by omega) (by decide)).mp z
      omega
    · have e : nI (b + 102) - 2 = nI (100 + b) := by
        show nI (b + 102) - nI 2 = _
        rw [pk_sub (by omega)]
        exact congrArg nI (by omega)
      rw [e]
      show nI (100 + b) - nI (100 + b) / nI 100 * nI 100 = nI b
      rw [pk_rem (by omega) (by decide) (by decide)]
      exact congrArg nI (by omega)
theorem inB_n {a b : Nat} (h : a ≤ b) (hb : b < 2 ^ 31) : inB (nI a) 0 (nI b) = true := inB_iff.mpr ⟨nI_pos (by omega), (nI_leI (by omega) hb).mpr h⟩
theorem inB_1 {a b : Nat} (h1 : 1 ≤ a) (h : a ≤ b) (hb : b < 2 ^ 31) : inB (nI a) 1 (nI b) = true := inB_iff.mpr ⟨fun z => by
  have := (nI_ltI (a := a) (b := 1) (by omega) (by decide)).mp z
  omega, (nI_leI (by omega) hb).mpr h⟩
theorem LR.sell {b : Nat} {am sh : Int32} (hR : LR μ τ nT nW) (hb : b < 4) (hh : h < 4) : LR (up (up (up μ 13 b (μ 13 b + sh)) 13 h ((up μ 13 b (μ 13 b + sh)) 13 h + (am - sh))) 0 5 (τ 25 0 + am)) (mSell τ h b am sh) nT nW := by
  have e1 := lr_m hR (j := b) (by omega)
  have s1 := hR.m13 (t := b) (x := μ 13 b + sh)
  have e2 := lr_m s1 (j := h) (by omega)
  have s2 := (s1.m13 (t := h) (x := (up μ 13 b (μ 13 b + sh)) 13 h + (am - sh))).n5 (x := τ 25 0 + am)
  unfold mSell
  rw [← e1, ← e2]
  exact s2
theorem LR.give {am x : Int32} (hR : LR μ τ nT nW) (hh : h < 4) : LR (up (up (up μ 13 h (μ 13 h + (am + x))) 13 4 ((up μ 13 h (μ 13 h + (am + x))) 13 4 - x)) 0 5 (τ 25 0 + am)) (mGive τ h am x) nT nW := by
  have e1 := lr_m hR (j := h) (by omega)
  have s1 := hR.m13 (t := h) (x := μ 13 h + (am + x))
  have e2 := lr_m s1 (j := 4) (by omega)
  have s2 := (s1.m13 (t := 4) (x := (up μ 13 h (μ 13 h + (am + x))) 13 4 - x)).n5 (x := τ 25 0 + am)
  unfold mGive
  rw [← e1, ← e2]
  exact s2
end LNN
