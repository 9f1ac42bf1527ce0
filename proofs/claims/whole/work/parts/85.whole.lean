theorem PX.anyL {G : GE} {A B : Nat → Prop} {ad : Nat → Nat → Nat} {σ : SG} {qs : Nat → List Nat} {nT nW : Nat} {H : Heap} (h : PX G A ad σ qs nT nW H) (hAB : ∀ q, A q → q < H.size → B q) : PX G B ad σ qs nT nW H := by
  obtain ⟨ba, bc, bm, h, hL⟩ := h
  exact ⟨ba, bc, bm, ⟨h.1, h.2.1, fun k i hd => hAB _ (h.2.2 k i hd) (h.1 k i hd).lt⟩, hL⟩
set_option maxHeartbeats 4000000 in
set_option maxRecDepth 100000 in
/-- THE LAW, from its entry -/
theorem whole_start {p : Program} {e : Env} {s : State} {m : MethodId} {below : List Frame} {meth : Method} {c : Code} (l : Launch) (hflags : l.flags = flags0) {b L : Nat} {xs : Nat → Int32} (hL : L ≤ 2048) (C0 : lw_At p s m meth c b L xs) : W p l e room_1 s m #[Value.ref b] below meth c s.heap [] 0 0 (lw_Z below #[Value.ref b] s) (entryFrame m ([Value.ref b] : List Value).toArray 7) := by
  obtain ⟨hx, hb, hr, hml, hown, hts, hX, hbl, hlocks, hgv⟩ := id C0
  have hl9 : l.stackTraces = false := by
    unfold Launch.stackTraces
    rw [hflags]
    decide
  have hg : ∀ w ∈ gTb, w.before #[Value.ref b] s = true := fun w hw => hts w (List.mem_filter.mp hw).1
  have C : CallFix p m c cL_law 7 s #[Value.ref b] gTb RL := ⟨hx, hb, hml, hown, hg⟩
  obtain ⟨G, hE, hN⟩ := start_E hts hgv
  have hS : va_S (fun q : Nat => s.heap.size ≤ q) s.heap s.heap [] := va_S.rf
  have hl := lv_entry ([.ref b]) (n := 7) (Nat.le_of_ble_eq_true rfl)
  rw [lg_entry_eq]
  generalize (lg_sl ([.ref b]) ++ List.replicate (7 - (lg_sl ([.ref b])).length) Slot.unset).toArray = ls at hl ⊢
  have hl : lv_has ls 7 [(0, .ref b)] := hl
  refine xnew (ci := 7) (N := 8) hx hb hg inG_X5 tyX5 tyX5_ok hown wCL_L_8 wIS_X5 wIN_X5 hE.1.1 hS (show mcl[7]? = some (RX5, TX5, 8) from rfl) (fs := [.null, .null, .null, .null, .null, .int 0, .int 0, .int 0]) (by decide) (Nat.le_of_ble_eq_true rfl) (Nat.le_of_ble_eq_true rfl) dL_law_0 (fun H1 h1 z1 oq1 hS => ?_)
  refine lv_dup hx hb dL_law_3 rfl ?_
  refine hcallI (n := 0) C hE (cI_main l G (fun q => s.heap.size ≤ q) s.heap.size (Nat.le_refl _)) wML_L_95 wIM_X5_init wIN_X5 wCO_X5_init rfl (by decide) rfl ⟨Nat.le_of_ble_eq_true rfl, Nat.le_of_ble_eq_true rfl⟩ hS (fun q h => h) (fun q h => Nat.le_trans hS.1 h) h1 rfl hl.1 (Nat.le_of_ble_eq_true rfl) dL_law_4 ⟨Nat.le_of_ble_eq_true rfl, Nat.le_of_ble_eq_true rfl⟩ (fun E ce q9 H1 locs1 hx9 _ _ _ _ _ => hx9.elim) (fun v H2 locs2 hv hk2 hS => ?_)
  obtain ⟨rfl, ad, ea, hP⟩ := hv
  refine lv_astore_n (lv' := [(1, .ref s.heap.size), (0, .ref b)]) hx hb dL_law_7 rfl hl (by decide) rfl (fun ls hl => ?_)
  refine xnew (ci := 8) (N := 30) hx hb hg inG_X6 tyX6 tyX6_ok hown wCL_L_96 wIS_X6 wIN_X6 hE.1.1 hS (show mcl[8]? = some (RX6, TX6, 30) from rfl) (fs := mK 0 0) (by decide) (Nat.le_of_ble_eq_true rfl) (Nat.le_of_ble_eq_true rfl) dL_law_8 (fun H3 h3 z3 oq3 hS => ?_)
  refine lv_dup hx hb dL_law_11 rfl ?_
  refine hcallI (n := 0) C hE (kR_init l G (fun q => H2.size ≤ q) H2.size (Nat.le_refl _)) wML_L_98 wIM_X6_init wIN_X6 wCO_X6_init rfl (by decide) rfl ⟨Nat.le_of_ble_eq_true rfl, Nat.le_of_ble_eq_true rfl⟩ hS (fun q h => Nat.le_trans (show s.heap.size ≤ H2.size by have := hk2.1; omega) h) (fun q h => Nat.le_trans (show H2.size ≤ H3.size by omega) h) h3 rfl hl.1 (Nat.le_of_ble_eq_true rfl) dL_law_12 ⟨Nat.le_of_ble_eq_true rfl, Nat.le_of_ble_eq_true rfl⟩ (fun E ce q9 H1 locs1 hx9 _ _ _ _ _ => hx9.elim) (fun v H4 locs4 hv hk4 hS => ?_)
  obtain ⟨rfl, adm, em, hM⟩ := hv
  have hP3 := hP.old (H1 := H3) ⟨by omega, fun q hq _ => oq3 q hq⟩
  have hP4 := hP.old (H1 := H4) ⟨by have := hk4.1; omega, fun q hq _ => (hk4.2 q (by omega) (Nat.not_le.mpr hq)).trans (oq3 q hq)⟩
  refine lv_astore_n (lv' := [(2, .ref H2.size), (1, .ref s.heap.size), (0, .ref b)]) hx hb dL_law_15 rfl hl (by decide) rfl (fun ls hl => ?_)
  refine lv_iconst (v := 1) hx hb dL_law_16 (by decide) ?_
  refine xnewa hx hb (atype := .long) (ty := .long) rfl (hg _ wAC_long) hE.1.1 6 rfl (fun h => h) hS (a0 := (1, .inr (.inl (fun _ => 0)))) rfl (n := 1) (N := 1) (by decide) (by decide) (by decide) (Nat.le_of_ble_eq_true rfl) (Nat.le_of_ble_eq_true rfl) dL_law_17 (fun H5 h5 z5 oq5 hS => ?_)
  refine lv_astore_n (lv' := [(3, .ref H4.size), (2, .ref H2.size), (1, .ref s.heap.size), (0, .ref b)]) hx hb dL_law_19 rfl hl (by decide) rfl (fun ls hl => ?_)
  refine lv_iconst (v := 0) hx hb dL_law_20 (by decide) ?_
  refine lv_istore (lv' := [(4, .int 0), (3, .ref H4.size), (2, .ref H2.size), (1, .ref s.heap.size), (0, .ref b)]) hx hb dL_law_21 hl (by decide) rfl (fun ls hl => ?_)
  have hsz2 : s.heap.size < H2.size := by have := hk2.1; omega
  have hMc : ∀ q, McL adm q → H2.size ≤ q ∧ q < H4.size := fun q hq => by
    obtain ⟨f, hf, rfl⟩ := hq
    exact ⟨hM.2.2 f 0 hf, (hM.1 f 0 hf).lt⟩
  have hP5 : PX G (AxL s.heap.size H4.size adm) ad fInit (fun _ => []) 0 0 H5 := by
    refine PX.old (H := H4) (PX.anyL (A := fun q => s.heap.size ≤ q ∧ q < H2.size) ?_ (fun q h _ => ⟨h.1, fun z => ?_, fun z => absurd (hMc q z).1 (Nat.not_le.mpr h.2)⟩)) ⟨by omega, fun q hq _ => oq5 q hq⟩
    · refine PX.old (H := H2) (PX.anyL hP (fun q h1 h2 => ⟨h1, h2⟩)) ⟨by have := hk4.1; omega, fun q hq _ => (hk4.2 q (by omega) (Nat.not_le.mpr hq)).trans (oq3 q hq)⟩
    · have := hk4.1
      have := h.2
      omega
  have hM5 : PM G (McL adm) adm (mI 4 1 12 6) H5 := (hM.any (fun q h => h)).old ⟨by omega, fun q hq _ => oq5 q hq⟩
  have hF : LFX s.heap.size H4.size adm := ⟨by have := hk4.1; omega, fun z => absurd (hMc _ z).2 (Nat.lt_irrefl _), fun q hq => by have := (hMc q hq).1; omega⟩
  refine law_loop hl9 C hE hN hX hbl hF hL hr hlocks (L + 1) 0 0 _ _ H5 _ ls (by omega) (Nat.zero_le _) (Nat.le_of_ble_eq_true rfl) (Nat.le_of_ble_eq_true rfl) (Nat.le_refl _) hS ⟨ad, fInit, mI 4 1 12 6, fun _ => [], 0, 0, 0, 0, 0, ea, hP5, hM5, h5, init_rel, fun t ht => absurd ht (Nat.not_lt_zero t)⟩ ?_
  rw [em]
  exact lv_sub hl [0, 4, 3, 2, 1] rfl
set_option maxHeartbeats 4000000 in
theorem lw_walk (l : Launch) (hflags : l.flags = flags0) (b : Addr) (xs : List Int32) : MetFree l x (headSpec (Jvm.Cond.code x code maxLocals ret :: tables_1) room_1) (lw_P b xs) (fun _ _ _ _ _ => True) lw_Q := by
  refine MetFree.of_bodyS (code := code) (maxLocals := maxLocals) (ret := ret) (by decide) ?_ ?_
  · intro args s m h hn
    obtain ⟨meth, c, h1, h2, h3, h4, h5, h6, -, -⟩ := Cond.code_spec hn (atoms_spec (ws := Jvm.Cond.code x code maxLocals ret :: tables_1) h _ List.mem_cons_self)
    exact ⟨meth, c, h1, h2, h3, h4, h5, h6⟩
  · intro p e s m args below meth c s₁ B hml0 hP _
    obtain ⟨rfl, hx, hbd, hgv⟩ := hP
    obtain ⟨scr, harrAt, hlist, hof, hsmall⟩ := hx
    obtain ⟨hcb, hkn, -, -⟩ := State.arrayAt?_spec harrAt
    have hown : s.vm.findClass R_law = some m.cls := findClass_of_methodNamed B.named
    have hts0 : ∀ c ∈ (Jvm.Cond.code x code maxLocals ret :: tables_1), c.before #[Value.ref b] s = true := atoms_spec (ws := Jvm.Cond.code x code maxLocals ret :: tables_1) B.pre
    have hts : ∀ w ∈ lw_tbl, w.before #[Value.ref b] s = true := k2_hts_sels lw_privs (fun w hw => hts0 w (List.mem_cons_of_mem _ hw)) lw_privs_ok
    have hml : c.maxLocals = 7 := B.maxLocals_eq (hts0 _ List.mem_cons_self)
    have X₀ : Stand p l e room_1 s m #[Value.ref b] below meth c s₁ [] 0 0 := Stand.of_body B
    have hh0 : s₁.heap = s.heap := by rw [B.state]; rfl
    have hsz : scr.slots.size = xs.length := by rw [← Array.length_toList, hlist, List.length_map]
    have hval : ∀ j : Nat, j < xs.length → scr.slots[j]? = some (.int (xs.getD j 0)) := fun j hj => by
      rw [← Array.getElem?_toList, hlist]
      simp [hj]
    have hbl : b < s.heap.size := (Array.getElem?_eq_some_iff.mp hcb).1
    have hX : va_X b xs.length (fun j => xs.getD j 0) s s.heap := ⟨scr, hcb, hof, hkn, hsz, hval⟩
    have K : W p l e room_1 s m #[Value.ref b] below meth c s₁.heap [] 0 0 (lw_Z below #[Value.ref b] s) (entryFrame m ([Value.ref b] : List Value).toArray 7) := by
      rw [hh0]
      exact whole_start l hflags hbd ⟨B.exec, B.bytes, B.returns, hml, hown, hts, hX, hbl, B.notSynchronized, hgv⟩
    obtain ⟨t, a1, o, b1, b2, b3⟩ := K s₁ rfl X₀
    exact ⟨t, o, a1, b1, b2, b3⟩
theorem lw_pre_spec {args : Array Value} {s : State} (h : (Jvm.Cond.and given_1 narrow_1).before args s = true) (hr : rest_1_c.before args s = true) : ∃ (b : Addr) (xs : List Int32), lw_P b xs args s := by
  have hs := flat_of_before _ h
  have hq := flat_of_before _ hr
  have hc : (Cond.count 1).before args s = true := hs _ (by decide +kernel)
  have harr : (Cond.arrayOf (.arg 0) .int).before args s = true := hs _ (by decide +kernel)
  have hle : (Cond.le (.length (.arg 0)) (.int 2048)).before args s = true := hs _ (by decide +kernel)
  have hlen : (Cond.isInt (.length (.arg 0))).before args s = true := hq _ (by decide +kernel)
  have hall : (Cond.all (.arg 0) (.isInt (.elem (.arg 0) (.index 0)))).before args s = true := hq _ (by decide +kernel)
  obtain ⟨b, xs, hb, hx⟩ := State.ints_of_pre rfl harr hlen hall
  have hsm : xs.length < 2 ^ 31 := hx.choose_spec.2.2.2
  have hev : (Term.length (.arg 0)).eval args s none [] s = some (.int xs.length.toInt32) := hx.length_eval hb
  have hv := Cond.le_ints hev (show (Term.int 2048).eval args s none [] s = some (.int 2048) from rfl)
  have hd : xs.length.toInt32 ≤ 2048 := by
    simpa [Cond.before, Cond.holds, hv] using hle
  have hN : xs.length ≤ 2048 := (Int32.ofNat_le_ofNat hsm (by decide)).mp (show Int32.ofNat xs.length ≤ Int32.ofNat 2048 from hd)
  exact ⟨b, xs, Cond.one_arg hc (show args[0]? = some (.ref b) from hb), hx, hN, h⟩
theorem lw_comes (l : Launch) (hflags : l.flags = flags0) : Comes l x (Jvm.Cond.code x code maxLocals ret :: tables_1) room_1 (fun tb e args s => Calls_1 tb e args s ∧ rest_1 tb e args s ∧ Pre_1 tb e args s)
    (fun _ _ args s o t => lw_Q args s o t) := by
  intro p e ha hc hk s m args below hf hfit hheap happ hpre
  obtain ⟨b, xs, hP⟩ := lw_pre_spec hpre.2.2 hpre.2.1
  obtain ⟨k, o, h1, h2, h3, hQ⟩ := lw_walk l hflags b xs p e ha hc hk s m args below hf ((Spec.applies_iff_loose hf).mp happ).1 hP trivial
  exact ⟨k, o, h1, h2, h3, hQ⟩
theorem lw_frame {s t : State} {o : Outcome} {args : Array Value} (h : Framed s o t [] 601024 7293034) :
    Framed s o t (fieldLocs frame_1_writes args s ++ arrayLocs frame_1_arrays args s ++ staticLocs frame_1_statics s) 601024 7293034 := h
theorem lw_limb (L : Cond) (hL : ∀ (args : Array Value) (s t : State), L.after args s (.returned (some (.int 1))) t = true) :
    ArmFor flags0 classFile x code maxLocals ret World_1 tables_1 room_1 Calls_1 rest_1 Pre_1
      (fun tb e a s o t => postC L tb e a s o t ∧ Framed s o t (fieldLocs frame_1_writes a s ++ arrayLocs frame_1_arrays a s ++ staticLocs frame_1_statics s) 601024 7293034) := by
  intro l hflags _ _ p e ha hc hk s m args below hf hfit hheap happ hpre
  obtain ⟨k, o, h1, h2, h3, rfl, hF⟩ := lw_comes l hflags p e ha hc hk s m args below hf hfit hheap happ hpre
  exact ⟨k, _, h1, h2, h3, hL args s _, lw_frame hF⟩
theorem i_vc : Claimed_1_1 ∧ Claimed_1_2 := ⟨lw_limb limb_1_1 (fun args s t => by simp [limb_1_1, Cond.after, Cond.holds, Cond.value]), lw_limb limb_1_2 (fun args s t => Cond.after_iff.mpr (by
  first | (rw [show limb_1_2 = Cond.eq .result (.int 1) from rfl, Cond.eq_ints (x := 1) (y := 1) rfl rfl]; simp; done) | (simp [limb_1_2, Cond.value, Term.eval]; done)))⟩
