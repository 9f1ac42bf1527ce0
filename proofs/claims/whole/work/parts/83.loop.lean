/-! THE CLAIM OUT OF ONE WALK OF THE LAW'S BODY. Your part is whole_start (and what it stands on); all else here is the same for every law, but numbers. -/
def R_law : String := "MuseumTillLaw"
def lw_P (b : Addr) (xs : List Int32) (args : Array Value) (s : State) : Prop := args = #[.ref b] ∧ s.IntsAt b xs ∧ xs.length ≤ 2048 ∧ (Jvm.Cond.and given_1 narrow_1).before args s = true
def lw_Q (_ : Array Value) (s : State) (o : Outcome) (t : State) : Prop := o = .returned (some (.int 1)) ∧ Framed s o t [] 601024 7293034
def lw_Z (below : List Frame) (a : Array Value) (s : State) : State → Prop := fun t => ∃ o, t.status = .running ∧ Ended t below o ∧ lw_Q a s o t
/-- the law's own end, with 1 on the stack, nothing written that was there before, its room as the claim has it -/
theorem lw_ret {p : Program} {l : Launch} {e : Env} {s : State} {m : MethodId} {below : List Frame} {meth : Method} {c : Code} {b : Nat} (hx : p.tables.exec = Jvm.exec) (hb : c.code = code) (hr : meth.sig.returnType = ret) (hlocks : meth.locks = false) {pc : Nat} {H : Heap} {ls : Array Slot} (hdg : decode code pc = .ok (.ireturn, 1)) : W p l e room_1 s m #[Value.ref b] below meth c H [] 601024 7293034 (lw_Z below #[Value.ref b] s) (F0 m pc ls [.int 1]) := by
  intro T hT X
  obtain ⟨fs, hret, hrun, hended, hW, hframe⟩ := X.leave (v := some (.int 1)) (hlocks := hlocks) (fun h => by rw [hr] at h; cases h)
  have hmeth' : T.vm.method? m = some meth := X.method'
  refine ⟨T.setFrames fs, ?_, .returned (some (.int 1)), hrun, hended, rfl, ⟨_, rfl⟩, hW, hframe⟩
  jvm_step X.here [X.here.top, hx, hb, hdg, hmeth', hr, ret, narrow_b1]
  (try refine ⟨rfl, ?_⟩); (try refine ⟨rfl, ?_⟩)
  first | (intro acts; rw [hret _ acts rfl rfl rfl]) | rw [hret _ _ rfl rfl rfl]
  exact Steps.refl _
/-- what holds at the law's entry: the machine, the code, the tables' words (any of lw_tbl by 'hts w (by decide +kernel)'), the script of L ints xs at the cell b, what the Statement gives of the start (any of its parts by flat_of_before) -/
def lw_At (p : Program) (s : State) (m : MethodId) (meth : Method) (c : Code) (b L : Nat) (xs : Nat → Int32) : Prop :=
  p.tables.exec = Jvm.exec ∧ c.code = code ∧ meth.sig.returnType = ret ∧ c.maxLocals = 7 ∧ s.vm.findClass R_law = some m.cls ∧ (∀ w ∈ lw_tbl, w.before #[Value.ref b] s = true) ∧ va_X b L xs s s.heap ∧ b < s.heap.size ∧ meth.locks = false ∧ (Jvm.Cond.and given_1 narrow_1).before #[Value.ref b] s = true
section LAWLOOP
variable {p : Program} {l : Launch} {e : Env} {s : State} {m : MethodId} {below : List Frame} {meth : Method} {c : Code} {b L : Nat} {xs : Nat → Int32} {G : GE} {o a0 : Nat} {adm : Nat → Nat}
theorem law_end (hx : p.tables.exec = Jvm.exec) (hb : c.code = cL_law) (hr : meth.sig.returnType = ret) (hlocks : meth.locks = false) {H : Heap} {locs : List Loc} {ls : Array Slot} {cc ss : Nat} (hS : va_S (fun q => s.heap.size ≤ q) s.heap H locs) (hc : cc ≤ 601024) (hs : ss ≤ 7293034) : W p l e room_1 s m #[Value.ref b] below meth c H locs cc ss (lw_Z below #[Value.ref b] s) (F0 m 1857 ls []) := by
  refine lv_iconst (v := 1) hx hb dL_law_1857 (by decide) ?_
  refine va_forget (fun q hq => hS.2.2 q hq) ?_
  refine W.widen (k := 601024) (n := 7293034) hc hs ?_
  exact lw_ret hx hb hr hlocks dL_law_1858
set_option maxHeartbeats 4000000 in
set_option maxRecDepth 100000 in
theorem law_loop (hl9 : l.stackTraces = false) (C : CallFix p m c cL_law 7 s #[Value.ref b] gTb RL) (hE : EN (fun q => s.heap.size ≤ q) G s s.heap) (hN : NCX s) (hX : va_X b L xs s s.heap) (hbl : b < s.heap.size) (hF : LFX s.heap.size o adm) (hL : L ≤ 2048) (hr : meth.sig.returnType = ret) (hlocks : meth.locks = false) :
    ∀ (n i N cc ss : Nat) (H : Heap) (locs : List Loc) (ls : Array Slot), L < 4 * i + n → 4 * i ≤ L → cc ≤ 100 + 10 * i → ss ≤ 2000 + 300 * i → N ≤ i → va_S (fun q => s.heap.size ≤ q) s.heap H locs → LINV G s.heap.size o a0 adm N H → lv_has ls 7 [(4, .int (nI (4 * i))), (0, .ref b), (1, .ref a0), (2, .ref (adm 30)), (3, .ref o)] →
      W p l e room_1 s m #[Value.ref b] below meth c H locs cc ss (lw_Z below #[Value.ref b] s) (F0 m 23 ls []) := by
  intro n
  induction n with
  | zero => intro i N cc ss H locs ls h1 h2; omega
  | succ n ih =>
    intro i N cc ss H locs ls h1 h2 hcc hss hNi hS hV hl
    have hx := C.1
    have hb := C.2.1
    refine lv_iload hx hb dL_law_23 (lv_at hl 0 rfl) ?_
    refine lv_aload_n hx hb dL_law_25 rfl (lv_at hl 1 rfl) ?_
    refine va_slen hx hb hX hbl (Nat.not_le.mpr hbl) hS dL_law_26 ?_
    refine lv_iconst (v := 4) hx hb dL_law_27 (by decide) ?_
    refine lv_isub hx hb dL_law_28 ?_
    rw [show Int32.ofNat L - 4 = nI L - nI 4 from rfl]
    refine lv_icmp_gt (tgt := 1857) hx hb dL_law_29 (by decide) (fun c1 => ?_) (fun c1 => ?_)
    · exact law_end hx hb hr hlocks hS (by omega) (by omega)
    · have hk : 4 * i + 4 ≤ L := by
        rw [Int32.lt_iff_toInt_lt, pk_sub_toInt (by omega) (by decide), nI_toInt (by omega)] at c1
        omega
      refine lv_aload_n hx hb dL_law_32 rfl (lv_at hl 1 rfl) ?_
      refine lv_iload hx hb dL_law_33 (lv_at hl 0 rfl) ?_
      refine va_sld hx hb hX hbl (Nat.not_le.mpr hbl) hS (vp_in_nI (show 4 * i < L by omega) (by omega)) dL_law_35 ?_
      rw [nI_clamp (show 4 * i < 2 ^ 31 by omega)]
      refine lv_bipush (v := 31) hx hb dL_law_36 (by decide) ?_
      refine lv_iand hx hb dL_law_38 ?_
      obtain ⟨j, hj, ej⟩ := pk_andE (xs (4 * i)) (m := 31) 5 (by decide)
      rw [ej]
      have next : ∀ (N1 : Nat) (H1 : Heap) (locs1 : List Loc) (ls1 : Array Slot) (cc1 ss1 : Nat), N1 ≤ N + 1 → cc1 ≤ cc + 10 → ss1 ≤ ss + 300 → va_S (fun q => s.heap.size ≤ q) s.heap H1 locs1 → LINV G s.heap.size o a0 adm N1 H1 → lv_has ls1 7 [(4, .int (nI (4 * i))), (0, .ref b), (1, .ref a0), (2, .ref (adm 30)), (3, .ref o)] → W p l e room_1 s m #[Value.ref b] below meth c H1 locs1 cc1 ss1 (lw_Z below #[Value.ref b] s) (F0 m 1851 ls1 []) := by
        intro N1 H1 locs1 ls1 cc1 ss1 g1 g2 g3 hS hV hl
        refine lv_iinc (v := nI (4 * (i + 1))) (lv' := [(4, .int (nI (4 * (i + 1)))), (0, .ref b), (1, .ref a0), (2, .ref (adm 30)), (3, .ref o)]) hx hb dL_law_1851 hl (k := 0) rfl (i4_4 i) (by decide) rfl (fun ls hl => ?_)
        refine lv_goto (tgt := 23) hx hb dL_law_1854 (by decide) ?_
        exact ih (i + 1) N1 _ _ _ _ _ (by omega) (by omega) (by omega) (by omega) (by omega) hS hV hl
      by_cases hj29 : j < 29
      · have h29 : j = 0 ∨ j = 1 ∨ j = 2 ∨ j = 3 ∨ j = 4 ∨ j = 5 ∨ j = 6 ∨ j = 7 ∨ j = 8 ∨ j = 9 ∨ j = 10 ∨ j = 11 ∨ j = 12 ∨ j = 13 ∨ j = 14 ∨ j = 15 ∨ j = 16 ∨ j = 17 ∨ j = 18 ∨ j = 19 ∨ j = 20 ∨ j = 21 ∨ j = 22 ∨ j = 23 ∨ j = 24 ∨ j = 25 ∨ j = 26 ∨ j = 27 ∨ j = 28 := by omega
        rcases h29 with rfl | rfl | rfl | rfl | rfl | rfl | rfl | rfl | rfl | rfl | rfl | rfl | rfl | rfl | rfl | rfl | rfl | rfl | rfl | rfl | rfl | rfl | rfl | rfl | rfl | rfl | rfl | rfl | rfl
        · refine lv_tableIn (off := 129) (tgt := 168) hx hb dL_law_39 (by decide) (by decide) (by decide) (by decide) ?_
          exact LC_setPrice l hl9 C hE hN hX hbl hF hL hk hcc hss (by omega) hS hV hl (fun H1 locs1 ls1 cc1 ss1 b1 b2 b3 b4 b5 => next (N + 1) H1 locs1 ls1 cc1 ss1 (Nat.le_refl _) b1 b2 b3 b4 b5)
        · refine lv_tableIn (off := 197) (tgt := 236) hx hb dL_law_39 (by decide) (by decide) (by decide) (by decide) ?_
          exact LC_buy l hl9 C hE hN hX hbl hF hL hk hcc hss (by omega) hS hV hl (fun H1 locs1 ls1 cc1 ss1 b1 b2 b3 b4 b5 => next (N + 1) H1 locs1 ls1 cc1 ss1 (Nat.le_refl _) b1 b2 b3 b4 b5)
        · refine lv_tableIn (off := 253) (tgt := 292) hx hb dL_law_39 (by decide) (by decide) (by decide) (by decide) ?_
          exact LC_admit l hl9 C hE hN hX hbl hF hL hk hcc hss (by omega) hS hV hl (fun H1 locs1 ls1 cc1 ss1 b1 b2 b3 b4 b5 => next (N + 1) H1 locs1 ls1 cc1 ss1 (Nat.le_refl _) b1 b2 b3 b4 b5)
        · refine lv_tableIn (off := 337) (tgt := 376) hx hb dL_law_39 (by decide) (by decide) (by decide) (by decide) ?_
          exact LC_giveBack l hl9 C hE hN hX hbl hF hL hk hcc hss (by omega) hS hV hl (fun H1 locs1 ls1 cc1 ss1 b1 b2 b3 b4 b5 => next (N + 1) H1 locs1 ls1 cc1 ss1 (Nat.le_refl _) b1 b2 b3 b4 b5)
        · refine lv_tableIn (off := 393) (tgt := 432) hx hb dL_law_39 (by decide) (by decide) (by decide) (by decide) ?_
          exact LC_join l hl9 C hE hN hX hbl hF hL hk hcc hss (by omega) hS hV hl (fun H1 locs1 ls1 cc1 ss1 b1 b2 b3 b4 b5 => next (N + 1) H1 locs1 ls1 cc1 ss1 (Nat.le_refl _) b1 b2 b3 b4 b5)
        · refine lv_tableIn (off := 449) (tgt := 488) hx hb dL_law_39 (by decide) (by decide) (by decide) (by decide) ?_
          exact LC_setCap l hl9 C hE hN hX hbl hF hL hk hcc hss (by omega) hS hV hl (fun H1 locs1 ls1 cc1 ss1 b1 b2 b3 b4 b5 => next (N + 1) H1 locs1 ls1 cc1 ss1 (Nat.le_refl _) b1 b2 b3 b4 b5)
        · refine lv_tableIn (off := 517) (tgt := 556) hx hb dL_law_39 (by decide) (by decide) (by decide) (by decide) ?_
          exact LC_close l hl9 C hE hN hX hbl hF hL hk hcc hss (by omega) hS hV hl (fun H1 locs1 ls1 cc1 ss1 b1 b2 b3 b4 b5 => next (N + 1) H1 locs1 ls1 cc1 ss1 (Nat.le_refl _) b1 b2 b3 b4 b5)
        · refine lv_tableIn (off := 601) (tgt := 640) hx hb dL_law_39 (by decide) (by decide) (by decide) (by decide) ?_
          exact LC_enter l hl9 C hE hN hX hbl hF hL hk hcc hss (by omega) hS hV hl (fun H1 locs1 ls1 cc1 ss1 b1 b2 b3 b4 b5 => next (N + 1) H1 locs1 ls1 cc1 ss1 (Nat.le_refl _) b1 b2 b3 b4 b5)
        · refine lv_tableIn (off := 676) (tgt := 715) hx hb dL_law_39 (by decide) (by decide) (by decide) (by decide) ?_
          exact LC_goOut l hl9 C hE hN hX hbl hF hL hk hcc hss (by omega) hS hV hl (fun H1 locs1 ls1 cc1 ss1 b1 b2 b3 b4 b5 => next (N + 1) H1 locs1 ls1 cc1 ss1 (Nat.le_refl _) b1 b2 b3 b4 b5)
        · refine lv_tableIn (off := 732) (tgt := 771) hx hb dL_law_39 (by decide) (by decide) (by decide) (by decide) ?_
          exact LC_addWork l hl9 C hE hN hX hbl hF hL hk hcc hss (by omega) hS hV hl (fun H1 locs1 ls1 cc1 ss1 b1 b2 b3 b4 b5 => next (N + 1) H1 locs1 ls1 cc1 ss1 (Nat.le_refl _) b1 b2 b3 b4 b5)
        · refine lv_tableIn (off := 788) (tgt := 827) hx hb dL_law_39 (by decide) (by decide) (by decide) (by decide) ?_
          exact LC_hang l hl9 C hE hN hX hbl hF hL hk hcc hss (by omega) hS hV hl (fun H1 locs1 ls1 cc1 ss1 b1 b2 b3 b4 b5 => next (N + 1) H1 locs1 ls1 cc1 ss1 (Nat.le_refl _) b1 b2 b3 b4 b5)
        · refine lv_tableIn (off := 856) (tgt := 895) hx hb dL_law_39 (by decide) (by decide) (by decide) (by decide) ?_
          exact LC_lend l hl9 C hE hN hX hbl hF hL hk hcc hss (by omega) hS hV hl (fun H1 locs1 ls1 cc1 ss1 b1 b2 b3 b4 b5 => next (N + 1) H1 locs1 ls1 cc1 ss1 (Nat.le_refl _) b1 b2 b3 b4 b5)
        · refine lv_tableIn (off := 936) (tgt := 975) hx hb dL_law_39 (by decide) (by decide) (by decide) (by decide) ?_
          exact LC_bringHome l hl9 C hE hN hX hbl hF hL hk hcc hss (by omega) hS hV hl (fun H1 locs1 ls1 cc1 ss1 b1 b2 b3 b4 b5 => next (N + 1) H1 locs1 ls1 cc1 ss1 (Nat.le_refl _) b1 b2 b3 b4 b5)
        · refine lv_tableIn (off := 1004) (tgt := 1043) hx hb dL_law_39 (by decide) (by decide) (by decide) (by decide) ?_
          exact LC_setShare l hl9 C hE hN hX hbl hF hL hk hcc hss (by omega) hS hV hl (fun H1 locs1 ls1 cc1 ss1 b1 b2 b3 b4 b5 => next (N + 1) H1 locs1 ls1 cc1 ss1 (Nat.le_refl _) b1 b2 b3 b4 b5)
        · refine lv_tableIn (off := 1072) (tgt := 1111) hx hb dL_law_39 (by decide) (by decide) (by decide) (by decide) ?_
          exact LC_sell l hl9 C hE hN hX hbl hF hL hk hcc hss (by omega) hS hV hl (fun H1 locs1 ls1 cc1 ss1 b1 b2 b3 b4 b5 => next (N + 1) H1 locs1 ls1 cc1 ss1 (Nat.le_refl _) b1 b2 b3 b4 b5)
        · refine lv_tableIn (off := 1152) (tgt := 1191) hx hb dL_law_39 (by decide) (by decide) (by decide) (by decide) ?_
          exact LC_give l hl9 C hE hN hX hbl hF hL hk hcc hss (by omega) hS hV hl (fun H1 locs1 ls1 cc1 ss1 b1 b2 b3 b4 b5 => next (N + 1) H1 locs1 ls1 cc1 ss1 (Nat.le_refl _) b1 b2 b3 b4 b5)
        · refine lv_tableIn (off := 1232) (tgt := 1271) hx hb dL_law_39 (by decide) (by decide) (by decide) (by decide) ?_
          exact LC_advance l hl9 C hE hN hX hbl hF hL hk hcc hss (by omega) hS hV hl (fun H1 locs1 ls1 cc1 ss1 b1 b2 b3 b4 b5 => next (N + 1) H1 locs1 ls1 cc1 ss1 (Nat.le_refl _) b1 b2 b3 b4 b5)
        · refine lv_tableIn (off := 1288) (tgt := 1327) hx hb dL_law_39 (by decide) (by decide) (by decide) (by decide) ?_
          exact LC_day l hl9 C hE hN hX hbl hF hL hk hcc hss (by omega) hS hV hl (fun H1 locs1 ls1 cc1 ss1 b1 b2 b3 b4 b5 => next (N + 1) H1 locs1 ls1 cc1 ss1 (Nat.le_refl _) b1 b2 b3 b4 b5)
        · refine lv_tableIn (off := 1301) (tgt := 1340) hx hb dL_law_39 (by decide) (by decide) (by decide) (by decide) ?_
          exact LC_tickets l hl9 C hE hN hX hbl hF hL hk hcc hss (by omega) hS hV hl (fun H1 locs1 ls1 cc1 ss1 b1 b2 b3 b4 b5 => next (N + 1) H1 locs1 ls1 cc1 ss1 (Nat.le_refl _) b1 b2 b3 b4 b5)
        · refine lv_tableIn (off := 1314) (tgt := 1353) hx hb dL_law_39 (by decide) (by decide) (by decide) (by decide) ?_
          exact LC_whereIs l hl9 C hE hN hX hbl hF hL hk hcc hss (by omega) hS hV hl (fun H1 locs1 ls1 cc1 ss1 b1 b2 b3 b4 b5 => next (N + 1) H1 locs1 ls1 cc1 ss1 (Nat.le_refl _) b1 b2 b3 b4 b5)
        · refine lv_tableIn (off := 1370) (tgt := 1409) hx hb dL_law_39 (by decide) (by decide) (by decide) (by decide) ?_
          exact LC_seen l hl9 C hE hN hX hbl hF hL hk hcc hss (by omega) hS hV hl (fun H1 locs1 ls1 cc1 ss1 b1 b2 b3 b4 b5 => next (N + 1) H1 locs1 ls1 cc1 ss1 (Nat.le_refl _) b1 b2 b3 b4 b5)
        · refine lv_tableIn (off := 1426) (tgt := 1465) hx hb dL_law_39 (by decide) (by decide) (by decide) (by decide) ?_
          exact LC_inside l hl9 C hE hN hX hbl hF hL hk hcc hss (by omega) hS hV hl (fun H1 locs1 ls1 cc1 ss1 b1 b2 b3 b4 b5 => next (N + 1) H1 locs1 ls1 cc1 ss1 (Nat.le_refl _) b1 b2 b3 b4 b5)
        · refine lv_tableIn (off := 1482) (tgt := 1521) hx hb dL_law_39 (by decide) (by decide) (by decide) (by decide) ?_
          exact LC_queued l hl9 C hE hN hX hbl hF hL hk hcc hss (by omega) hS hV hl (fun H1 locs1 ls1 cc1 ss1 b1 b2 b3 b4 b5 => next (N + 1) H1 locs1 ls1 cc1 ss1 (Nat.le_refl _) b1 b2 b3 b4 b5)
        · refine lv_tableIn (off := 1550) (tgt := 1589) hx hb dL_law_39 (by decide) (by decide) (by decide) (by decide) ?_
          exact LC_views l hl9 C hE hN hX hbl hF hL hk hcc hss (by omega) hS hV hl (fun H1 locs1 ls1 cc1 ss1 b1 b2 b3 b4 b5 => next (N + 1) H1 locs1 ls1 cc1 ss1 (Nat.le_refl _) b1 b2 b3 b4 b5)
        · refine lv_tableIn (off := 1606) (tgt := 1645) hx hb dL_law_39 (by decide) (by decide) (by decide) (by decide) ?_
          exact LC_titleAt l hl9 C hE hN hX hbl hF hL hk hcc hss (by omega) hS hV hl (fun H1 locs1 ls1 cc1 ss1 b1 b2 b3 b4 b5 => next (N + 1) H1 locs1 ls1 cc1 ss1 (Nat.le_refl _) b1 b2 b3 b4 b5)
        · refine lv_tableIn (off := 1674) (tgt := 1713) hx hb dL_law_39 (by decide) (by decide) (by decide) (by decide) ?_
          exact LC_money l hl9 C hE hN hX hbl hF hL hk hcc hss (by omega) hS hV hl (fun H1 locs1 ls1 cc1 ss1 b1 b2 b3 b4 b5 => next (N + 1) H1 locs1 ls1 cc1 ss1 (Nat.le_refl _) b1 b2 b3 b4 b5)
        · refine lv_tableIn (off := 1730) (tgt := 1769) hx hb dL_law_39 (by decide) (by decide) (by decide) (by decide) ?_
          exact LC_moneyBySeen l hl9 C hE hN hX hbl hF hL hk hcc hss (by omega) hS hV hl (fun H1 locs1 ls1 cc1 ss1 b1 b2 b3 b4 b5 => next (N + 1) H1 locs1 ls1 cc1 ss1 (Nat.le_refl _) b1 b2 b3 b4 b5)
        · refine lv_tableIn (off := 1786) (tgt := 1825) hx hb dL_law_39 (by decide) (by decide) (by decide) (by decide) ?_
          exact LC_held l hl9 C hE hN hX hbl hF hL hk hcc hss (by omega) hS hV hl (fun H1 locs1 ls1 cc1 ss1 b1 b2 b3 b4 b5 => next (N + 1) H1 locs1 ls1 cc1 ss1 (Nat.le_refl _) b1 b2 b3 b4 b5)
        · refine lv_tableIn (off := 1799) (tgt := 1838) hx hb dL_law_39 (by decide) (by decide) (by decide) (by decide) ?_
          exact LC_takings l hl9 C hE hN hX hbl hF hL hk hcc hss (by omega) hS hV hl (fun H1 locs1 ls1 cc1 ss1 b1 b2 b3 b4 b5 => next (N + 1) H1 locs1 ls1 cc1 ss1 (Nat.le_refl _) b1 b2 b3 b4 b5)
      · refine lv_tableOut (tgt := 1851) hx hb dL_law_39 (Or.inr (by rw [nI_toInt (by omega)]; omega)) (by decide) ?_
        exact next N H locs ls cc ss (Nat.le_succ _) (Nat.le_add_right _ _) (Nat.le_add_right _ _) hS hV hl
end LAWLOOP
