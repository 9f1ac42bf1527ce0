theorem rbit_eq (r : Nat) : rbit r = (1 : Int32) <<< (nI r &&& 31) := rfl
theorem bit_self {s r : Nat} (hs : s < 4096) (hr : r < 12) (h : mBit (nI s) r = 1) : s ||| 2 ^ r = s := by
  rw [mBit_n hs hr] at h
  have h2 : s / 2 ^ r % 2 < 2 := Nat.mod_lt _ (by decide)
  have h1 : s / 2 ^ r % 2 = 1 := nIe (by omega) (by decide) h
  apply Nat.eq_of_testBit_eq
  intro i
  rw [Nat.testBit_or, Nat.testBit_two_pow]
  by_cases c : r = i
  · subst c
    have : s.testBit r = true := by
      rw [Nat.testBit_eq_decide_div_mod_eq]
      simp [h1]
    simp [this]
  · simp [c]
section LSEE
variable {μ τ : SG} {nT nW t r h j : Nat}
theorem LR.view4 (hR : LR μ τ nT nW) (hr : r < 12) (hh : h < 4) (x : Int32) : LR (up (up (up (up μ 12 j (μ 12 j + 1)) 13 (r / 3) (μ 13 (r / 3) - x)) 13 h ((up (up μ 12 j (μ 12 j + 1)) 13 (r / 3) (μ 13 (r / 3) - x)) 13 h + x)) 10 j (μ 10 j + x)) (mV4 τ j r h x) nT nW := by
  have e1 := (lr_b hR j).2.2
  have e2 := lr_m hR (j := r / 3) (by omega)
  have e4 := (lr_b hR j).1
  have s2 := (hR.v12 (t := j) (x := μ 12 j + 1)).m13 (t := r / 3) (x := μ 13 (r / 3) - x)
  have e3 := lr_m s2 (j := h) (by omega)
  have s4 := (s2.m13 (t := h) (x := (up (up μ 12 j (μ 12 j + 1)) 13 (r / 3) (μ 13 (r / 3) - x)) 13 h + x)).b10 (t := j) (x := μ 10 j + x)
  unfold mV4
  rw [← e1, ← e2, ← e3, ← e4]
  exact s4
theorem view0 {k : Nat} : up (up (up (up μ 12 j (μ 12 j + 0)) 13 k (μ 13 k - 0)) 13 h ((up (up μ 12 j (μ 12 j + 0)) 13 k (μ 13 k - 0)) 13 h + 0)) 10 j (μ 10 j + 0) = μ := by simp only [Int32.add_zero, Int32.sub_zero, up_id]
theorem LR.look (hR : LR μ τ nT nW) (ht : t < nT) (hr : r < 12) : LR (up (up μ 6 t (nI (r + 1))) 5 t (τ 13 t ||| ((1 : Int32) <<< (nI r &&& 31)))) (up (up τ 10 t (nI r)) 13 t (τ 13 t ||| ((1 : Int32) <<< (nI r &&& 31)))) nT nW := by
  obtain ⟨s, hs, es⟩ := lr_s4 hR t
  obtain ⟨b1, b2⟩ := bit_or hs hr
  have b1' : nI s ||| ((1 : Int32) <<< (nI r &&& 31)) = nI (s ||| 2 ^ r) := b1
  rw [es, b1']
  exact (hR.w6 ht (Or.inr ⟨r, hr, Or.inl ⟨rfl, rfl⟩⟩)).s5 b2
theorem LR.seen (hR : LR μ τ nT nW) (ht : t < nT) (hr : r < 12) (hb : mBit (τ 13 t) r = 1) : LR (up (up μ 6 t (nI (r + 1))) 5 t (τ 13 t ||| ((1 : Int32) <<< (nI r &&& 31)))) (mSee nW t r τ) nT nW := by
  have h1 := hR.look ht hr
  obtain ⟨s, hs, es⟩ := lr_s4 hR t
  have e : up (up τ 10 t (nI r)) 13 t (τ 13 t ||| ((1 : Int32) <<< (nI r &&& 31))) = up τ 10 t (nI r) := by
    have e2 : τ 13 t ||| ((1 : Int32) <<< (nI r &&& 31)) = (up τ 10 t (nI r)) 13 t := by
      rw [up_f (by decide)]
      rw [es] at hb ⊢
      exact (bit_or hs hr).1.trans (by rw [bit_self hs hr hb])
    rw [e2, up_id]
  rw [e] at h1
  unfold mSee
  rw [if_pos hb]
  exact h1
theorem bit01 (hR : LR μ τ nT nW) (hr : r < 12) : mBit (τ 13 t) r = 0 ∨ mBit (τ 13 t) r = 1 := by
  obtain ⟨s, hs, es⟩ := lr_s4 hR t
  rw [es]
  exact bit_01 hs hr
end LSEE
