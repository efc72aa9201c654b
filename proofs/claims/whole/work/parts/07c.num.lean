/-! numbers -/
theorem zl_c : ((0 : Int32) = nI 0) ∧ ((1 : Int32) = nI 1) ∧ ((2 : Int32) = nI 2) ∧ ((4 : Int32) = nI 4) ∧ ((8 : Int32) = nI 8) ∧ ((3 : Int32) = nI 3) ∧ ((16 : Int32) = nI 16) ∧ ((20 : Int32) = nI 20) ∧ ((10 : Int32) = nI 10) ∧ ((26 : Int32) = nI 26) ∧ ((60 : Int32) = nI 60) ∧ ((6 : Int32) = nI 6) ∧ ((43 : Int32) = nI 43) ∧ ((33 : Int32) = nI 33) ∧ ((14 : Int32) = nI 14) ∧ ((5 : Int32) = nI 5) ∧ ((37 : Int32) = nI 37) ∧ ((32 : Int32) = nI 32) ∧ ((31 : Int32) = nI 31) ∧ ((28 : Int32) = nI 28) ∧ ((100 : Int32) = nI 100) ∧ ((30 : Int32) = nI 30) ∧ ((29 : Int32) = nI 29) ∧ ((9 : Int32) = nI 9) ∧ ((48 : Int32) = nI 48) ∧ ((7 : Int32) = nI 7) ∧ ((65535 : Int32) = nI 65535) ∧ ((9999 : Int32) = nI 9999) ∧ ((41 : Int32) = nI 41) ∧ ((228 : Int32) = nI 228) ∧ ((223 : Int32) = nI 223) ∧ ((15 : Int32) = nI 15) ∧ ((11 : Int32) = nI 11) ∧ ((57 : Int32) = nI 57) ∧ ((49 : Int32) = nI 49) ∧ ((27 : Int32) = nI 27) ∧ ((21 : Int32) = nI 21) ∧ ((115 : Int32) = nI 115) ∧ ((99 : Int32) = nI 99) ∧ ((933 : Int32) = nI 933) ∧ ((91 : Int32) = nI 91) ∧ ((85 : Int32) = nI 85) ∧ ((79 : Int32) = nI 79) ∧ ((73 : Int32) = nI 73) ∧ ((61 : Int32) = nI 61) ∧ ((59 : Int32) = nI 59) ∧ ((51 : Int32) = nI 51) ∧ ((40 : Int32) = nI 40) ∧ ((38 : Int32) = nI 38) ∧ ((233 : Int32) = nI 233) ∧ ((140 : Int32) = nI 140) ∧ ((127 : Int32) = nI 127) ∧ ((124 : Int32) = nI 124) ∧ ((123 : Int32) = nI 123) ∧ ((12 : Int32) = nI 12) ∧ ((107 : Int32) = nI 107) ∧ ((1024 : Int32) = nI 1024) ∧ ((65536 : Int32) = nI 65536) ∧ ((64 : Int32) = nI 64) ∧ ((63 : Int32) = nI 63) ∧ ((560 : Int32) = nI 560) ∧ ((4096 : Int32) = nI 4096) ∧ ((3840 : Int32) = nI 3840) ∧ ((256 : Int32) = nI 256) ∧ ((22 : Int32) = nI 22) ∧ ((2047 : Int32) = nI 2047) ∧ ((19 : Int32) = nI 19) ∧ ((18 : Int32) = nI 18) ∧ ((114 : Int32) = nI 114) ∧ ((2147483647 : Int32) = nI 2147483647) := ⟨rfl, rfl, rfl, rfl, rfl, rfl, rfl, rfl, rfl, rfl, rfl, rfl, rfl, rfl, rfl, rfl, rfl, rfl, rfl, rfl, rfl, rfl, rfl, rfl, rfl, rfl, rfl, rfl, rfl, rfl, rfl, rfl, rfl, rfl, rfl, rfl, rfl, rfl, rfl, rfl, rfl, rfl, rfl, rfl, rfl, rfl, rfl, rfl, rfl, rfl, rfl, rfl, rfl, rfl, rfl, rfl, rfl, rfl, rfl, rfl, rfl, rfl, rfl, rfl, rfl, rfl, rfl, rfl, rfl, rfl⟩
theorem zl_bv (n : Nat) : (nI n).toBitVec = BitVec.ofNat 32 n := rfl
theorem zl_and (a b : Nat) : nI a &&& nI b = nI (a &&& b) := by
  apply Int32.toBitVec_inj.mp
  rw [Int32.toBitVec_and, zl_bv, zl_bv, zl_bv, BitVec.ofNat_and]
theorem zl_or (a b : Nat) : nI a ||| nI b = nI (a ||| b) := by
  apply Int32.toBitVec_inj.mp
  rw [Int32.toBitVec_or, zl_bv, zl_bv, zl_bv, BitVec.ofNat_or]
theorem zl_xor (a b : Nat) : nI a ^^^ nI b = nI (a ^^^ b) := by
  apply Int32.toBitVec_inj.mp
  rw [Int32.toBitVec_xor, zl_bv, zl_bv, zl_bv, BitVec.ofNat_xor]
theorem zl_m31 {k : Nat} (h : k < 32) : nI k &&& nI 31 = nI k := by
  rw [zl_and]
  have : ∀ k, k < 32 → k &&& 31 = k := by decide
  rw [this k h]
theorem zl_shN : ∀ k, k < 32 → ((nI k).toBitVec.smod 32).toNat = k := by decide +kernel
theorem zl_shl {a k : Nat} (h : k < 32) (hb : a * 2 ^ k < 2 ^ 32) : nI a <<< (nI k &&& nI 31) = nI (a * 2 ^ k) := by
  rw [zl_m31 h]
  exact pk_shlN _ k (zl_shN k h) hb
theorem zl_shr {a k : Nat} (h : k < 32) (hb : a < 2 ^ 31) : nI a >>> (nI k &&& nI 31) = nI (a / 2 ^ k) := by
  rw [zl_m31 h]
  exact pk_shrN hb _ k (zl_shN k h)
theorem zl_bit {a k : Nat} (h : k < 32) (hb : a < 2 ^ 31) : (nI a >>> (nI k &&& nI 31)) &&& nI 1 = nI (a.testBit k).toNat := by
  rw [zl_shr h hb, zl_and]
  congr 1
  rw [Nat.and_one_is_mod, Nat.testBit_eq_decide_div_mod_eq]
  have := Nat.mod_two_eq_zero_or_one (a / 2 ^ k)
  rcases this with q | q <;> simp [q]
theorem zl_bit0 (b : Bool) : (nI b.toNat = nI 0) ↔ b = false := by cases b <;> decide
theorem zl_bit1 (b : Bool) : (nI b.toNat = nI 1) ↔ b = true := by cases b <;> decide
theorem zl_neg1 {a : Nat} (h : a < 2 ^ 31) : ¬ nI a = -1 := by
  intro q
  have := congrArg Int32.toInt q
  rw [nI_toInt h] at this
  have e : (-1 : Int32).toInt = -1 := by decide
  omega
/-- what an argument can be -/
theorem zl_arg (x : Int32) (n : Nat) (hn : n < 2 ^ 31) : (∃ j, j < n ∧ x = nI j) ∨ (x < nI 0 ∨ nI n ≤ x) := by
  rcases pk_ix x hn with h | h | ⟨j, h1, h2⟩
  · exact Or.inr (Or.inl h)
  · exact Or.inr (Or.inr h)
  · exact Or.inl ⟨j, h1, h2⟩
theorem zl_in {t kd j n : Nat} {e : List Nat} (h : zj_at t = (kd, n, e)) (ht : t < 101) (hj : j < n) (hn : n < 2 ^ 31) : zj_in t kd (nI j) = true := by
  unfold zj_in
  rw [h, nI_clamp (by omega)]
  have hz : ¬ nI j < 0 := by
    rw [show (0 : Int32) = nI 0 from rfl, nI_ltI (by omega) (by omega)]
    omega
  simp [hz, hj, zj_N, ht]
