/-! bits of a stack -/
theorem zl_shl1 (S : Int32) : (S <<< (nI 1 &&& nI 31)).toBitVec = S.toBitVec <<< 1 := by
  rw [zl_m31 (by omega)]
  show S.toBitVec <<< (((nI 1).toBitVec.smod 32).toNat) = _
  rw [zl_shN 1 (by omega)]
theorem zl_shr1 (S : Int32) : (S >>> (nI 1 &&& nI 31)).toBitVec = S.toBitVec.sshiftRight 1 := by
  rw [zl_m31 (by omega)]
  show S.toBitVec.sshiftRight (((nI 1).toBitVec.smod 32).toNat) = _
  rw [zl_shN 1 (by omega)]
def za_bits (S : Int32) (st : List Bool) : Prop := ∀ i, i < st.length → S.toBitVec.getLsbD i = st.getD i false
theorem zl_b2 (b : Bool) (i : Nat) : (nI b.toNat).toBitVec.getLsbD i = (decide (i = 0) && b) := by
  cases b
  · simp [nI]
  · simp [nI]
theorem za_bits.push {S : Int32} {st : List Bool} (h : za_bits S st) (hl : st.length < 31) (b : Bool) : za_bits ((S <<< (nI 1 &&& nI 31)) ||| nI b.toNat) (b :: st) := by
  intro i hi
  rw [Int32.toBitVec_or, zl_shl1, BitVec.getLsbD_or, zl_b2, BitVec.getLsbD_shiftLeft]
  simp only [List.length_cons] at hi
  cases i with
  | zero => simp
  | succ i =>
    have := h i (by omega)
    simp only [List.getD_cons_succ]
    rw [← this]
    simp
    omega
theorem za_bits.top {S : Int32} {t : Bool} {r : List Bool} (h : za_bits S (t :: r)) : S &&& nI 1 = nI t.toNat := by
  have h0 := h 0 (by simp)
  simp only [List.getD_cons_zero] at h0
  rw [pk_and S 1 (by decide), Nat.pow_one, ← h0]
  congr 1
  rw [BitVec.getLsbD, Nat.testBit_zero]
  rcases Nat.mod_two_eq_zero_or_one S.toBitVec.toNat with q | q <;> simp [q]
theorem za_bits.and {S : Int32} {a b : Bool} {r : List Bool} (h : za_bits S (b :: a :: r)) (hl : r.length < 29) : za_bits ((S >>> (nI 1 &&& nI 31)) &&& (nI b.toNat ||| -2)) ((a && b) :: r) := by
  intro i hi
  rw [Int32.toBitVec_and, zl_shr1, Int32.toBitVec_or, BitVec.getLsbD_and, BitVec.getLsbD_or, zl_b2, BitVec.getLsbD_sshiftRight]
  simp only [List.length_cons] at hi
  have hi2 : 1 + i < 32 := by omega
  have e2 : ∀ i, i < 32 → ((-2 : Int32).toBitVec).getLsbD i = decide (i ≠ 0) := by decide
  rw [e2 i (by omega)]
  have h1 := h (1 + i) (by simp; omega)
  rw [Nat.add_comm 1 i, List.getD_cons_succ] at h1
  rw [Nat.add_comm 1 i, h1]
  have hlt : i + 1 < 32 := by omega
  cases i with
  | zero => cases a <;> cases b <;> simp
  | succ i =>
    simp only [List.getD_cons_succ]
    simp [hlt]
    omega
theorem za_bits.or {S : Int32} {a b : Bool} {r : List Bool} (h : za_bits S (b :: a :: r)) (hl : r.length < 29) : za_bits ((S >>> (nI 1 &&& nI 31)) ||| nI b.toNat) ((a || b) :: r) := by
  intro i hi
  rw [Int32.toBitVec_or, zl_shr1, BitVec.getLsbD_or, zl_b2, BitVec.getLsbD_sshiftRight]
  simp only [List.length_cons] at hi
  have h1 := h (1 + i) (by simp; omega)
  rw [Nat.add_comm 1 i, List.getD_cons_succ] at h1
  rw [Nat.add_comm 1 i, h1]
  have hlt : i + 1 < 32 := by omega
  cases i with
  | zero => cases a <;> cases b <;> simp
  | succ i =>
    simp only [List.getD_cons_succ]
    simp [hlt]
    omega
theorem za_bits.not {S : Int32} {b : Bool} {r : List Bool} (h : za_bits S (b :: r)) : za_bits (S ^^^ nI 1) ((!b) :: r) := by
  intro i hi
  rw [Int32.toBitVec_xor, BitVec.getLsbD_xor, show nI 1 = nI true.toNat from rfl, zl_b2, h i (by simpa using hi)]
  cases i with
  | zero => simp
  | succ i => simp
theorem za_bits.nil (S : Int32) : za_bits S [] := fun i hi => by simp at hi
