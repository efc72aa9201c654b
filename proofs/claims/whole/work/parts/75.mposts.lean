/-! POSTS, GRAVEL: the reference -/
section ZX
variable {k : zj_K} {E : zj_E} {st : List Value} {m : zj_M} {x y : Int32} {a0 a1 a2 a3 a4 a5 a6 a7 a8 a9 a10 b : Option Value}
theorem zy_ild11 : zi_ild 11 k (a0 :: a1 :: a2 :: a3 :: a4 :: a5 :: a6 :: a7 :: a8 :: a9 :: a10 :: some (.int x) :: E) st m = k (a0 :: a1 :: a2 :: a3 :: a4 :: a5 :: a6 :: a7 :: a8 :: a9 :: a10 :: some (.int x) :: E) (.int x :: st) m := rfl
theorem zy_ild12 : zi_ild 12 k (a0 :: a1 :: a2 :: a3 :: a4 :: a5 :: a6 :: a7 :: a8 :: a9 :: a10 :: b :: some (.int x) :: E) st m = k (a0 :: a1 :: a2 :: a3 :: a4 :: a5 :: a6 :: a7 :: a8 :: a9 :: a10 :: b :: some (.int x) :: E) (.int x :: st) m := rfl
theorem zy_ist11 : zi_ist 11 k (a0 :: a1 :: a2 :: a3 :: a4 :: a5 :: a6 :: a7 :: a8 :: a9 :: some (.int y) :: b :: E) (.int x :: st) m = k (a0 :: a1 :: a2 :: a3 :: a4 :: a5 :: a6 :: a7 :: a8 :: a9 :: some (.int y) :: some (.int x) :: E) st m := by simp [zi_ist, zj_sok, zj_isL]
theorem zy_ist12 : zi_ist 12 k (a0 :: a1 :: a2 :: a3 :: a4 :: a5 :: a6 :: a7 :: a8 :: a9 :: a10 :: some (.int y) :: b :: E) (.int x :: st) m = k (a0 :: a1 :: a2 :: a3 :: a4 :: a5 :: a6 :: a7 :: a8 :: a9 :: a10 :: some (.int y) :: some (.int x) :: E) st m := by simp [zi_ist, zj_sok, zj_isL]
end ZX
/-- the set and whether it counts, by three places in one number -/
def zs_st (n k : Nat) : Nat := (if 0 < n then 2 ^ (k / 256) else 0) ||| (if 1 < n then 2 ^ (k / 16 % 16) else 0) ||| (if 2 < n then 2 ^ (k % 16) else 0)
def zs_rw (n k : Nat) : Bool := decide ((0 < n ∨ k / 256 = 0) ∧ (if 1 < n then k / 256 < k / 16 % 16 else k / 16 % 16 = 0) ∧ (if 2 < n then k / 16 % 16 < k % 16 else k % 16 = 0))
def zs_inv (n s : Nat) : Nat := if n = 0 then 0 else if n = 1 then Nat.log2 s * 256 else if n = 2 then Nat.log2 (s - 2 ^ Nat.log2 s) * 256 + Nat.log2 s * 16 else Nat.log2 (s - 2 ^ Nat.log2 s - 2 ^ Nat.log2 (s - 2 ^ Nat.log2 s)) * 256 + Nat.log2 (s - 2 ^ Nat.log2 s) * 16 + Nat.log2 s
theorem zs_rows_in : ∀ n, n < 4 → (List.range 4096).all (fun k => !(zs_rw n k) || (ze_ss n).contains (zs_st n k)) = true := by decide +kernel
theorem zs_rows_all : ∀ n, n < 4 → (ze_ss n).all (fun s => decide (zs_inv n s < 4096) && (zs_rw n (zs_inv n s) && (zs_st n (zs_inv n s) == s))) = true := by decide +kernel
theorem ze_ss_sorted : ∀ n, n < 4 → (ze_ss n).Pairwise (fun a b => a < b) := by decide +kernel
theorem zs_pc_min (f : Nat → Nat) : ∀ (l : List Nat) (le b : Nat), l.Pairwise (fun a b => a < b) → (∀ s, s ∈ l → (zs_pc f l le b).1 ≤ f s) ∧ (zs_pc f l le b).1 ≤ le ∧ (((zs_pc f l le b).1 = le ∧ (zs_pc f l le b).2 = b) ∨ ((zs_pc f l le b).1 < le ∧ (zs_pc f l le b).2 ∈ l ∧ f (zs_pc f l le b).2 = (zs_pc f l le b).1 ∧ ∀ s, s ∈ l → f s = (zs_pc f l le b).1 → (zs_pc f l le b).2 ≤ s))
  | [], le, b, _ => ⟨fun s hs => by simp at hs, Nat.le_refl _, Or.inl ⟨rfl, rfl⟩⟩
  | s :: ss, le, b, hp => by
    obtain ⟨p1, p2⟩ := List.pairwise_cons.mp hp
    rw [zs_pc]
    by_cases h : f s < le
    · rw [if_pos h]
      obtain ⟨i1, i2, i3⟩ := zs_pc_min f ss (f s) s p2
      refine ⟨fun x hx => ?_, by omega, Or.inr ⟨by omega, ?_, ?_, fun x hx he => ?_⟩⟩
      · rcases List.mem_cons.mp hx with rfl | hx
        · exact i2
        · exact i1 x hx
      · rcases i3 with ⟨-, q⟩ | ⟨-, q, -⟩
        · rw [q]; exact List.mem_cons_self
        · exact List.mem_cons_of_mem _ q
      · rcases i3 with ⟨q1, q2⟩ | ⟨-, -, q, -⟩
        · rw [q2, q1]
        · exact q
      · rcases i3 with ⟨q1, q2⟩ | ⟨q0, -, -, q⟩
        · rw [q2]
          rcases List.mem_cons.mp hx with rfl | hx
          · exact Nat.le_refl _
          · exact Nat.le_of_lt (p1 x hx)
        · rcases List.mem_cons.mp hx with rfl | hx
          · omega
          · exact q x hx he
    · rw [if_neg h]
      obtain ⟨i1, i2, i3⟩ := zs_pc_min f ss le b p2
      refine ⟨fun x hx => ?_, i2, ?_⟩
      · rcases List.mem_cons.mp hx with rfl | hx
        · omega
        · exact i1 x hx
      · rcases i3 with q | ⟨q0, q1, q2, q3⟩
        · exact Or.inl q
        · refine Or.inr ⟨q0, List.mem_cons_of_mem _ q1, q2, fun x hx he => ?_⟩
          rcases List.mem_cons.mp hx with rfl | hx
          · omega
          · exact q3 x hx he
/-- what the reference holds behind the first k numbers -/
def zs_J (f : Nat → Nat) (n k : Nat) (best : Int32) (least : Nat) : Prop := (best = -nI 1 ∧ least = 0 ∧ ∀ j, j < k → zs_rw n j = false) ∨ ∃ b, best = nI b ∧ b < 65536 ∧ least = f b ∧ (∃ j, j < k ∧ zs_rw n j = true ∧ zs_st n j = b) ∧ ∀ j, j < k → zs_rw n j = true → f b < f (zs_st n j) ∨ (f b = f (zs_st n j) ∧ b ≤ zs_st n j)
theorem zs_J_end {f : Nat → Nat} {n : Nat} (hn : n < 4) (hf : ∀ s, f s < 2147483647) {best : Int32} {least : Nat} (h : zs_J f n 4096 best least) : best = nI (zs_pc f (ze_ss n) 2147483647 0).2 ∧ least = (zs_pc f (ze_ss n) 2147483647 0).1 := by
  obtain ⟨i1, i2, i3⟩ := zs_pc_min f (ze_ss n) 2147483647 0 (ze_ss_sorted n hn)
  have hl := ze_ss_len n hn
  have hmem : (ze_ss n).getD 0 0 ∈ ze_ss n := by
    rw [List.getD_eq_getElem?_getD, List.getElem?_eq_getElem (by omega)]
    exact List.getElem_mem _
  have hall : ∀ s, s ∈ ze_ss n → ∃ j, j < 4096 ∧ zs_rw n j = true ∧ zs_st n j = s := fun s hs => by
    have := List.all_eq_true.mp (zs_rows_all n hn) s hs
    simp only [Bool.and_eq_true, decide_eq_true_eq, beq_iff_eq] at this
    exact ⟨zs_inv n s, this.1, this.2.1, this.2.2⟩
  have hin : ∀ j, j < 4096 → zs_rw n j = true → zs_st n j ∈ ze_ss n := fun j hj hr => by
    have := List.all_eq_true.mp (zs_rows_in n hn) j (List.mem_range.mpr hj)
    simp only [hr, Bool.not_true, Bool.false_or] at this
    exact List.elem_iff.mp this
  generalize zs_pc f (ze_ss n) 2147483647 0 = r at *
  rcases h with ⟨-, -, h⟩ | ⟨b, h1, h2, h3, ⟨j, hj, hr, hs⟩, h5⟩
  · obtain ⟨j, hj, hr, -⟩ := hall _ hmem
    rw [h j hj] at hr
    exact absurd hr (by decide)
  · rcases i3 with ⟨q1, -⟩ | ⟨q0, q1, q2, q3⟩
    · have := i1 _ hmem
      have := hf ((ze_ss n).getD 0 0)
      omega
    · obtain ⟨j2, hj2, hr2, hs2⟩ := hall _ q1
      have k1 := h5 j2 hj2 hr2
      rw [hs2] at k1
      have k2 := i1 b (by rw [← hs]; exact hin j hj hr)
      have k3 : f b = r.1 := by omega
      have k4 := q3 b (by rw [← hs]; exact hin j hj hr) k3
      have k5 : b = r.2 := by omega
      rw [h1, h3, k5]
      exact ⟨rfl, q2⟩
section ZQ
variable {r : zj_K} {m : zj_M} {q best least : Int32} {x6 x7 x8 x9 x10 x11 x12 : Option Value}
theorem zt_ps_sh {a : Nat} (h : a < 16) : nI 1 <<< (nI a &&& nI 31) = nI (2 ^ a) := by
  have := zl_bsh (b := true) h
  rw [show true.toNat * 2 ^ a = 2 ^ a by simp] at this
  exact this
end ZQ
