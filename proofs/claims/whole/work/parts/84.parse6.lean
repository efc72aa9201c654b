/-! park: the group of the parser -/
theorem zj_rec_s (B : (Nat → zj_F) → Nat → zj_F) (n i : Nat) : zj_rec B (n + 1) i = B (zj_rec B n) i := rfl
theorem zg_re0 (F : Nat → zj_F) : zg_X2_readEither F 0 = zj_run 3 (zb_X2_readEither_0 F) := rfl
theorem zg_re1 (F : Nat → zj_F) : zg_X2_readEither F 1 = zj_run 3 (zb_X2_readBoth_0 F) := rfl
theorem zg_re2 (F : Nat → zj_F) : zg_X2_readEither F 2 = zj_run 4 (zb_X2_readPart_0 F) := rfl
theorem zg_re3 (F : Nat → zj_F) : zg_X2_readEither F 3 = zj_run 2 (zb_X2_readOpen_0 F) := rfl
section ZQ
variable {T : List Nat}
theorem zt_part_e0 (T : List Nat) : zp_part T 0 = fun s => if zp_sg T s = some 33 ∨ zp_sg T s = some 40 then zp_fail s else zp_test T s := by
  funext s
  rw [zp_part]
theorem zt_part_eS (T : List Nat) (b : Nat) : zp_part T (b + 1) = fun s => if zp_sg T s = some 33 ∨ zp_sg T s = some 40 then (if zp_sg T s = some 33 then zp_wr (zp_part T b (zp_next s)) 20 0 else zp_take T 41 (zp_either T (zp_part T b) (zp_next s))) else zp_test T s := by
  funext s
  rw [zp_part]
  by_cases q : zp_sg T s = some 33
  · rw [if_pos q, if_pos (Or.inl q), if_pos q]
  · rw [if_neg q]
    by_cases q2 : zp_sg T s = some 40
    · rw [if_pos q2, if_pos (Or.inr q2), if_neg q]
    · rw [if_neg q2, if_neg (fun x => x.elim q q2)]
theorem zt_rec_part {R : Nat → Nat → zj_F} (r0 : ∀ n, R (n + 1) 0 = zj_run 3 (zb_X2_readEither_0 (R n))) (r1 : ∀ n, R (n + 1) 1 = zj_run 3 (zb_X2_readBoth_0 (R n))) (r2 : ∀ n, R (n + 1) 2 = zj_run 4 (zb_X2_readPart_0 (R n))) (r3 : ∀ n, R (n + 1) 3 = zj_run 2 (zb_X2_readOpen_0 (R n))) : ∀ b, b ≤ 5 → ∀ n, 4 * b + 2 ≤ n → zp_X T (R n 2) (5 - b) (zp_part T b) := by
  intro b
  induction b with
  | zero =>
    intro _ n hn
    obtain ⟨k, rfl⟩ : ∃ k, n = k + 1 + 1 := ⟨n - 2, by omega⟩
    have h := zt_part (T := T) (F := R (k + 1)) (o := 5) (po := zp_fail) (fun m s _ h _ => by rw [r3]; exact zt_open0 m s h)
    rw [r2, zt_part_e0]
    exact h
  | succ b ih0 =>
    intro hb n hn
    obtain ⟨k, rfl⟩ : ∃ k, n = k + 1 + 1 + 1 + 1 := ⟨n - 4, by omega⟩
    have ih := ih0 (by omega)
    have eo : 5 - (b + 1) + 1 = 5 - b := by omega
    have hP : zp_X T (R (k + 1 + 1) 2) (5 - (b + 1) + 1) (zp_part T b) := by rw [eo]; exact ih (k + 1 + 1) (by omega)
    have h2 : zp_X T (R k 2) (5 - (b + 1) + 1) (zp_part T b) := by rw [eo]; exact ih k (by omega)
    have h1 : zp_X T (R (k + 1) 1) (5 - (b + 1) + 1) (zp_both T (zp_part T b)) := by rw [r1]; exact zt_both h2
    have hE : zp_X T (R (k + 1 + 1) 0) (5 - (b + 1) + 1) (zp_either T (zp_part T b)) := by rw [r0]; exact zt_either h1
    have h := zt_part (T := T) (F := R (k + 1 + 1 + 1)) (o := 5 - (b + 1)) (po := fun s => if zp_sg T s = some 33 then zp_wr (zp_part T b (zp_next s)) 20 0 else zp_take T 41 (zp_either T (zp_part T b) (zp_next s))) (fun m s hT h hs => by rw [r3]; exact zt_openS (by omega) hP hE m s hT h hs)
    rw [r2, zt_part_eS]
    exact h
theorem zt_X2_readEither : zp_X T zf_X2_readEither 0 (zp_either T (zp_part T 5)) := by
  have r0 : ∀ n, zj_rec zg_X2_readEither (n + 1) 0 = zj_run 3 (zb_X2_readEither_0 (zj_rec zg_X2_readEither n)) := fun n => (zj_rec_s _ n 0).trans (zg_re0 _)
  have r1 : ∀ n, zj_rec zg_X2_readEither (n + 1) 1 = zj_run 3 (zb_X2_readBoth_0 (zj_rec zg_X2_readEither n)) := fun n => (zj_rec_s _ n 1).trans (zg_re1 _)
  have r2 : ∀ n, zj_rec zg_X2_readEither (n + 1) 2 = zj_run 4 (zb_X2_readPart_0 (zj_rec zg_X2_readEither n)) := fun n => (zj_rec_s _ n 2).trans (zg_re2 _)
  have r3 : ∀ n, zj_rec zg_X2_readEither (n + 1) 3 = zj_run 2 (zb_X2_readOpen_0 (zj_rec zg_X2_readEither n)) := fun n => (zj_rec_s _ n 3).trans (zg_re3 _)
  have e : zf_X2_readEither = zj_rec zg_X2_readEither (39 + 1) 0 := rfl
  have h2 := zt_rec_part (T := T) r0 r1 r2 r3 5 (by omega) 38 (by omega)
  generalize zj_rec zg_X2_readEither = R at r0 r1 r2 r3 e h2
  have h2 : zp_X T (R 38 2) 0 (zp_part T 5) := h2
  have h1 : zp_X T (R (38 + 1) 1) 0 (zp_both T (zp_part T 5)) := by rw [r1]; exact zt_both h2
  rw [e, r0]
  exact zt_either h1
end ZQ
