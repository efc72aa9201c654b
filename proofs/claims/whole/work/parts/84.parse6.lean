/-! park: the group of the parser -/
section ZQ
variable {T : List Nat}
theorem zt_rec_part : ∀ b, b ≤ 5 → ∀ n, 4 * b + 2 ≤ n → zp_X T (zj_rec zg_X2_readEither n 2) (5 - b) (zp_part T b)
  | 0, _, n, hn => by
    obtain ⟨k, rfl⟩ : ∃ k, n = k + 2 := ⟨n - 2, by omega⟩
    have h := zt_part (T := T) (F := zj_rec zg_X2_readEither (k + 1)) (o := 5) (po := zp_fail) (fun m s _ h _ => zt_open0 (F := zj_rec zg_X2_readEither k) m s h)
    have e : zp_part T 0 = fun s => if zp_sg T s = some 33 ∨ zp_sg T s = some 40 then zp_fail s else zp_test T s := by
      funext s; rw [zp_part]
    rw [e]
    exact h
  | b + 1, hb, n, hn => by
    obtain ⟨k, rfl⟩ : ∃ k, n = k + 4 := ⟨n - 4, by omega⟩
    have ih := zt_rec_part b (by omega)
    have eo : 5 - (b + 1) + 1 = 5 - b := by omega
    have hP : zp_X T (zj_rec zg_X2_readEither (k + 2) 2) (5 - (b + 1) + 1) (zp_part T b) := by rw [eo]; exact ih (k + 2) (by omega)
    have h2 : zp_X T (zj_rec zg_X2_readEither k 2) (5 - (b + 1) + 1) (zp_part T b) := by rw [eo]; exact ih k (by omega)
    have h1 : zp_X T (zj_rec zg_X2_readEither (k + 1) 1) (5 - (b + 1) + 1) (zp_both T (zp_part T b)) := zt_both (F := zj_rec zg_X2_readEither k) h2
    have hE : zp_X T (zj_rec zg_X2_readEither (k + 2) 0) (5 - (b + 1) + 1) (zp_either T (zp_part T b)) := zt_either (F := zj_rec zg_X2_readEither (k + 1)) h1
    have h := zt_part (T := T) (F := zj_rec zg_X2_readEither (k + 3)) (o := 5 - (b + 1)) (po := fun s => if zp_sg T s = some 33 then zp_wr (zp_part T b (zp_next s)) 20 0 else zp_take T 41 (zp_either T (zp_part T b) (zp_next s))) (fun m s hT h hs => zt_openS (F := zj_rec zg_X2_readEither (k + 2)) (by omega) hP hE m s hT h hs)
    have e : zp_part T (b + 1) = fun s => if zp_sg T s = some 33 ∨ zp_sg T s = some 40 then (if zp_sg T s = some 33 then zp_wr (zp_part T b (zp_next s)) 20 0 else zp_take T 41 (zp_either T (zp_part T b) (zp_next s))) else zp_test T s := by
      funext s
      rw [zp_part]
      by_cases q : zp_sg T s = some 33
      · rw [if_pos q, if_pos (Or.inl q), if_pos q]
      · rw [if_neg q]
        by_cases q2 : zp_sg T s = some 40
        · rw [if_pos q2, if_pos (Or.inr q2), if_neg q]
        · rw [if_neg q2, if_neg (fun x => x.elim q q2)]
    rw [e]
    exact h
theorem zt_X2_readEither : zp_X T zf_X2_readEither 0 (zp_either T (zp_part T 5)) :=
  zt_either (F := zj_rec zg_X2_readEither 39) (zt_both (F := zj_rec zg_X2_readEither 38) (zt_rec_part 5 (by omega) 38 (by omega)))
end ZQ
