/-! a body begins -/
theorem zx_ran {k : zj_K} {E : zj_E} {st : List Value} {m : zj_M} {t : Nat} (h : 6 ≤ t ∧ t < 13) : zi_gfA [9, 1, 6, 7, 3, 0, 8] 0 k E (.ref t :: st) m = k E (.ref 1 :: st) m := by
  rcases (show t = 6 ∨ t = 7 ∨ t = 8 ∨ t = 9 ∨ t = 10 ∨ t = 11 ∨ t = 12 by omega) with rfl | rfl | rfl | rfl | rfl | rfl | rfl <;> (simp only [zi_gfA]; rw [if_pos (by decide +kernel)]; rfl)
theorem za_rw1 : za_rw 1 20 := za_rwI (by decide) rfl rfl rfl rfl (by decide)
/-- the bodies that ran, so far -/
def za_T (m : zj_M) (L : List Nat) : Prop := m 1 3 = nI L.length ∧ ∀ j, j < L.length → m 2 j = nI (L.getD j 0)
theorem zt_X9_begin {m : zj_M} {t body : Nat} (h : 6 ≤ t ∧ t < 13) {L : List Nat} (hT : za_T m L) (hL : L.length < 20) : ∃ m', zf_X9_begin [.ref t, .int (nI body)] m = some ([], m') ∧ za_T m' (L ++ [body]) ∧ ∀ u j, (u < 1 ∨ 4 < u) → m' u j = m u j := by
  have e := zt_X5_add za_rw1 hT.1 hL (nI body) (nI 0) (nI 0)
  refine ⟨zj_st (zj_st (zj_st (zj_st m (1 + 1) L.length (nI body)) (1 + 2) L.length (nI 0)) (1 + 3) L.length (nI 0)) 1 3 (nI (L.length + 1)), ?_, ⟨?_, fun j hj => ?_⟩, fun u j hu => ?_⟩
  · simp (disch := first | omega | assumption | decide +kernel | exact Nat.le_of_ble_eq_true rfl) only [↓zx_push, ↓zx_ild0, ↓zx_ald0, ↓zx_lld0, ↓zx_ist0, ↓zx_ast0, ↓zx_inc0, ↓zx_ild1, ↓zx_ald1, ↓zx_lld1, ↓zx_ist1i, ↓zx_ist1r, ↓zx_ist1n, ↓zx_ast1i, ↓zx_ast1r, ↓zx_ast1n, ↓zx_inc1i, ↓zx_inc1r, ↓zx_inc1n, ↓zx_ild2, ↓zx_ald2, ↓zx_lld2, ↓zx_ist2i, ↓zx_ist2r, ↓zx_ist2n, ↓zx_ast2i, ↓zx_ast2r, ↓zx_ast2n, ↓zx_inc2i, ↓zx_inc2r, ↓zx_inc2n, ↓zx_ild3, ↓zx_ald3, ↓zx_lld3, ↓zx_ist3i, ↓zx_ist3r, ↓zx_ist3n, ↓zx_ast3i, ↓zx_ast3r, ↓zx_ast3n, ↓zx_inc3i, ↓zx_inc3r, ↓zx_inc3n, ↓zx_ild4, ↓zx_ald4, ↓zx_lld4, ↓zx_ist4i, ↓zx_ist4r, ↓zx_ist4n, ↓zx_ast4i, ↓zx_ast4r, ↓zx_ast4n, ↓zx_inc4i, ↓zx_inc4r, ↓zx_inc4n, ↓zx_ild5, ↓zx_ald5, ↓zx_lld5, ↓zx_ist5i, ↓zx_ist5r, ↓zx_ist5n, ↓zx_ast5i, ↓zx_ast5r, ↓zx_ast5n, ↓zx_inc5i, ↓zx_inc5r, ↓zx_inc5n, ↓zx_ild6, ↓zx_ald6, ↓zx_lld6, ↓zx_ist6i, ↓zx_ist6r, ↓zx_ist6n, ↓zx_ast6i, ↓zx_ast6r, ↓zx_ast6n, ↓zx_inc6i, ↓zx_inc6r, ↓zx_inc6n, ↓zx_ild7, ↓zx_ald7, ↓zx_lld7, ↓zx_ist7i, ↓zx_ist7r, ↓zx_ist7n, ↓zx_ast7i, ↓zx_ast7r, ↓zx_ast7n, ↓zx_inc7i, ↓zx_inc7r, ↓zx_inc7n, ↓zx_ild8, ↓zx_ald8, ↓zx_lld8, ↓zx_ist8i, ↓zx_ist8r, ↓zx_ist8n, ↓zx_ast8i, ↓zx_ast8r, ↓zx_ast8n, ↓zx_inc8i, ↓zx_inc8r, ↓zx_inc8n, ↓zx_ild9, ↓zx_ald9, ↓zx_lld9, ↓zx_ist9i, ↓zx_ist9r, ↓zx_ist9n, ↓zx_ast9i, ↓zx_ast9r, ↓zx_ast9n, ↓zx_inc9i, ↓zx_inc9r, ↓zx_inc9n, ↓zx_ild10, ↓zx_ald10, ↓zx_lld10, ↓zx_ist10i, ↓zx_ist10r, ↓zx_ist10n, ↓zx_ast10i, ↓zx_ast10r, ↓zx_ast10n, ↓zx_inc10i, ↓zx_inc10r, ↓zx_inc10n, ↓zx_b, ↓zx_u, ↓zx_i2l, ↓zx_lb, ↓zx_lu, ↓zx_lcmp, ↓zx_dupi, ↓zx_dupr, ↓zx_dup2, ↓zx_pop, zx_ceq_t, zx_ceq_f, zx_clt_t, zx_clt_f, zx_cle_t, zx_cle_f, zx_eq_t, zx_eq_f, zx_lt_t, zx_lt_f, zx_le_t, zx_le_f, zx_eq_b, zx_rem, zx_div, zx_go0, zx_go1, ↓zx_call0, ↓zx_call1, ↓zx_call2, ↓zx_call3, ↓zx_call4, ↓zx_call5, ↓zx_call6, ↓zx_call7, ↓zx_vc0, ↓zx_vn0, ↓zx_vc1, ↓zx_vn1, ↓zx_vc2, ↓zx_vn2, ↓zx_vc3, ↓zx_vn3, ↓zx_vc4, ↓zx_vn4, ↓zx_vc5, ↓zx_vn5, ↓zx_vc6, ↓zx_vn6, ↓zx_sc0, ↓zx_sc1, ↓zx_sc2, ↓zx_mmin, ↓zx_mmax, zx_ret0, zx_reti, zx_retl, zx_reta, zx_retz, zx_retz0, zx_retz1, zj_run, zj_e0, zj_E0, List.length_cons, List.length_nil, List.cons_append, List.nil_append, List.reduceReplicate, Nat.reduceLeDiff, Nat.reduceAdd, Nat.reduceSub, Nat.zero_add, Nat.zero_le, Nat.le_refl, reduceIte, ↓zf_X9_begin, ↓zb_X9_begin_0, ↓zx_ran, zl_c, e]
  · rw [zj_st_s]; simp
  · rw [zj_st_n (by omega), zj_st_n (by omega), zj_st_n (by omega)]
    simp only [List.length_append, List.length_cons, List.length_nil] at hj
    by_cases q : j = L.length
    · subst q
      rw [show (1 : Nat) + 1 = 2 from rfl, zj_st_s]
      simp
    · rw [zj_st_n (by omega), hT.2 j (by omega)]
      rw [List.getD_eq_getElem?_getD, List.getD_eq_getElem?_getD, List.getElem?_append_left (by omega)]
  · rw [zj_st_n (by omega), zj_st_n (by omega), zj_st_n (by omega), zj_st_n (by omega)]
