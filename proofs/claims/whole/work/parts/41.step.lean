/-! one STEP of the ring, whole -/
theorem za_R.step {r : Nat} {m : zj_M} {B : za_A} (h : za_R r m B) {x : Nat} : za_R r (zj_st m r 8 (nI x)) (za_up B 0 1 x) := by
  obtain ⟨⟨n1, n2, n3⟩, ⟨aw, e1, e2, e3⟩, r1, r2, r3, r4, r5, r6, r7⟩ := h
  refine ⟨⟨?_, ?_, ?_⟩, ⟨aw, ?_, e2, fun j hj => ?_⟩, fun j hj => ?_, fun j hj => ?_, fun j hj => ?_, fun j hj => ?_, fun j hj => ?_, fun j hj => ?_, fun j hj => ?_⟩
  · rw [zj_st_n (by omega), za_up_n (by omega)]; exact n1
  · rw [zj_st_s, za_up_s]
  · rw [zj_st_n (by omega), za_up_n (by omega)]; exact n3
  · rw [zj_st_n (by omega)]; exact e1
  · rw [za_up_n (by omega)]; exact e3 j hj
  · rw [zj_st_n (by omega), za_up_n (by omega)]; exact r1 j hj
  · rw [zj_st_n (by omega), za_up_n (by omega)]; exact r2 j hj
  · rw [zj_st_n (by omega), za_up_n (by omega)]; exact r3 j hj
  · rw [zj_st_n (by omega), za_up_n (by omega)]; exact r4 j hj
  · rw [zj_st_n (by omega), za_up_n (by omega)]; exact r5 j hj
  · rw [zj_st_n (by omega), za_up_n (by omega)]; exact r6 j hj
  · rw [zj_st_n (by omega), za_up_n (by omega)]; exact r7 j hj
section ZQ
variable {r pk : Nat} {A : za_A} {P : List (Nat × Nat)} {ra : Nat} {G : Nat → List (Nat × Nat)} {N : Nat}
theorem zt_step_loop2 (hl : za_lay r pk) (hA : za_ok A) (hmv : ∀ j, j < 6 → A 7 j ≤ A 0 1) {mm : Nat} (hmm2 : mm < 2 ^ 31) (hmm3 : A 0 1 < mm) : ∀ (k i fuel : Nat) (m : zj_M), k + i = A 0 0 → k < fuel → za_R r m (za_seq P ra A i) → m r 13 = nI mm → (∀ j, j < A 0 0 → A 6 j = 0 → m (r + 8) j = nI (za_nc ra A j) ∧ m (r + 9) j = nI (za_nm P A j)) →
    ∃ m1, zj_lp zb_X4_goOneStep_71 fuel [some (.ref r), some (.int (nI i))] [] m = some ([], m1) ∧ za_R r m1 (za_next P ra A) ∧ ∀ u j, u ≠ r + 4 → u ≠ r + 5 → u ≠ r + 6 → ¬ (u = r ∧ j = 8) → m1 u j = m u j := by
  have Gr := hl.g
  have a := hl.a
  have hc := hl.o.1.1
  have a1 := hA.1.1
  have a2 := hA.1.2.1
  intro k
  induction k with
  | zero =>
    intro i fuel m hk hf hR hmm hN
    obtain ⟨f, rfl⟩ : ∃ f, fuel = f + 1 := ⟨fuel - 1, by omega⟩
    have ei : i = A 0 0 := by omega
    subst ei
    have n1 := hR.1.1
    have n2 := hR.1.2.1
    rw [za_seq_n ⟨by omega, by omega, by omega⟩] at n1 n2
    refine ⟨zj_st m r 8 (nI (A 0 1 + 1)), ?_, hR.step, fun u j _ _ _ h => zj_st_n h⟩
    rw [zj_lp_s]
    simp (disch := first | omega | assumption | decide +kernel | exact Nat.le_of_ble_eq_true rfl) only [↓zx_push, ↓zx_ild0, ↓zx_ald0, ↓zx_lld0, ↓zx_ist0, ↓zx_ast0, ↓zx_inc0, ↓zx_ild1, ↓zx_ald1, ↓zx_lld1, ↓zx_ist1i, ↓zx_ist1r, ↓zx_ist1n, ↓zx_ast1i, ↓zx_ast1r, ↓zx_ast1n, ↓zx_inc1i, ↓zx_inc1r, ↓zx_inc1n, ↓zx_ild2, ↓zx_ald2, ↓zx_lld2, ↓zx_ist2i, ↓zx_ist2r, ↓zx_ist2n, ↓zx_ast2i, ↓zx_ast2r, ↓zx_ast2n, ↓zx_inc2i, ↓zx_inc2r, ↓zx_inc2n, ↓zx_ild3, ↓zx_ald3, ↓zx_lld3, ↓zx_ist3i, ↓zx_ist3r, ↓zx_ist3n, ↓zx_ast3i, ↓zx_ast3r, ↓zx_ast3n, ↓zx_inc3i, ↓zx_inc3r, ↓zx_inc3n, ↓zx_ild4, ↓zx_ald4, ↓zx_lld4, ↓zx_ist4i, ↓zx_ist4r, ↓zx_ist4n, ↓zx_ast4i, ↓zx_ast4r, ↓zx_ast4n, ↓zx_inc4i, ↓zx_inc4r, ↓zx_inc4n, ↓zx_ild5, ↓zx_ald5, ↓zx_lld5, ↓zx_ist5i, ↓zx_ist5r, ↓zx_ist5n, ↓zx_ast5i, ↓zx_ast5r, ↓zx_ast5n, ↓zx_inc5i, ↓zx_inc5r, ↓zx_inc5n, ↓zx_ild6, ↓zx_ald6, ↓zx_lld6, ↓zx_ist6i, ↓zx_ist6r, ↓zx_ist6n, ↓zx_ast6i, ↓zx_ast6r, ↓zx_ast6n, ↓zx_inc6i, ↓zx_inc6r, ↓zx_inc6n, ↓zx_ild7, ↓zx_ald7, ↓zx_lld7, ↓zx_ist7i, ↓zx_ist7r, ↓zx_ist7n, ↓zx_ast7i, ↓zx_ast7r, ↓zx_ast7n, ↓zx_inc7i, ↓zx_inc7r, ↓zx_inc7n, ↓zx_ild8, ↓zx_ald8, ↓zx_lld8, ↓zx_ist8i, ↓zx_ist8r, ↓zx_ist8n, ↓zx_ast8i, ↓zx_ast8r, ↓zx_ast8n, ↓zx_inc8i, ↓zx_inc8r, ↓zx_inc8n, ↓zx_ild9, ↓zx_ald9, ↓zx_lld9, ↓zx_ist9i, ↓zx_ist9r, ↓zx_ist9n, ↓zx_ast9i, ↓zx_ast9r, ↓zx_ast9n, ↓zx_inc9i, ↓zx_inc9r, ↓zx_inc9n, ↓zx_ild10, ↓zx_ald10, ↓zx_lld10, ↓zx_ist10i, ↓zx_ist10r, ↓zx_ist10n, ↓zx_ast10i, ↓zx_ast10r, ↓zx_ast10n, ↓zx_inc10i, ↓zx_inc10r, ↓zx_inc10n, ↓zx_b, ↓zx_u, ↓zx_i2l, ↓zx_lb, ↓zx_lu, ↓zx_lcmp, ↓zx_dupi, ↓zx_dupr, ↓zx_dup2, ↓zx_pop, zx_ceq_t, zx_ceq_f, zx_clt_t, zx_clt_f, zx_cle_t, zx_cle_f, zx_eq_t, zx_eq_f, zx_lt_t, zx_lt_f, zx_le_t, zx_le_f, zx_eq_b, zx_rem, zx_div, zx_go0, zx_go1, ↓zx_call0, ↓zx_call1, ↓zx_call2, ↓zx_call3, ↓zx_call4, ↓zx_call5, ↓zx_call6, ↓zx_call7, ↓zx_vc0, ↓zx_vn0, ↓zx_vc1, ↓zx_vn1, ↓zx_vc2, ↓zx_vn2, ↓zx_vc3, ↓zx_vn3, ↓zx_vc4, ↓zx_vn4, ↓zx_vc5, ↓zx_vn5, ↓zx_vc6, ↓zx_vn6, ↓zx_sc0, ↓zx_sc1, ↓zx_sc2, ↓zx_mmin, ↓zx_mmax, zx_ret0, zx_reti, zx_retl, zx_reta, zx_retz, zx_retz0, zx_retz1, zj_run, zj_e0, zj_E0, List.length_cons, List.length_nil, List.cons_append, List.nil_append, List.reduceReplicate, Nat.reduceLeDiff, Nat.reduceAdd, Nat.reduceSub, Nat.zero_add, Nat.zero_le, Nat.le_refl, reduceIte, ↓zb_X4_goOneStep_71, ↓Gr, a, n1, n2, zl_c, nI_add]
  | succ k ih =>
    intro i fuel m hk hf hR hmm hN
    obtain ⟨f, rfl⟩ : ∃ f, fuel = f + 1 := ⟨fuel - 1, by omega⟩
    have hi6 : i < 6 := by omega
    have hok := za_seq_ok (P := P) (ra := ra) hA hmv i (by omega)
    have n1 := hR.1.1
    rw [za_seq_n ⟨by omega, by omega, by omega⟩] at n1
    have eaw := zt_X4_isAway hl hok hR hi6
    rw [za_seq_n ⟨by omega, by omega, by omega⟩] at eaw
    have h6 := (hA.2.2.1 i hi6).2.1
    rw [zj_lp_s]
    by_cases hw : A 6 i = 0
    · rw [hw] at eaw
      obtain ⟨y1, y2⟩ := hN i (by omega) hw
      have hR1 : za_R r (zj_st m (r + 4) i (nI (za_nc ra A i))) (za_up (za_seq P ra A i) 4 i (za_nc ra A i)) := hR.put (by omega)
      have hR2 : za_R r (zj_st (zj_st m (r + 4) i (nI (za_nc ra A i))) (r + 5) i (nI (za_nm P A i))) (za_up (za_up (za_seq P ra A i) 4 i (za_nc ra A i)) 5 i (za_nm P A i)) := hR1.put (by omega)
      have hok2 : za_ok (za_up (za_up (za_seq P ra A i) 4 i (za_nc ra A i)) 5 i (za_nm P A i)) := (hok.up (Or.inl ⟨rfl, Nat.mod_lt _ (by omega)⟩)).up (Or.inr (Or.inl ⟨rfl, Nat.mod_lt _ (by omega)⟩))
      have h7 := hmv i hi6
      have e7 : za_up (za_up (za_seq P ra A i) 4 i (za_nc ra A i)) 5 i (za_nm P A i) 7 i = A 7 i := by rw [za_up_n (by omega), za_up_n (by omega), za_seq_ge 7 i i (Nat.le_refl _)]
      obtain ⟨m4, e1, e2, e3⟩ := zt_X4_handOver hl hok2 hR2 hi6 (by rw [zj_st_n (by omega), zj_st_n (by omega)]; exact hmm) hmm2 (by rw [e7]; omega)
      have y2' : zj_st m (r + 4) i (nI (za_nc ra A i)) (r + 9) i = nI (za_nm P A i) := by rw [zj_st_n (by omega)]; exact y2
      have eseq : za_seq P ra A (i + 1) = za_ho (za_up (za_up (za_seq P ra A i) 4 i (za_nc ra A i)) 5 i (za_nm P A i)) i := by rw [za_seq, if_pos hw]
      obtain ⟨m1, g1, g2, g3⟩ := ih (i + 1) f m4 (by omega) (by omega) (by rw [eseq]; exact e2) (by rw [e3 _ _ (by omega) (by omega), zj_st_n (by omega), zj_st_n (by omega)]; exact hmm) (fun j hj hz => by
        obtain ⟨z1, z2⟩ := hN j hj hz
        exact ⟨by rw [e3 _ _ (by omega) (by omega), zj_st_n (by omega), zj_st_n (by omega)]; exact z1, by rw [e3 _ _ (by omega) (by omega), zj_st_n (by omega), zj_st_n (by omega)]; exact z2⟩)
      refine ⟨m1, ?_, g2, fun u j q1 q2 q3 q4 => by rw [g3 u j q1 q2 q3 q4, e3 u j q2 q3, zj_st_n (by omega), zj_st_n (by omega)]⟩
      rw [← g1]
      simp (disch := first | omega | assumption | decide +kernel | exact Nat.le_of_ble_eq_true rfl) only [↓zx_push, ↓zx_ild0, ↓zx_ald0, ↓zx_lld0, ↓zx_ist0, ↓zx_ast0, ↓zx_inc0, ↓zx_ild1, ↓zx_ald1, ↓zx_lld1, ↓zx_ist1i, ↓zx_ist1r, ↓zx_ist1n, ↓zx_ast1i, ↓zx_ast1r, ↓zx_ast1n, ↓zx_inc1i, ↓zx_inc1r, ↓zx_inc1n, ↓zx_ild2, ↓zx_ald2, ↓zx_lld2, ↓zx_ist2i, ↓zx_ist2r, ↓zx_ist2n, ↓zx_ast2i, ↓zx_ast2r, ↓zx_ast2n, ↓zx_inc2i, ↓zx_inc2r, ↓zx_inc2n, ↓zx_ild3, ↓zx_ald3, ↓zx_lld3, ↓zx_ist3i, ↓zx_ist3r, ↓zx_ist3n, ↓zx_ast3i, ↓zx_ast3r, ↓zx_ast3n, ↓zx_inc3i, ↓zx_inc3r, ↓zx_inc3n, ↓zx_ild4, ↓zx_ald4, ↓zx_lld4, ↓zx_ist4i, ↓zx_ist4r, ↓zx_ist4n, ↓zx_ast4i, ↓zx_ast4r, ↓zx_ast4n, ↓zx_inc4i, ↓zx_inc4r, ↓zx_inc4n, ↓zx_ild5, ↓zx_ald5, ↓zx_lld5, ↓zx_ist5i, ↓zx_ist5r, ↓zx_ist5n, ↓zx_ast5i, ↓zx_ast5r, ↓zx_ast5n, ↓zx_inc5i, ↓zx_inc5r, ↓zx_inc5n, ↓zx_ild6, ↓zx_ald6, ↓zx_lld6, ↓zx_ist6i, ↓zx_ist6r, ↓zx_ist6n, ↓zx_ast6i, ↓zx_ast6r, ↓zx_ast6n, ↓zx_inc6i, ↓zx_inc6r, ↓zx_inc6n, ↓zx_ild7, ↓zx_ald7, ↓zx_lld7, ↓zx_ist7i, ↓zx_ist7r, ↓zx_ist7n, ↓zx_ast7i, ↓zx_ast7r, ↓zx_ast7n, ↓zx_inc7i, ↓zx_inc7r, ↓zx_inc7n, ↓zx_ild8, ↓zx_ald8, ↓zx_lld8, ↓zx_ist8i, ↓zx_ist8r, ↓zx_ist8n, ↓zx_ast8i, ↓zx_ast8r, ↓zx_ast8n, ↓zx_inc8i, ↓zx_inc8r, ↓zx_inc8n, ↓zx_ild9, ↓zx_ald9, ↓zx_lld9, ↓zx_ist9i, ↓zx_ist9r, ↓zx_ist9n, ↓zx_ast9i, ↓zx_ast9r, ↓zx_ast9n, ↓zx_inc9i, ↓zx_inc9r, ↓zx_inc9n, ↓zx_ild10, ↓zx_ald10, ↓zx_lld10, ↓zx_ist10i, ↓zx_ist10r, ↓zx_ist10n, ↓zx_ast10i, ↓zx_ast10r, ↓zx_ast10n, ↓zx_inc10i, ↓zx_inc10r, ↓zx_inc10n, ↓zx_b, ↓zx_u, ↓zx_i2l, ↓zx_lb, ↓zx_lu, ↓zx_lcmp, ↓zx_dupi, ↓zx_dupr, ↓zx_dup2, ↓zx_pop, zx_ceq_t, zx_ceq_f, zx_clt_t, zx_clt_f, zx_cle_t, zx_cle_f, zx_eq_t, zx_eq_f, zx_lt_t, zx_lt_f, zx_le_t, zx_le_f, zx_eq_b, zx_rem, zx_div, zx_go0, zx_go1, ↓zx_call0, ↓zx_call1, ↓zx_call2, ↓zx_call3, ↓zx_call4, ↓zx_call5, ↓zx_call6, ↓zx_call7, ↓zx_vc0, ↓zx_vn0, ↓zx_vc1, ↓zx_vn1, ↓zx_vc2, ↓zx_vn2, ↓zx_vc3, ↓zx_vn3, ↓zx_vc4, ↓zx_vn4, ↓zx_vc5, ↓zx_vn5, ↓zx_vc6, ↓zx_vn6, ↓zx_sc0, ↓zx_sc1, ↓zx_sc2, ↓zx_mmin, ↓zx_mmax, zx_ret0, zx_reti, zx_retl, zx_reta, zx_retz, zx_retz0, zx_retz1, zj_run, zj_e0, zj_E0, List.length_cons, List.length_nil, List.cons_append, List.nil_append, List.reduceReplicate, Nat.reduceLeDiff, Nat.reduceAdd, Nat.reduceSub, Nat.zero_add, Nat.zero_le, Nat.le_refl, reduceIte, ↓zb_X4_goOneStep_71, ↓zb_X4_goOneStep_116, ↓Gr, a, n1, zl_c, eaw, y1, y2', e1, nI_add]
    · obtain ⟨m1, g1, g2, g3⟩ := ih (i + 1) f m (by omega) (by omega) (by rw [za_seq, if_neg hw]; exact hR) hmm hN
      refine ⟨m1, ?_, g2, g3⟩
      rw [← g1]
      simp (disch := first | omega | assumption | decide +kernel | exact Nat.le_of_ble_eq_true rfl) only [↓zx_push, ↓zx_ild0, ↓zx_ald0, ↓zx_lld0, ↓zx_ist0, ↓zx_ast0, ↓zx_inc0, ↓zx_ild1, ↓zx_ald1, ↓zx_lld1, ↓zx_ist1i, ↓zx_ist1r, ↓zx_ist1n, ↓zx_ast1i, ↓zx_ast1r, ↓zx_ast1n, ↓zx_inc1i, ↓zx_inc1r, ↓zx_inc1n, ↓zx_ild2, ↓zx_ald2, ↓zx_lld2, ↓zx_ist2i, ↓zx_ist2r, ↓zx_ist2n, ↓zx_ast2i, ↓zx_ast2r, ↓zx_ast2n, ↓zx_inc2i, ↓zx_inc2r, ↓zx_inc2n, ↓zx_ild3, ↓zx_ald3, ↓zx_lld3, ↓zx_ist3i, ↓zx_ist3r, ↓zx_ist3n, ↓zx_ast3i, ↓zx_ast3r, ↓zx_ast3n, ↓zx_inc3i, ↓zx_inc3r, ↓zx_inc3n, ↓zx_ild4, ↓zx_ald4, ↓zx_lld4, ↓zx_ist4i, ↓zx_ist4r, ↓zx_ist4n, ↓zx_ast4i, ↓zx_ast4r, ↓zx_ast4n, ↓zx_inc4i, ↓zx_inc4r, ↓zx_inc4n, ↓zx_ild5, ↓zx_ald5, ↓zx_lld5, ↓zx_ist5i, ↓zx_ist5r, ↓zx_ist5n, ↓zx_ast5i, ↓zx_ast5r, ↓zx_ast5n, ↓zx_inc5i, ↓zx_inc5r, ↓zx_inc5n, ↓zx_ild6, ↓zx_ald6, ↓zx_lld6, ↓zx_ist6i, ↓zx_ist6r, ↓zx_ist6n, ↓zx_ast6i, ↓zx_ast6r, ↓zx_ast6n, ↓zx_inc6i, ↓zx_inc6r, ↓zx_inc6n, ↓zx_ild7, ↓zx_ald7, ↓zx_lld7, ↓zx_ist7i, ↓zx_ist7r, ↓zx_ist7n, ↓zx_ast7i, ↓zx_ast7r, ↓zx_ast7n, ↓zx_inc7i, ↓zx_inc7r, ↓zx_inc7n, ↓zx_ild8, ↓zx_ald8, ↓zx_lld8, ↓zx_ist8i, ↓zx_ist8r, ↓zx_ist8n, ↓zx_ast8i, ↓zx_ast8r, ↓zx_ast8n, ↓zx_inc8i, ↓zx_inc8r, ↓zx_inc8n, ↓zx_ild9, ↓zx_ald9, ↓zx_lld9, ↓zx_ist9i, ↓zx_ist9r, ↓zx_ist9n, ↓zx_ast9i, ↓zx_ast9r, ↓zx_ast9n, ↓zx_inc9i, ↓zx_inc9r, ↓zx_inc9n, ↓zx_ild10, ↓zx_ald10, ↓zx_lld10, ↓zx_ist10i, ↓zx_ist10r, ↓zx_ist10n, ↓zx_ast10i, ↓zx_ast10r, ↓zx_ast10n, ↓zx_inc10i, ↓zx_inc10r, ↓zx_inc10n, ↓zx_b, ↓zx_u, ↓zx_i2l, ↓zx_lb, ↓zx_lu, ↓zx_lcmp, ↓zx_dupi, ↓zx_dupr, ↓zx_dup2, ↓zx_pop, zx_ceq_t, zx_ceq_f, zx_clt_t, zx_clt_f, zx_cle_t, zx_cle_f, zx_eq_t, zx_eq_f, zx_lt_t, zx_lt_f, zx_le_t, zx_le_f, zx_eq_b, zx_rem, zx_div, zx_go0, zx_go1, ↓zx_call0, ↓zx_call1, ↓zx_call2, ↓zx_call3, ↓zx_call4, ↓zx_call5, ↓zx_call6, ↓zx_call7, ↓zx_vc0, ↓zx_vn0, ↓zx_vc1, ↓zx_vn1, ↓zx_vc2, ↓zx_vn2, ↓zx_vc3, ↓zx_vn3, ↓zx_vc4, ↓zx_vn4, ↓zx_vc5, ↓zx_vn5, ↓zx_vc6, ↓zx_vn6, ↓zx_sc0, ↓zx_sc1, ↓zx_sc2, ↓zx_mmin, ↓zx_mmax, zx_ret0, zx_reti, zx_retl, zx_reta, zx_retz, zx_retz0, zx_retz1, zj_run, zj_e0, zj_E0, List.length_cons, List.length_nil, List.cons_append, List.nil_append, List.reduceReplicate, Nat.reduceLeDiff, Nat.reduceAdd, Nat.reduceSub, Nat.zero_add, Nat.zero_le, Nat.le_refl, reduceIte, ↓zb_X4_goOneStep_71, ↓zb_X4_goOneStep_116, ↓Gr, a, n1, zl_c, eaw, nI_add]
/-- what a step may change: the ring's own cells, what is remembered, the park's facts -/
def za_fr (r pk : Nat) (m m' : zj_M) : Prop := ∀ u j, u ≠ 13 → u ≠ pk + 3 → (u = r → j ≠ 8 ∧ j ≠ 16 ∧ j ≠ 17) → (u < r + 4 ∨ r + 9 < u ∨ u = r + 7) → m' u j = m u j
theorem zt_X4_goOneStep (hl : za_lay r pk) (hp : za_pl pk) (hs : za_sep r pk) (hA : za_ok A) (hmv : ∀ j, j < 6 → A 7 j ≤ A 0 1) {m : zj_M} (hR : za_R r m A) (hK : za_K pk m P ra G N) {mm : Nat} (hmm : m r 13 = nI mm) (hmm2 : mm < 2 ^ 31) (hmm3 : A 0 1 < mm) :
    ∃ m', zf_X4_goOneStep [.ref r] m = some ([], m') ∧ za_R r m' (za_next P ra A) ∧ za_K pk m' P ra G N ∧ za_fr r pk m m' := by
  have Gr := hl.g
  have a := hl.a
  have hc := hl.o.1.1
  have a1 := hA.1.1
  obtain ⟨s1, s2⟩ := id hs
  obtain ⟨m1, e1, e2, e3⟩ := zt_X4_lookAround hl hA hR
  have hR1 : za_R r m1 A := hR.keep fun u j g1 g2 g3 => e2 u j (by omega)
  have hK1 : za_K pk m1 P ra G N := hK.keep (hK.2.2.2.keep fun j => e2 _ _ (by omega)) (fun u j g1 g2 => e2 _ _ (by omega))
  obtain ⟨m2, f1, f2, f3, f4, f5⟩ := zt_step_loop1 hl hp hs hA (A 0 0) 0 zj_fu m1 (by omega) (by unfold zj_fu; omega) hR1 e3 hK1 (fun j hj => by omega)
  obtain ⟨m3, h1, h2, h3⟩ := zt_step_loop2 (P := P) (ra := ra) hl hA hmv hmm2 hmm3 (A 0 0) 0 zj_fu m2 (by omega) (by unfold zj_fu; omega) f2 (by rw [f5 _ _ (by omega) (by omega) (by omega) (by omega), e2 _ _ (by omega)]; exact hmm) f4
  refine ⟨m3, ?_, h2, f3.keep (f3.2.2.2.keep fun j => h3 _ _ (by omega) (by omega) (by omega) (by omega)) (fun u j g1 g2 => h3 _ _ (by omega) (by omega) (by omega) (by omega)), fun u j q1 q2 q3 q4 => ?_⟩
  · refine Eq.trans ?_ (f1.trans h1)
    simp (disch := first | omega | assumption | decide +kernel | exact Nat.le_of_ble_eq_true rfl) only [↓zx_push, ↓zx_ild0, ↓zx_ald0, ↓zx_lld0, ↓zx_ist0, ↓zx_ast0, ↓zx_inc0, ↓zx_ild1, ↓zx_ald1, ↓zx_lld1, ↓zx_ist1i, ↓zx_ist1r, ↓zx_ist1n, ↓zx_ast1i, ↓zx_ast1r, ↓zx_ast1n, ↓zx_inc1i, ↓zx_inc1r, ↓zx_inc1n, ↓zx_ild2, ↓zx_ald2, ↓zx_lld2, ↓zx_ist2i, ↓zx_ist2r, ↓zx_ist2n, ↓zx_ast2i, ↓zx_ast2r, ↓zx_ast2n, ↓zx_inc2i, ↓zx_inc2r, ↓zx_inc2n, ↓zx_ild3, ↓zx_ald3, ↓zx_lld3, ↓zx_ist3i, ↓zx_ist3r, ↓zx_ist3n, ↓zx_ast3i, ↓zx_ast3r, ↓zx_ast3n, ↓zx_inc3i, ↓zx_inc3r, ↓zx_inc3n, ↓zx_ild4, ↓zx_ald4, ↓zx_lld4, ↓zx_ist4i, ↓zx_ist4r, ↓zx_ist4n, ↓zx_ast4i, ↓zx_ast4r, ↓zx_ast4n, ↓zx_inc4i, ↓zx_inc4r, ↓zx_inc4n, ↓zx_ild5, ↓zx_ald5, ↓zx_lld5, ↓zx_ist5i, ↓zx_ist5r, ↓zx_ist5n, ↓zx_ast5i, ↓zx_ast5r, ↓zx_ast5n, ↓zx_inc5i, ↓zx_inc5r, ↓zx_inc5n, ↓zx_ild6, ↓zx_ald6, ↓zx_lld6, ↓zx_ist6i, ↓zx_ist6r, ↓zx_ist6n, ↓zx_ast6i, ↓zx_ast6r, ↓zx_ast6n, ↓zx_inc6i, ↓zx_inc6r, ↓zx_inc6n, ↓zx_ild7, ↓zx_ald7, ↓zx_lld7, ↓zx_ist7i, ↓zx_ist7r, ↓zx_ist7n, ↓zx_ast7i, ↓zx_ast7r, ↓zx_ast7n, ↓zx_inc7i, ↓zx_inc7r, ↓zx_inc7n, ↓zx_ild8, ↓zx_ald8, ↓zx_lld8, ↓zx_ist8i, ↓zx_ist8r, ↓zx_ist8n, ↓zx_ast8i, ↓zx_ast8r, ↓zx_ast8n, ↓zx_inc8i, ↓zx_inc8r, ↓zx_inc8n, ↓zx_ild9, ↓zx_ald9, ↓zx_lld9, ↓zx_ist9i, ↓zx_ist9r, ↓zx_ist9n, ↓zx_ast9i, ↓zx_ast9r, ↓zx_ast9n, ↓zx_inc9i, ↓zx_inc9r, ↓zx_inc9n, ↓zx_ild10, ↓zx_ald10, ↓zx_lld10, ↓zx_ist10i, ↓zx_ist10r, ↓zx_ist10n, ↓zx_ast10i, ↓zx_ast10r, ↓zx_ast10n, ↓zx_inc10i, ↓zx_inc10r, ↓zx_inc10n, ↓zx_b, ↓zx_u, ↓zx_i2l, ↓zx_lb, ↓zx_lu, ↓zx_lcmp, ↓zx_dupi, ↓zx_dupr, ↓zx_dup2, ↓zx_pop, zx_ceq_t, zx_ceq_f, zx_clt_t, zx_clt_f, zx_cle_t, zx_cle_f, zx_eq_t, zx_eq_f, zx_lt_t, zx_lt_f, zx_le_t, zx_le_f, zx_eq_b, zx_rem, zx_div, zx_go0, zx_go1, ↓zx_call0, ↓zx_call1, ↓zx_call2, ↓zx_call3, ↓zx_call4, ↓zx_call5, ↓zx_call6, ↓zx_call7, ↓zx_vc0, ↓zx_vn0, ↓zx_vc1, ↓zx_vn1, ↓zx_vc2, ↓zx_vn2, ↓zx_vc3, ↓zx_vn3, ↓zx_vc4, ↓zx_vn4, ↓zx_vc5, ↓zx_vn5, ↓zx_vc6, ↓zx_vn6, ↓zx_sc0, ↓zx_sc1, ↓zx_sc2, ↓zx_mmin, ↓zx_mmax, zx_ret0, zx_reti, zx_retl, zx_reta, zx_retz, zx_retz0, zx_retz1, zj_run, zj_e0, zj_E0, List.length_cons, List.length_nil, List.cons_append, List.nil_append, List.reduceReplicate, Nat.reduceLeDiff, Nat.reduceAdd, Nat.reduceSub, Nat.zero_add, Nat.zero_le, Nat.le_refl, reduceIte, ↓zf_X4_goOneStep, ↓zb_X4_goOneStep_0, ↓Gr, a, zl_c, e1]
  · rw [h3 u j (by omega) (by omega) (by omega) (fun q => (q3 q.1).1 q.2), f5 u j q1 q2 (by omega) (by omega), e2 u j (fun q => by have := q3 q.1; omega)]
end ZQ
