/-! park: the reference -/
def zp_rest (T : List Nat) (k : Nat) (s : zp_S) : zp_S × Bool := if s.bad = true ∨ T.length ≤ s.pos then (s, !s.bad) else zp_reads T k (if k = 0 then s else zp_take T 59 s)
theorem zp_rest_e (T : List Nat) (k : Nat) (s : zp_S) : zp_reads T (k + 1) s = zp_rest T k (zp_clause T s) := by
  rw [zp_reads]
  rfl
section ZX
variable {a1 a2 a3 : Int} {k1 k2 k3 kd : zj_K} {E : zj_E} {st : List Value} {m : zj_M} {x : Int32}
theorem zy_lsw1 (h : a1 = x.toInt) : zi_lsw [(a1, k1), (a2, k2), (a3, k3)] kd E (.int x :: st) m = k1 E st m := by
  simp only [zi_lsw]
  rw [if_pos h]
theorem zy_lsw2 (h : ¬ a1 = x.toInt) (h2 : a2 = x.toInt) : zi_lsw [(a1, k1), (a2, k2), (a3, k3)] kd E (.int x :: st) m = k2 E st m := by
  simp only [zi_lsw]
  rw [if_neg h, if_pos h2]
theorem zy_lsw3 (h : ¬ a1 = x.toInt) (h2 : ¬ a2 = x.toInt) (h3 : a3 = x.toInt) : zi_lsw [(a1, k1), (a2, k2), (a3, k3)] kd E (.int x :: st) m = k3 E st m := by
  simp only [zi_lsw]
  rw [if_neg h, if_neg h2, if_pos h3]
theorem zy_lsw0 (h : ¬ a1 = x.toInt) (h2 : ¬ a2 = x.toInt) (h3 : ¬ a3 = x.toInt) : zi_lsw [(a1, k1), (a2, k2), (a3, k3)] kd E (.int x :: st) m = kd E st m := by
  simp only [zi_lsw]
  rw [if_neg h, if_neg h2, if_neg h3]
theorem zy_tI {k : Nat} (hk : k < 2 ^ 31) (h : ¬ x = nI k) : ¬ (k : Int) = x.toInt := fun e => h (Int32.toInt_inj.mp (e.symm.trans (nI_toInt hk).symm))
end ZX
section ZQ
variable {a : Nat} {m : zj_M} {T : List Nat} {s : zp_S}
theorem zq_R.rn (h : zq_R a m T s) (n : Nat) : zq_R a (zj_st m 91 (223 + a) (nI n)) T (zp_rn s n) := by
  obtain ⟨⟨r5, r6, r7, r8⟩, ⟨h1, h2, h3⟩, ht, hw⟩ := h
  refine ⟨⟨by rw [zj_st_n (by omega)]; exact r5, by rw [zj_st_n (by omega)]; exact r6, by rw [zj_st_n (by omega)]; exact r7, by rw [zj_st_n (by omega)]; exact r8⟩, ⟨h1, h2, h3⟩, fun j hj => ?_, fun hb2 => ?_⟩
  · rw [zj_st_n (by omega)]; exact ht j hj
  · obtain ⟨⟨w1, w2, w3⟩, w4⟩ := hw hb2
    refine ⟨⟨by rw [zj_st_n (by omega)]; exact w1, w2, by rw [zj_st_s]; rfl⟩, fun j hj => ?_⟩
    rw [zj_st_n (by omega)]
    exact w4 j hj
theorem zq_much (h : zq_R a m T s) (h9 : m 90 9 = nI 0) {q K e : Nat} {w : List Nat} (hq : (q = 6 ∧ w = [115, 116, 105, 114, 32] ∧ K = 10 ∧ e = 21) ∨ (q = 9 ∧ w = [99, 97, 108, 109, 32] ∧ K = 200 ∧ e = 22)) : ∃ m', zf_X12_much [.ref 90, .int (-nI K), .ref (1000 + q)] m = some ([], m') ∧ zq_R a m' T (zp_much T w e s) ∧ zq_f a m m' := by
  have hc90 := zg_c90
  have hT := h.2.1.2.1
  have hs := h.2.1.2.2
  have hD := ((zp_D.word (T := T) w).comp zp_D.num).comp (zp_D.take 32)
  have hE := zp_E.top hT
  obtain ⟨m1, x1, x2, x3⟩ := zq_spells h (q := q) (l := w) (by
    rcases hq with ⟨rfl, rfl, -, -⟩ | ⟨rfl, rfl, -, -⟩
    · exact Or.inr (Or.inl ⟨rfl, rfl⟩)
    · exact Or.inr (Or.inr ⟨rfl, rfl⟩))
  obtain ⟨m2, b1, b2, b3⟩ := zq_figures x2
  obtain ⟨m3, c1, c2, c3⟩ := zq_must b2 (c := 32) (by omega)
  have f3 := (x3.trans b3).trans c3
  obtain ⟨m4, d1, d2, d3⟩ := zq_X12_some hT m3 _ c2 (f3.nine.trans h9)
  have hx : -nI K - nI (zp_num T (zp_word T w s)).1 = iI (zd_code e (zp_num T (zp_word T w s)).1) := by
    generalize (zp_num T (zp_word T w s)).1 = n
    rcases hq with ⟨-, -, rfl, rfl⟩ | ⟨-, -, rfl, rfl⟩
    · have e : zd_code 21 n = -10 - n := by
        unfold zd_code
        rw [if_neg (by decide), if_neg (by decide), if_neg (by decide), if_neg (by decide), if_pos rfl]
      rw [e, ← iI_sub, show -nI 10 = iI (-10) by decide]
    · have e : zd_code 22 n = -200 - n := by
        unfold zd_code
        rw [if_neg (by decide), if_neg (by decide), if_neg (by decide), if_neg (by decide), if_neg (by decide)]
      rw [e, ← iI_sub, show -nI 200 = iI (-200) by decide]
  obtain ⟨m5, y1, y2, y3⟩ := zq_emits d2 (fun hb => by
    have hb3 := hE.1.good c2.2.1.2.2 hb
    have hw3 := (c2.2.2.2 hb3).1.2.1
    have := hE.room c2.2.1.2.2 hw3 hb
    omega) e (zp_num T (zp_word T w s)).1 hx
  refine ⟨m5, ?_, y2, (f3.trans d3).trans y3⟩
  simp -implicitDefEqProofs (disch := first | omega | assumption | decide +kernel | exact Nat.le_of_ble_eq_true rfl) only [↓zx_push, ↓zx_ild0, ↓zx_ald0, ↓zx_lld0, ↓zx_ist0, ↓zx_ast0, ↓zx_inc0, ↓zx_ild1, ↓zx_ald1, ↓zx_lld1, ↓zx_ist1i, ↓zx_ist1r, ↓zx_ist1n, ↓zx_ast1i, ↓zx_ast1r, ↓zx_ast1n, ↓zx_inc1i, ↓zx_inc1r, ↓zx_inc1n, ↓zx_ild2, ↓zx_ald2, ↓zx_lld2, ↓zx_ist2i, ↓zx_ist2r, ↓zx_ist2n, ↓zx_ast2i, ↓zx_ast2r, ↓zx_ast2n, ↓zx_inc2i, ↓zx_inc2r, ↓zx_inc2n, ↓zx_ild3, ↓zx_ald3, ↓zx_lld3, ↓zx_ist3i, ↓zx_ist3r, ↓zx_ist3n, ↓zx_ast3i, ↓zx_ast3r, ↓zx_ast3n, ↓zx_inc3i, ↓zx_inc3r, ↓zx_inc3n, ↓zx_ild4, ↓zx_ald4, ↓zx_lld4, ↓zx_ist4i, ↓zx_ist4r, ↓zx_ist4n, ↓zx_ast4i, ↓zx_ast4r, ↓zx_ast4n, ↓zx_inc4i, ↓zx_inc4r, ↓zx_inc4n, ↓zx_ild5, ↓zx_ald5, ↓zx_lld5, ↓zx_ist5i, ↓zx_ist5r, ↓zx_ist5n, ↓zx_ast5i, ↓zx_ast5r, ↓zx_ast5n, ↓zx_inc5i, ↓zx_inc5r, ↓zx_inc5n, ↓zx_ild6, ↓zx_ald6, ↓zx_lld6, ↓zx_ist6i, ↓zx_ist6r, ↓zx_ist6n, ↓zx_ast6i, ↓zx_ast6r, ↓zx_ast6n, ↓zx_inc6i, ↓zx_inc6r, ↓zx_inc6n, ↓zx_ild7, ↓zx_ald7, ↓zx_lld7, ↓zx_ist7i, ↓zx_ist7r, ↓zx_ist7n, ↓zx_ast7i, ↓zx_ast7r, ↓zx_ast7n, ↓zx_inc7i, ↓zx_inc7r, ↓zx_inc7n, ↓zx_ild8, ↓zx_ald8, ↓zx_lld8, ↓zx_ist8i, ↓zx_ist8r, ↓zx_ist8n, ↓zx_ast8i, ↓zx_ast8r, ↓zx_ast8n, ↓zx_inc8i, ↓zx_inc8r, ↓zx_inc8n, ↓zx_ild9, ↓zx_ald9, ↓zx_lld9, ↓zx_ist9i, ↓zx_ist9r, ↓zx_ist9n, ↓zx_ast9i, ↓zx_ast9r, ↓zx_ast9n, ↓zx_inc9i, ↓zx_inc9r, ↓zx_inc9n, ↓zx_ild10, ↓zx_ald10, ↓zx_lld10, ↓zx_ist10i, ↓zx_ist10r, ↓zx_ist10n, ↓zx_ast10i, ↓zx_ast10r, ↓zx_ast10n, ↓zx_inc10i, ↓zx_inc10r, ↓zx_inc10n, ↓zx_b, ↓zx_u, ↓zx_i2l, ↓zx_lb, ↓zx_lu, ↓zx_lcmp, ↓zx_dupi, ↓zx_dupr, ↓zx_dup2, ↓zx_pop, zx_ceq_t, zx_ceq_f, zx_clt_t, zx_clt_f, zx_cle_t, zx_cle_f, zx_eq_t, zx_eq_f, zx_lt_t, zx_lt_f, zx_le_t, zx_le_f, zx_eq_b, zx_rem, zx_div, zx_go0, zx_go1, ↓zx_call0, ↓zx_call1, ↓zx_call2, ↓zx_call3, ↓zx_call4, ↓zx_call5, ↓zx_call6, ↓zx_call7, ↓zx_vc0, ↓zx_vn0, ↓zx_vc1, ↓zx_vn1, ↓zx_vc2, ↓zx_vn2, ↓zx_vc3, ↓zx_vn3, ↓zx_vc4, ↓zx_vn4, ↓zx_vc5, ↓zx_vn5, ↓zx_vc6, ↓zx_vn6, ↓zx_sc0, ↓zx_sc1, ↓zx_sc2, ↓zx_mmin, ↓zx_mmax, zx_ret0, zx_reti, zx_retl, zx_reta, zx_retz, zx_retz0, zx_retz1, zj_run, zj_e0, zj_E0, List.length_cons, List.length_nil, List.cons_append, List.nil_append, List.reduceReplicate, Nat.reduceLeDiff, Nat.reduceAdd, Nat.reduceSub, Nat.zero_add, Nat.zero_le, Nat.le_refl, reduceIte, ↓zf_X12_much, ↓zb_X12_much_0, zl_c, x1, b1, c1, d1, y1]
theorem zq_tells (h : zq_R a m T s) : ∃ m', zf_X12_tellsHere [.ref 90, .int (nI 223), .ref 1005] m = some ([], m') ∧ zq_R a m' T (zp_rain T s) ∧ zq_f a m m' := by
  have G := zg_90
  have ar := zg_a90
  have hc90 := zg_c90
  obtain ⟨m1, x1, x2, x3⟩ := zq_spells h (q := 5) (Or.inl ⟨rfl, rfl⟩)
  obtain ⟨m2, b1, b2, b3⟩ := zq_figures x2
  simp only [Nat.reduceAdd] at x1
  have r8 := b2.1.2.2.2
  have r5 := b2.1.1
  have ha := h.2.1.1
  cases hb : (zp_num T (zp_word T [114, 97, 105, 110, 32] s)).2.bad with
  | true =>
    rw [hb] at r8
    refine ⟨m2, ?_, b2.bad hb hb rfl, x3.trans b3⟩
    simp -implicitDefEqProofs (disch := first | omega | assumption | decide +kernel | exact Nat.le_of_ble_eq_true rfl) only [↓zx_push, ↓zx_ild0, ↓zx_ald0, ↓zx_lld0, ↓zx_ist0, ↓zx_ast0, ↓zx_inc0, ↓zx_ild1, ↓zx_ald1, ↓zx_lld1, ↓zx_ist1i, ↓zx_ist1r, ↓zx_ist1n, ↓zx_ast1i, ↓zx_ast1r, ↓zx_ast1n, ↓zx_inc1i, ↓zx_inc1r, ↓zx_inc1n, ↓zx_ild2, ↓zx_ald2, ↓zx_lld2, ↓zx_ist2i, ↓zx_ist2r, ↓zx_ist2n, ↓zx_ast2i, ↓zx_ast2r, ↓zx_ast2n, ↓zx_inc2i, ↓zx_inc2r, ↓zx_inc2n, ↓zx_ild3, ↓zx_ald3, ↓zx_lld3, ↓zx_ist3i, ↓zx_ist3r, ↓zx_ist3n, ↓zx_ast3i, ↓zx_ast3r, ↓zx_ast3n, ↓zx_inc3i, ↓zx_inc3r, ↓zx_inc3n, ↓zx_ild4, ↓zx_ald4, ↓zx_lld4, ↓zx_ist4i, ↓zx_ist4r, ↓zx_ist4n, ↓zx_ast4i, ↓zx_ast4r, ↓zx_ast4n, ↓zx_inc4i, ↓zx_inc4r, ↓zx_inc4n, ↓zx_ild5, ↓zx_ald5, ↓zx_lld5, ↓zx_ist5i, ↓zx_ist5r, ↓zx_ist5n, ↓zx_ast5i, ↓zx_ast5r, ↓zx_ast5n, ↓zx_inc5i, ↓zx_inc5r, ↓zx_inc5n, ↓zx_ild6, ↓zx_ald6, ↓zx_lld6, ↓zx_ist6i, ↓zx_ist6r, ↓zx_ist6n, ↓zx_ast6i, ↓zx_ast6r, ↓zx_ast6n, ↓zx_inc6i, ↓zx_inc6r, ↓zx_inc6n, ↓zx_ild7, ↓zx_ald7, ↓zx_lld7, ↓zx_ist7i, ↓zx_ist7r, ↓zx_ist7n, ↓zx_ast7i, ↓zx_ast7r, ↓zx_ast7n, ↓zx_inc7i, ↓zx_inc7r, ↓zx_inc7n, ↓zx_ild8, ↓zx_ald8, ↓zx_lld8, ↓zx_ist8i, ↓zx_ist8r, ↓zx_ist8n, ↓zx_ast8i, ↓zx_ast8r, ↓zx_ast8n, ↓zx_inc8i, ↓zx_inc8r, ↓zx_inc8n, ↓zx_ild9, ↓zx_ald9, ↓zx_lld9, ↓zx_ist9i, ↓zx_ist9r, ↓zx_ist9n, ↓zx_ast9i, ↓zx_ast9r, ↓zx_ast9n, ↓zx_inc9i, ↓zx_inc9r, ↓zx_inc9n, ↓zx_ild10, ↓zx_ald10, ↓zx_lld10, ↓zx_ist10i, ↓zx_ist10r, ↓zx_ist10n, ↓zx_ast10i, ↓zx_ast10r, ↓zx_ast10n, ↓zx_inc10i, ↓zx_inc10r, ↓zx_inc10n, ↓zx_b, ↓zx_u, ↓zx_i2l, ↓zx_lb, ↓zx_lu, ↓zx_lcmp, ↓zx_dupi, ↓zx_dupr, ↓zx_dup2, ↓zx_pop, zx_ceq_t, zx_ceq_f, zx_clt_t, zx_clt_f, zx_cle_t, zx_cle_f, zx_eq_t, zx_eq_f, zx_lt_t, zx_lt_f, zx_le_t, zx_le_f, zx_eq_b, zx_rem, zx_div, zx_go0, zx_go1, ↓zx_call0, ↓zx_call1, ↓zx_call2, ↓zx_call3, ↓zx_call4, ↓zx_call5, ↓zx_call6, ↓zx_call7, ↓zx_vc0, ↓zx_vn0, ↓zx_vc1, ↓zx_vn1, ↓zx_vc2, ↓zx_vn2, ↓zx_vc3, ↓zx_vn3, ↓zx_vc4, ↓zx_vn4, ↓zx_vc5, ↓zx_vn5, ↓zx_vc6, ↓zx_vn6, ↓zx_sc0, ↓zx_sc1, ↓zx_sc2, ↓zx_mmin, ↓zx_mmax, zx_ret0, zx_reti, zx_retl, zx_reta, zx_retz, zx_retz0, zx_retz1, zj_run, zj_e0, zj_E0, List.length_cons, List.length_nil, List.cons_append, List.nil_append, List.reduceReplicate, Nat.reduceLeDiff, Nat.reduceAdd, Nat.reduceSub, Nat.zero_add, Nat.zero_le, Nat.le_refl, reduceIte, ↓zb_X12_tellsHere_0, ↓zb_X12_tellsHere_29, ↓zf_X12_tellsHere, ↓G, zl_c, x1, b1, r8, Bool.toNat_true]
  | false =>
    rw [hb] at r8
    refine ⟨zj_st m2 91 (223 + a) (nI (zp_num T (zp_word T [114, 97, 105, 110, 32] s)).1), ?_, b2.rn _, (x3.trans b3).trans fun u j q1 q2 => by rw [zj_st_n (by omega)]⟩
    simp -implicitDefEqProofs (disch := first | omega | assumption | decide +kernel | exact Nat.le_of_ble_eq_true rfl) only [↓zx_push, ↓zx_ild0, ↓zx_ald0, ↓zx_lld0, ↓zx_ist0, ↓zx_ast0, ↓zx_inc0, ↓zx_ild1, ↓zx_ald1, ↓zx_lld1, ↓zx_ist1i, ↓zx_ist1r, ↓zx_ist1n, ↓zx_ast1i, ↓zx_ast1r, ↓zx_ast1n, ↓zx_inc1i, ↓zx_inc1r, ↓zx_inc1n, ↓zx_ild2, ↓zx_ald2, ↓zx_lld2, ↓zx_ist2i, ↓zx_ist2r, ↓zx_ist2n, ↓zx_ast2i, ↓zx_ast2r, ↓zx_ast2n, ↓zx_inc2i, ↓zx_inc2r, ↓zx_inc2n, ↓zx_ild3, ↓zx_ald3, ↓zx_lld3, ↓zx_ist3i, ↓zx_ist3r, ↓zx_ist3n, ↓zx_ast3i, ↓zx_ast3r, ↓zx_ast3n, ↓zx_inc3i, ↓zx_inc3r, ↓zx_inc3n, ↓zx_ild4, ↓zx_ald4, ↓zx_lld4, ↓zx_ist4i, ↓zx_ist4r, ↓zx_ist4n, ↓zx_ast4i, ↓zx_ast4r, ↓zx_ast4n, ↓zx_inc4i, ↓zx_inc4r, ↓zx_inc4n, ↓zx_ild5, ↓zx_ald5, ↓zx_lld5, ↓zx_ist5i, ↓zx_ist5r, ↓zx_ist5n, ↓zx_ast5i, ↓zx_ast5r, ↓zx_ast5n, ↓zx_inc5i, ↓zx_inc5r, ↓zx_inc5n, ↓zx_ild6, ↓zx_ald6, ↓zx_lld6, ↓zx_ist6i, ↓zx_ist6r, ↓zx_ist6n, ↓zx_ast6i, ↓zx_ast6r, ↓zx_ast6n, ↓zx_inc6i, ↓zx_inc6r, ↓zx_inc6n, ↓zx_ild7, ↓zx_ald7, ↓zx_lld7, ↓zx_ist7i, ↓zx_ist7r, ↓zx_ist7n, ↓zx_ast7i, ↓zx_ast7r, ↓zx_ast7n, ↓zx_inc7i, ↓zx_inc7r, ↓zx_inc7n, ↓zx_ild8, ↓zx_ald8, ↓zx_lld8, ↓zx_ist8i, ↓zx_ist8r, ↓zx_ist8n, ↓zx_ast8i, ↓zx_ast8r, ↓zx_ast8n, ↓zx_inc8i, ↓zx_inc8r, ↓zx_inc8n, ↓zx_ild9, ↓zx_ald9, ↓zx_lld9, ↓zx_ist9i, ↓zx_ist9r, ↓zx_ist9n, ↓zx_ast9i, ↓zx_ast9r, ↓zx_ast9n, ↓zx_inc9i, ↓zx_inc9r, ↓zx_inc9n, ↓zx_ild10, ↓zx_ald10, ↓zx_lld10, ↓zx_ist10i, ↓zx_ist10r, ↓zx_ist10n, ↓zx_ast10i, ↓zx_ast10r, ↓zx_ast10n, ↓zx_inc10i, ↓zx_inc10r, ↓zx_inc10n, ↓zx_b, ↓zx_u, ↓zx_i2l, ↓zx_lb, ↓zx_lu, ↓zx_lcmp, ↓zx_dupi, ↓zx_dupr, ↓zx_dup2, ↓zx_pop, zx_ceq_t, zx_ceq_f, zx_clt_t, zx_clt_f, zx_cle_t, zx_cle_f, zx_eq_t, zx_eq_f, zx_lt_t, zx_lt_f, zx_le_t, zx_le_f, zx_eq_b, zx_rem, zx_div, zx_go0, zx_go1, ↓zx_call0, ↓zx_call1, ↓zx_call2, ↓zx_call3, ↓zx_call4, ↓zx_call5, ↓zx_call6, ↓zx_call7, ↓zx_vc0, ↓zx_vn0, ↓zx_vc1, ↓zx_vn1, ↓zx_vc2, ↓zx_vn2, ↓zx_vc3, ↓zx_vn3, ↓zx_vc4, ↓zx_vn4, ↓zx_vc5, ↓zx_vn5, ↓zx_vc6, ↓zx_vn6, ↓zx_sc0, ↓zx_sc1, ↓zx_sc2, ↓zx_mmin, ↓zx_mmax, zx_ret0, zx_reti, zx_retl, zx_reta, zx_retz, zx_retz0, zx_retz1, zj_run, zj_e0, zj_E0, List.length_cons, List.length_nil, List.cons_append, List.nil_append, List.reduceReplicate, Nat.reduceLeDiff, Nat.reduceAdd, Nat.reduceSub, Nat.zero_add, Nat.zero_le, Nat.le_refl, reduceIte, ↓zb_X12_tellsHere_0, ↓zb_X12_tellsHere_29, ↓zf_X12_tellsHere, ↓G, ↓ar, zl_c, x1, b1, r8, r5, nI_add, Bool.toNat_false]
theorem zp_clause_no (hT : T.length ≤ 100) (hs : s.pos ≤ T.length) (h1 : ¬ zp_sg T s = some 114) (h2 : ¬ zp_sg T s = some 115) (h3 : ¬ zp_sg T s = some 99) : (zp_clause T s).bad = true ∧ (zp_clause T s).pos = s.pos := by
  have hD := ((zp_D.word (T := T) [97, 108, 109, 32]).comp zp_D.num).comp (zp_D.take 32)
  have hE := zp_E.top hT
  have hG := ((hD.1.comp hE.1) (zp_fail s) hs).1 rfl
  have e : zp_take T 99 s = zp_fail s := by unfold zp_take; rw [if_neg h3]
  unfold zp_clause
  rw [if_neg h1, if_neg h2]
  unfold zp_much
  rw [zp_word, e]
  obtain ⟨w1, w2, -⟩ := zp_wr_pos (zp_either T (zp_part T 5) (zp_take T 32 (zp_num T (zp_word T [97, 108, 109, 32] (zp_fail s))).2)) 22 (zp_num T (zp_word T [97, 108, 109, 32] (zp_fail s))).1
  exact ⟨w2.trans hG.1, w1.trans hG.2⟩
theorem zq_clause (h : zq_R a m T s) (h9 : m 90 9 = nI 0) (hb : s.bad = false) : ∃ m', zf_X12_clauseHere [.ref 90] m = some ([], m') ∧ zq_R a m' T (zp_clause T s) ∧ zq_f a m m' := by
  have G := zg_90
  have hc90 := zg_c90
  have e200 : (200 : Int32) = nI 200 := rfl
  by_cases q : zp_sg T s = some 114
  · have eH := zq_hereS h q
    obtain ⟨m', f1, f2, f3⟩ := zq_tells h
    have t1 : ¬ (99 : Int) = (nI 114).toInt := by decide
    have t2 : (114 : Int) = (nI 114).toInt := by decide
    unfold zp_clause
    rw [if_pos q]
    refine ⟨m', ?_, f2, f3⟩
    simp -implicitDefEqProofs (disch := first | omega | assumption | decide +kernel | exact Nat.le_of_ble_eq_true rfl) only [↓zx_push, ↓zx_ild0, ↓zx_ald0, ↓zx_lld0, ↓zx_ist0, ↓zx_ast0, ↓zx_inc0, ↓zx_ild1, ↓zx_ald1, ↓zx_lld1, ↓zx_ist1i, ↓zx_ist1r, ↓zx_ist1n, ↓zx_ast1i, ↓zx_ast1r, ↓zx_ast1n, ↓zx_inc1i, ↓zx_inc1r, ↓zx_inc1n, ↓zx_ild2, ↓zx_ald2, ↓zx_lld2, ↓zx_ist2i, ↓zx_ist2r, ↓zx_ist2n, ↓zx_ast2i, ↓zx_ast2r, ↓zx_ast2n, ↓zx_inc2i, ↓zx_inc2r, ↓zx_inc2n, ↓zx_ild3, ↓zx_ald3, ↓zx_lld3, ↓zx_ist3i, ↓zx_ist3r, ↓zx_ist3n, ↓zx_ast3i, ↓zx_ast3r, ↓zx_ast3n, ↓zx_inc3i, ↓zx_inc3r, ↓zx_inc3n, ↓zx_ild4, ↓zx_ald4, ↓zx_lld4, ↓zx_ist4i, ↓zx_ist4r, ↓zx_ist4n, ↓zx_ast4i, ↓zx_ast4r, ↓zx_ast4n, ↓zx_inc4i, ↓zx_inc4r, ↓zx_inc4n, ↓zx_ild5, ↓zx_ald5, ↓zx_lld5, ↓zx_ist5i, ↓zx_ist5r, ↓zx_ist5n, ↓zx_ast5i, ↓zx_ast5r, ↓zx_ast5n, ↓zx_inc5i, ↓zx_inc5r, ↓zx_inc5n, ↓zx_ild6, ↓zx_ald6, ↓zx_lld6, ↓zx_ist6i, ↓zx_ist6r, ↓zx_ist6n, ↓zx_ast6i, ↓zx_ast6r, ↓zx_ast6n, ↓zx_inc6i, ↓zx_inc6r, ↓zx_inc6n, ↓zx_ild7, ↓zx_ald7, ↓zx_lld7, ↓zx_ist7i, ↓zx_ist7r, ↓zx_ist7n, ↓zx_ast7i, ↓zx_ast7r, ↓zx_ast7n, ↓zx_inc7i, ↓zx_inc7r, ↓zx_inc7n, ↓zx_ild8, ↓zx_ald8, ↓zx_lld8, ↓zx_ist8i, ↓zx_ist8r, ↓zx_ist8n, ↓zx_ast8i, ↓zx_ast8r, ↓zx_ast8n, ↓zx_inc8i, ↓zx_inc8r, ↓zx_inc8n, ↓zx_ild9, ↓zx_ald9, ↓zx_lld9, ↓zx_ist9i, ↓zx_ist9r, ↓zx_ist9n, ↓zx_ast9i, ↓zx_ast9r, ↓zx_ast9n, ↓zx_inc9i, ↓zx_inc9r, ↓zx_inc9n, ↓zx_ild10, ↓zx_ald10, ↓zx_lld10, ↓zx_ist10i, ↓zx_ist10r, ↓zx_ist10n, ↓zx_ast10i, ↓zx_ast10r, ↓zx_ast10n, ↓zx_inc10i, ↓zx_inc10r, ↓zx_inc10n, ↓zx_b, ↓zx_u, ↓zx_i2l, ↓zx_lb, ↓zx_lu, ↓zx_lcmp, ↓zx_dupi, ↓zx_dupr, ↓zx_dup2, ↓zx_pop, zx_ceq_t, zx_ceq_f, zx_clt_t, zx_clt_f, zx_cle_t, zx_cle_f, zx_eq_t, zx_eq_f, zx_lt_t, zx_lt_f, zx_le_t, zx_le_f, zx_eq_b, zx_rem, zx_div, zx_go0, zx_go1, ↓zx_call0, ↓zx_call1, ↓zx_call2, ↓zx_call3, ↓zx_call4, ↓zx_call5, ↓zx_call6, ↓zx_call7, ↓zx_vc0, ↓zx_vn0, ↓zx_vc1, ↓zx_vn1, ↓zx_vc2, ↓zx_vn2, ↓zx_vc3, ↓zx_vn3, ↓zx_vc4, ↓zx_vn4, ↓zx_vc5, ↓zx_vn5, ↓zx_vc6, ↓zx_vn6, ↓zx_sc0, ↓zx_sc1, ↓zx_sc2, ↓zx_mmin, ↓zx_mmax, zx_ret0, zx_reti, zx_retl, zx_reta, zx_retz, zx_retz0, zx_retz1, zj_run, zj_e0, zj_E0, List.length_cons, List.length_nil, List.cons_append, List.nil_append, List.reduceReplicate, Nat.reduceLeDiff, Nat.reduceAdd, Nat.reduceSub, Nat.zero_add, Nat.zero_le, Nat.le_refl, reduceIte, ↓zb_X12_clauseHere_0, ↓zb_X12_clauseHere_40, ↓zb_X12_clauseHere_52, ↓zb_X12_clauseHere_63, ↓zb_X12_clauseHere_75, ↓zb_X12_clauseHere_80, ↓zf_X12_clauseHere, zl_c, eH, zy_lsw2, f1]
  · by_cases q2 : zp_sg T s = some 115
    · have eH := zq_hereS h q2
      obtain ⟨m', f1, f2, f3⟩ := zq_much h h9 (q := 6) (Or.inl ⟨rfl, rfl, rfl, rfl⟩)
      simp only [Nat.reduceAdd] at f1
      have t1 : ¬ (99 : Int) = (nI 115).toInt := by decide
      have t2 : ¬ (114 : Int) = (nI 115).toInt := by decide
      have t3 : (115 : Int) = (nI 115).toInt := by decide
      unfold zp_clause
      rw [if_neg q, if_pos q2]
      refine ⟨m', ?_, f2, f3⟩
      simp -implicitDefEqProofs (disch := first | omega | assumption | decide +kernel | exact Nat.le_of_ble_eq_true rfl) only [↓zx_push, ↓zx_ild0, ↓zx_ald0, ↓zx_lld0, ↓zx_ist0, ↓zx_ast0, ↓zx_inc0, ↓zx_ild1, ↓zx_ald1, ↓zx_lld1, ↓zx_ist1i, ↓zx_ist1r, ↓zx_ist1n, ↓zx_ast1i, ↓zx_ast1r, ↓zx_ast1n, ↓zx_inc1i, ↓zx_inc1r, ↓zx_inc1n, ↓zx_ild2, ↓zx_ald2, ↓zx_lld2, ↓zx_ist2i, ↓zx_ist2r, ↓zx_ist2n, ↓zx_ast2i, ↓zx_ast2r, ↓zx_ast2n, ↓zx_inc2i, ↓zx_inc2r, ↓zx_inc2n, ↓zx_ild3, ↓zx_ald3, ↓zx_lld3, ↓zx_ist3i, ↓zx_ist3r, ↓zx_ist3n, ↓zx_ast3i, ↓zx_ast3r, ↓zx_ast3n, ↓zx_inc3i, ↓zx_inc3r, ↓zx_inc3n, ↓zx_ild4, ↓zx_ald4, ↓zx_lld4, ↓zx_ist4i, ↓zx_ist4r, ↓zx_ist4n, ↓zx_ast4i, ↓zx_ast4r, ↓zx_ast4n, ↓zx_inc4i, ↓zx_inc4r, ↓zx_inc4n, ↓zx_ild5, ↓zx_ald5, ↓zx_lld5, ↓zx_ist5i, ↓zx_ist5r, ↓zx_ist5n, ↓zx_ast5i, ↓zx_ast5r, ↓zx_ast5n, ↓zx_inc5i, ↓zx_inc5r, ↓zx_inc5n, ↓zx_ild6, ↓zx_ald6, ↓zx_lld6, ↓zx_ist6i, ↓zx_ist6r, ↓zx_ist6n, ↓zx_ast6i, ↓zx_ast6r, ↓zx_ast6n, ↓zx_inc6i, ↓zx_inc6r, ↓zx_inc6n, ↓zx_ild7, ↓zx_ald7, ↓zx_lld7, ↓zx_ist7i, ↓zx_ist7r, ↓zx_ist7n, ↓zx_ast7i, ↓zx_ast7r, ↓zx_ast7n, ↓zx_inc7i, ↓zx_inc7r, ↓zx_inc7n, ↓zx_ild8, ↓zx_ald8, ↓zx_lld8, ↓zx_ist8i, ↓zx_ist8r, ↓zx_ist8n, ↓zx_ast8i, ↓zx_ast8r, ↓zx_ast8n, ↓zx_inc8i, ↓zx_inc8r, ↓zx_inc8n, ↓zx_ild9, ↓zx_ald9, ↓zx_lld9, ↓zx_ist9i, ↓zx_ist9r, ↓zx_ist9n, ↓zx_ast9i, ↓zx_ast9r, ↓zx_ast9n, ↓zx_inc9i, ↓zx_inc9r, ↓zx_inc9n, ↓zx_ild10, ↓zx_ald10, ↓zx_lld10, ↓zx_ist10i, ↓zx_ist10r, ↓zx_ist10n, ↓zx_ast10i, ↓zx_ast10r, ↓zx_ast10n, ↓zx_inc10i, ↓zx_inc10r, ↓zx_inc10n, ↓zx_b, ↓zx_u, ↓zx_i2l, ↓zx_lb, ↓zx_lu, ↓zx_lcmp, ↓zx_dupi, ↓zx_dupr, ↓zx_dup2, ↓zx_pop, zx_ceq_t, zx_ceq_f, zx_clt_t, zx_clt_f, zx_cle_t, zx_cle_f, zx_eq_t, zx_eq_f, zx_lt_t, zx_lt_f, zx_le_t, zx_le_f, zx_eq_b, zx_rem, zx_div, zx_go0, zx_go1, ↓zx_call0, ↓zx_call1, ↓zx_call2, ↓zx_call3, ↓zx_call4, ↓zx_call5, ↓zx_call6, ↓zx_call7, ↓zx_vc0, ↓zx_vn0, ↓zx_vc1, ↓zx_vn1, ↓zx_vc2, ↓zx_vn2, ↓zx_vc3, ↓zx_vn3, ↓zx_vc4, ↓zx_vn4, ↓zx_vc5, ↓zx_vn5, ↓zx_vc6, ↓zx_vn6, ↓zx_sc0, ↓zx_sc1, ↓zx_sc2, ↓zx_mmin, ↓zx_mmax, zx_ret0, zx_reti, zx_retl, zx_reta, zx_retz, zx_retz0, zx_retz1, zj_run, zj_e0, zj_E0, List.length_cons, List.length_nil, List.cons_append, List.nil_append, List.reduceReplicate, Nat.reduceLeDiff, Nat.reduceAdd, Nat.reduceSub, Nat.zero_add, Nat.zero_le, Nat.le_refl, reduceIte, ↓zb_X12_clauseHere_0, ↓zb_X12_clauseHere_40, ↓zb_X12_clauseHere_52, ↓zb_X12_clauseHere_63, ↓zb_X12_clauseHere_75, ↓zb_X12_clauseHere_80, ↓zf_X12_clauseHere, zl_c, eH, zy_lsw3, f1]
    · by_cases q3 : zp_sg T s = some 99
      · have eH := zq_hereS h q3
        obtain ⟨m', f1, f2, f3⟩ := zq_much h h9 (q := 9) (Or.inr ⟨rfl, rfl, rfl, rfl⟩)
        simp only [Nat.reduceAdd] at f1
        have t1 : (99 : Int) = (nI 99).toInt := by decide
        unfold zp_clause
        rw [if_neg q, if_neg q2]
        refine ⟨m', ?_, f2, f3⟩
        simp -implicitDefEqProofs (disch := first | omega | assumption | decide +kernel | exact Nat.le_of_ble_eq_true rfl) only [↓zx_push, ↓zx_ild0, ↓zx_ald0, ↓zx_lld0, ↓zx_ist0, ↓zx_ast0, ↓zx_inc0, ↓zx_ild1, ↓zx_ald1, ↓zx_lld1, ↓zx_ist1i, ↓zx_ist1r, ↓zx_ist1n, ↓zx_ast1i, ↓zx_ast1r, ↓zx_ast1n, ↓zx_inc1i, ↓zx_inc1r, ↓zx_inc1n, ↓zx_ild2, ↓zx_ald2, ↓zx_lld2, ↓zx_ist2i, ↓zx_ist2r, ↓zx_ist2n, ↓zx_ast2i, ↓zx_ast2r, ↓zx_ast2n, ↓zx_inc2i, ↓zx_inc2r, ↓zx_inc2n, ↓zx_ild3, ↓zx_ald3, ↓zx_lld3, ↓zx_ist3i, ↓zx_ist3r, ↓zx_ist3n, ↓zx_ast3i, ↓zx_ast3r, ↓zx_ast3n, ↓zx_inc3i, ↓zx_inc3r, ↓zx_inc3n, ↓zx_ild4, ↓zx_ald4, ↓zx_lld4, ↓zx_ist4i, ↓zx_ist4r, ↓zx_ist4n, ↓zx_ast4i, ↓zx_ast4r, ↓zx_ast4n, ↓zx_inc4i, ↓zx_inc4r, ↓zx_inc4n, ↓zx_ild5, ↓zx_ald5, ↓zx_lld5, ↓zx_ist5i, ↓zx_ist5r, ↓zx_ist5n, ↓zx_ast5i, ↓zx_ast5r, ↓zx_ast5n, ↓zx_inc5i, ↓zx_inc5r, ↓zx_inc5n, ↓zx_ild6, ↓zx_ald6, ↓zx_lld6, ↓zx_ist6i, ↓zx_ist6r, ↓zx_ist6n, ↓zx_ast6i, ↓zx_ast6r, ↓zx_ast6n, ↓zx_inc6i, ↓zx_inc6r, ↓zx_inc6n, ↓zx_ild7, ↓zx_ald7, ↓zx_lld7, ↓zx_ist7i, ↓zx_ist7r, ↓zx_ist7n, ↓zx_ast7i, ↓zx_ast7r, ↓zx_ast7n, ↓zx_inc7i, ↓zx_inc7r, ↓zx_inc7n, ↓zx_ild8, ↓zx_ald8, ↓zx_lld8, ↓zx_ist8i, ↓zx_ist8r, ↓zx_ist8n, ↓zx_ast8i, ↓zx_ast8r, ↓zx_ast8n, ↓zx_inc8i, ↓zx_inc8r, ↓zx_inc8n, ↓zx_ild9, ↓zx_ald9, ↓zx_lld9, ↓zx_ist9i, ↓zx_ist9r, ↓zx_ist9n, ↓zx_ast9i, ↓zx_ast9r, ↓zx_ast9n, ↓zx_inc9i, ↓zx_inc9r, ↓zx_inc9n, ↓zx_ild10, ↓zx_ald10, ↓zx_lld10, ↓zx_ist10i, ↓zx_ist10r, ↓zx_ist10n, ↓zx_ast10i, ↓zx_ast10r, ↓zx_ast10n, ↓zx_inc10i, ↓zx_inc10r, ↓zx_inc10n, ↓zx_b, ↓zx_u, ↓zx_i2l, ↓zx_lb, ↓zx_lu, ↓zx_lcmp, ↓zx_dupi, ↓zx_dupr, ↓zx_dup2, ↓zx_pop, zx_ceq_t, zx_ceq_f, zx_clt_t, zx_clt_f, zx_cle_t, zx_cle_f, zx_eq_t, zx_eq_f, zx_lt_t, zx_lt_f, zx_le_t, zx_le_f, zx_eq_b, zx_rem, zx_div, zx_go0, zx_go1, ↓zx_call0, ↓zx_call1, ↓zx_call2, ↓zx_call3, ↓zx_call4, ↓zx_call5, ↓zx_call6, ↓zx_call7, ↓zx_vc0, ↓zx_vn0, ↓zx_vc1, ↓zx_vn1, ↓zx_vc2, ↓zx_vn2, ↓zx_vc3, ↓zx_vn3, ↓zx_vc4, ↓zx_vn4, ↓zx_vc5, ↓zx_vn5, ↓zx_vc6, ↓zx_vn6, ↓zx_sc0, ↓zx_sc1, ↓zx_sc2, ↓zx_mmin, ↓zx_mmax, zx_ret0, zx_reti, zx_retl, zx_reta, zx_retz, zx_retz0, zx_retz1, zj_run, zj_e0, zj_E0, List.length_cons, List.length_nil, List.cons_append, List.nil_append, List.reduceReplicate, Nat.reduceLeDiff, Nat.reduceAdd, Nat.reduceSub, Nat.zero_add, Nat.zero_le, Nat.le_refl, reduceIte, ↓zb_X12_clauseHere_0, ↓zb_X12_clauseHere_40, ↓zb_X12_clauseHere_52, ↓zb_X12_clauseHere_63, ↓zb_X12_clauseHere_75, ↓zb_X12_clauseHere_80, ↓zf_X12_clauseHere, zl_c, e200, eH, zy_lsw1, f1]
      · have eH := zq_here h hb
        have t1 := zy_tI (k := 99) (by omega) (fun x => q3 ((zq_ne h (by omega)).mp x))
        have t2 := zy_tI (k := 114) (by omega) (fun x => q ((zq_ne h (by omega)).mp x))
        have t3 := zy_tI (k := 115) (by omega) (fun x => q2 ((zq_ne h (by omega)).mp x))
        have hx := zp_clause_no h.2.1.2.1 h.2.1.2.2 q q2 q3
        refine ⟨zj_st m 90 8 (nI 1), ?_, h.b1.bad rfl hx.1 hx.2, fun u j q1 _ => by rw [zj_st_n (by omega)]⟩
        simp -implicitDefEqProofs (disch := first | omega | assumption | decide +kernel | exact Nat.le_of_ble_eq_true rfl) only [↓zx_push, ↓zx_ild0, ↓zx_ald0, ↓zx_lld0, ↓zx_ist0, ↓zx_ast0, ↓zx_inc0, ↓zx_ild1, ↓zx_ald1, ↓zx_lld1, ↓zx_ist1i, ↓zx_ist1r, ↓zx_ist1n, ↓zx_ast1i, ↓zx_ast1r, ↓zx_ast1n, ↓zx_inc1i, ↓zx_inc1r, ↓zx_inc1n, ↓zx_ild2, ↓zx_ald2, ↓zx_lld2, ↓zx_ist2i, ↓zx_ist2r, ↓zx_ist2n, ↓zx_ast2i, ↓zx_ast2r, ↓zx_ast2n, ↓zx_inc2i, ↓zx_inc2r, ↓zx_inc2n, ↓zx_ild3, ↓zx_ald3, ↓zx_lld3, ↓zx_ist3i, ↓zx_ist3r, ↓zx_ist3n, ↓zx_ast3i, ↓zx_ast3r, ↓zx_ast3n, ↓zx_inc3i, ↓zx_inc3r, ↓zx_inc3n, ↓zx_ild4, ↓zx_ald4, ↓zx_lld4, ↓zx_ist4i, ↓zx_ist4r, ↓zx_ist4n, ↓zx_ast4i, ↓zx_ast4r, ↓zx_ast4n, ↓zx_inc4i, ↓zx_inc4r, ↓zx_inc4n, ↓zx_ild5, ↓zx_ald5, ↓zx_lld5, ↓zx_ist5i, ↓zx_ist5r, ↓zx_ist5n, ↓zx_ast5i, ↓zx_ast5r, ↓zx_ast5n, ↓zx_inc5i, ↓zx_inc5r, ↓zx_inc5n, ↓zx_ild6, ↓zx_ald6, ↓zx_lld6, ↓zx_ist6i, ↓zx_ist6r, ↓zx_ist6n, ↓zx_ast6i, ↓zx_ast6r, ↓zx_ast6n, ↓zx_inc6i, ↓zx_inc6r, ↓zx_inc6n, ↓zx_ild7, ↓zx_ald7, ↓zx_lld7, ↓zx_ist7i, ↓zx_ist7r, ↓zx_ist7n, ↓zx_ast7i, ↓zx_ast7r, ↓zx_ast7n, ↓zx_inc7i, ↓zx_inc7r, ↓zx_inc7n, ↓zx_ild8, ↓zx_ald8, ↓zx_lld8, ↓zx_ist8i, ↓zx_ist8r, ↓zx_ist8n, ↓zx_ast8i, ↓zx_ast8r, ↓zx_ast8n, ↓zx_inc8i, ↓zx_inc8r, ↓zx_inc8n, ↓zx_ild9, ↓zx_ald9, ↓zx_lld9, ↓zx_ist9i, ↓zx_ist9r, ↓zx_ist9n, ↓zx_ast9i, ↓zx_ast9r, ↓zx_ast9n, ↓zx_inc9i, ↓zx_inc9r, ↓zx_inc9n, ↓zx_ild10, ↓zx_ald10, ↓zx_lld10, ↓zx_ist10i, ↓zx_ist10r, ↓zx_ist10n, ↓zx_ast10i, ↓zx_ast10r, ↓zx_ast10n, ↓zx_inc10i, ↓zx_inc10r, ↓zx_inc10n, ↓zx_b, ↓zx_u, ↓zx_i2l, ↓zx_lb, ↓zx_lu, ↓zx_lcmp, ↓zx_dupi, ↓zx_dupr, ↓zx_dup2, ↓zx_pop, zx_ceq_t, zx_ceq_f, zx_clt_t, zx_clt_f, zx_cle_t, zx_cle_f, zx_eq_t, zx_eq_f, zx_lt_t, zx_lt_f, zx_le_t, zx_le_f, zx_eq_b, zx_rem, zx_div, zx_go0, zx_go1, ↓zx_call0, ↓zx_call1, ↓zx_call2, ↓zx_call3, ↓zx_call4, ↓zx_call5, ↓zx_call6, ↓zx_call7, ↓zx_vc0, ↓zx_vn0, ↓zx_vc1, ↓zx_vn1, ↓zx_vc2, ↓zx_vn2, ↓zx_vc3, ↓zx_vn3, ↓zx_vc4, ↓zx_vn4, ↓zx_vc5, ↓zx_vn5, ↓zx_vc6, ↓zx_vn6, ↓zx_sc0, ↓zx_sc1, ↓zx_sc2, ↓zx_mmin, ↓zx_mmax, zx_ret0, zx_reti, zx_retl, zx_reta, zx_retz, zx_retz0, zx_retz1, zj_run, zj_e0, zj_E0, List.length_cons, List.length_nil, List.cons_append, List.nil_append, List.reduceReplicate, Nat.reduceLeDiff, Nat.reduceAdd, Nat.reduceSub, Nat.zero_add, Nat.zero_le, Nat.le_refl, reduceIte, ↓zb_X12_clauseHere_0, ↓zb_X12_clauseHere_40, ↓zb_X12_clauseHere_52, ↓zb_X12_clauseHere_63, ↓zb_X12_clauseHere_75, ↓zb_X12_clauseHere_80, ↓zf_X12_clauseHere, ↓G, zl_c, eH, zy_lsw0]
theorem zq_park_loop : ∀ (k i fuel : Nat) (m : zj_M) (s : zp_S), k + i = 10 → k < fuel → zq_R a m T s → m 90 9 = nI 0 → ∃ m' s' y, zj_lp zb_X12_park_93 fuel [some (.ref 90), some (.int (nI i))] [] m = zb_X12_park_135 [some (.ref 90), some (.int y)] [] m' ∧ zq_R a m' T s' ∧ zq_f a m m' ∧ ((zp_rest T k s).2 = true → s'.bad = false ∧ s'.pos = T.length ∧ s' = (zp_rest T k s).1) ∧ ((zp_rest T k s).2 = false → (s'.bad = true ∨ ¬ s'.pos = T.length) ∧ s'.pos = (zp_rest T k s).1.pos) := by
  have G := zg_90
  have hc90 := zg_c90
  intro k
  induction k with
  | zero =>
    intro i fuel m s hk hf h h9
    obtain ⟨f, rfl⟩ : ∃ f, fuel = f + 1 := ⟨fuel - 1, by omega⟩
    have r8 := h.1.2.2.2
    have hs := h.2.1.2.2
    have ei : i = 10 := by omega
    subst ei
    refine ⟨m, s, nI 10, ?_, h, zq_f.rf, ?_⟩
    · rw [zj_lp_s]
      cases hb : s.bad with
      | true =>
        rw [hb] at r8
        simp -implicitDefEqProofs (disch := first | omega | assumption | decide +kernel | exact Nat.le_of_ble_eq_true rfl) only [↓zx_push, ↓zx_ild0, ↓zx_ald0, ↓zx_lld0, ↓zx_ist0, ↓zx_ast0, ↓zx_inc0, ↓zx_ild1, ↓zx_ald1, ↓zx_lld1, ↓zx_ist1i, ↓zx_ist1r, ↓zx_ist1n, ↓zx_ast1i, ↓zx_ast1r, ↓zx_ast1n, ↓zx_inc1i, ↓zx_inc1r, ↓zx_inc1n, ↓zx_ild2, ↓zx_ald2, ↓zx_lld2, ↓zx_ist2i, ↓zx_ist2r, ↓zx_ist2n, ↓zx_ast2i, ↓zx_ast2r, ↓zx_ast2n, ↓zx_inc2i, ↓zx_inc2r, ↓zx_inc2n, ↓zx_ild3, ↓zx_ald3, ↓zx_lld3, ↓zx_ist3i, ↓zx_ist3r, ↓zx_ist3n, ↓zx_ast3i, ↓zx_ast3r, ↓zx_ast3n, ↓zx_inc3i, ↓zx_inc3r, ↓zx_inc3n, ↓zx_ild4, ↓zx_ald4, ↓zx_lld4, ↓zx_ist4i, ↓zx_ist4r, ↓zx_ist4n, ↓zx_ast4i, ↓zx_ast4r, ↓zx_ast4n, ↓zx_inc4i, ↓zx_inc4r, ↓zx_inc4n, ↓zx_ild5, ↓zx_ald5, ↓zx_lld5, ↓zx_ist5i, ↓zx_ist5r, ↓zx_ist5n, ↓zx_ast5i, ↓zx_ast5r, ↓zx_ast5n, ↓zx_inc5i, ↓zx_inc5r, ↓zx_inc5n, ↓zx_ild6, ↓zx_ald6, ↓zx_lld6, ↓zx_ist6i, ↓zx_ist6r, ↓zx_ist6n, ↓zx_ast6i, ↓zx_ast6r, ↓zx_ast6n, ↓zx_inc6i, ↓zx_inc6r, ↓zx_inc6n, ↓zx_ild7, ↓zx_ald7, ↓zx_lld7, ↓zx_ist7i, ↓zx_ist7r, ↓zx_ist7n, ↓zx_ast7i, ↓zx_ast7r, ↓zx_ast7n, ↓zx_inc7i, ↓zx_inc7r, ↓zx_inc7n, ↓zx_ild8, ↓zx_ald8, ↓zx_lld8, ↓zx_ist8i, ↓zx_ist8r, ↓zx_ist8n, ↓zx_ast8i, ↓zx_ast8r, ↓zx_ast8n, ↓zx_inc8i, ↓zx_inc8r, ↓zx_inc8n, ↓zx_ild9, ↓zx_ald9, ↓zx_lld9, ↓zx_ist9i, ↓zx_ist9r, ↓zx_ist9n, ↓zx_ast9i, ↓zx_ast9r, ↓zx_ast9n, ↓zx_inc9i, ↓zx_inc9r, ↓zx_inc9n, ↓zx_ild10, ↓zx_ald10, ↓zx_lld10, ↓zx_ist10i, ↓zx_ist10r, ↓zx_ist10n, ↓zx_ast10i, ↓zx_ast10r, ↓zx_ast10n, ↓zx_inc10i, ↓zx_inc10r, ↓zx_inc10n, ↓zx_b, ↓zx_u, ↓zx_i2l, ↓zx_lb, ↓zx_lu, ↓zx_lcmp, ↓zx_dupi, ↓zx_dupr, ↓zx_dup2, ↓zx_pop, zx_ceq_t, zx_ceq_f, zx_clt_t, zx_clt_f, zx_cle_t, zx_cle_f, zx_eq_t, zx_eq_f, zx_lt_t, zx_lt_f, zx_le_t, zx_le_f, zx_eq_b, zx_rem, zx_div, zx_go0, zx_go1, ↓zx_call0, ↓zx_call1, ↓zx_call2, ↓zx_call3, ↓zx_call4, ↓zx_call5, ↓zx_call6, ↓zx_call7, ↓zx_vc0, ↓zx_vn0, ↓zx_vc1, ↓zx_vn1, ↓zx_vc2, ↓zx_vn2, ↓zx_vc3, ↓zx_vn3, ↓zx_vc4, ↓zx_vn4, ↓zx_vc5, ↓zx_vn5, ↓zx_vc6, ↓zx_vn6, ↓zx_sc0, ↓zx_sc1, ↓zx_sc2, ↓zx_mmin, ↓zx_mmax, zx_ret0, zx_reti, zx_retl, zx_reta, zx_retz, zx_retz0, zx_retz1, zj_run, zj_e0, zj_E0, List.length_cons, List.length_nil, List.cons_append, List.nil_append, List.reduceReplicate, Nat.reduceLeDiff, Nat.reduceAdd, Nat.reduceSub, Nat.zero_add, Nat.zero_le, Nat.le_refl, reduceIte, ↓zb_X12_park_93, ↓G, zl_c, r8, Bool.toNat_true]
      | false =>
        rw [hb] at r8
        simp -implicitDefEqProofs (disch := first | omega | assumption | decide +kernel | exact Nat.le_of_ble_eq_true rfl) only [↓zx_push, ↓zx_ild0, ↓zx_ald0, ↓zx_lld0, ↓zx_ist0, ↓zx_ast0, ↓zx_inc0, ↓zx_ild1, ↓zx_ald1, ↓zx_lld1, ↓zx_ist1i, ↓zx_ist1r, ↓zx_ist1n, ↓zx_ast1i, ↓zx_ast1r, ↓zx_ast1n, ↓zx_inc1i, ↓zx_inc1r, ↓zx_inc1n, ↓zx_ild2, ↓zx_ald2, ↓zx_lld2, ↓zx_ist2i, ↓zx_ist2r, ↓zx_ist2n, ↓zx_ast2i, ↓zx_ast2r, ↓zx_ast2n, ↓zx_inc2i, ↓zx_inc2r, ↓zx_inc2n, ↓zx_ild3, ↓zx_ald3, ↓zx_lld3, ↓zx_ist3i, ↓zx_ist3r, ↓zx_ist3n, ↓zx_ast3i, ↓zx_ast3r, ↓zx_ast3n, ↓zx_inc3i, ↓zx_inc3r, ↓zx_inc3n, ↓zx_ild4, ↓zx_ald4, ↓zx_lld4, ↓zx_ist4i, ↓zx_ist4r, ↓zx_ist4n, ↓zx_ast4i, ↓zx_ast4r, ↓zx_ast4n, ↓zx_inc4i, ↓zx_inc4r, ↓zx_inc4n, ↓zx_ild5, ↓zx_ald5, ↓zx_lld5, ↓zx_ist5i, ↓zx_ist5r, ↓zx_ist5n, ↓zx_ast5i, ↓zx_ast5r, ↓zx_ast5n, ↓zx_inc5i, ↓zx_inc5r, ↓zx_inc5n, ↓zx_ild6, ↓zx_ald6, ↓zx_lld6, ↓zx_ist6i, ↓zx_ist6r, ↓zx_ist6n, ↓zx_ast6i, ↓zx_ast6r, ↓zx_ast6n, ↓zx_inc6i, ↓zx_inc6r, ↓zx_inc6n, ↓zx_ild7, ↓zx_ald7, ↓zx_lld7, ↓zx_ist7i, ↓zx_ist7r, ↓zx_ist7n, ↓zx_ast7i, ↓zx_ast7r, ↓zx_ast7n, ↓zx_inc7i, ↓zx_inc7r, ↓zx_inc7n, ↓zx_ild8, ↓zx_ald8, ↓zx_lld8, ↓zx_ist8i, ↓zx_ist8r, ↓zx_ist8n, ↓zx_ast8i, ↓zx_ast8r, ↓zx_ast8n, ↓zx_inc8i, ↓zx_inc8r, ↓zx_inc8n, ↓zx_ild9, ↓zx_ald9, ↓zx_lld9, ↓zx_ist9i, ↓zx_ist9r, ↓zx_ist9n, ↓zx_ast9i, ↓zx_ast9r, ↓zx_ast9n, ↓zx_inc9i, ↓zx_inc9r, ↓zx_inc9n, ↓zx_ild10, ↓zx_ald10, ↓zx_lld10, ↓zx_ist10i, ↓zx_ist10r, ↓zx_ist10n, ↓zx_ast10i, ↓zx_ast10r, ↓zx_ast10n, ↓zx_inc10i, ↓zx_inc10r, ↓zx_inc10n, ↓zx_b, ↓zx_u, ↓zx_i2l, ↓zx_lb, ↓zx_lu, ↓zx_lcmp, ↓zx_dupi, ↓zx_dupr, ↓zx_dup2, ↓zx_pop, zx_ceq_t, zx_ceq_f, zx_clt_t, zx_clt_f, zx_cle_t, zx_cle_f, zx_eq_t, zx_eq_f, zx_lt_t, zx_lt_f, zx_le_t, zx_le_f, zx_eq_b, zx_rem, zx_div, zx_go0, zx_go1, ↓zx_call0, ↓zx_call1, ↓zx_call2, ↓zx_call3, ↓zx_call4, ↓zx_call5, ↓zx_call6, ↓zx_call7, ↓zx_vc0, ↓zx_vn0, ↓zx_vc1, ↓zx_vn1, ↓zx_vc2, ↓zx_vn2, ↓zx_vc3, ↓zx_vn3, ↓zx_vc4, ↓zx_vn4, ↓zx_vc5, ↓zx_vn5, ↓zx_vc6, ↓zx_vn6, ↓zx_sc0, ↓zx_sc1, ↓zx_sc2, ↓zx_mmin, ↓zx_mmax, zx_ret0, zx_reti, zx_retl, zx_reta, zx_retz, zx_retz0, zx_retz1, zj_run, zj_e0, zj_E0, List.length_cons, List.length_nil, List.cons_append, List.nil_append, List.reduceReplicate, Nat.reduceLeDiff, Nat.reduceAdd, Nat.reduceSub, Nat.zero_add, Nat.zero_le, Nat.le_refl, reduceIte, ↓zb_X12_park_93, ↓G, zl_c, r8, Bool.toNat_false]
    · unfold zp_rest
      cases hb : s.bad with
      | true =>
        rw [if_pos (Or.inl rfl)]
        exact ⟨fun q => Bool.noConfusion q, fun _ => ⟨Or.inl rfl, rfl⟩⟩
      | false =>
        by_cases hl : T.length ≤ s.pos
        · rw [if_pos (Or.inr hl)]
          exact ⟨fun _ => ⟨rfl, Nat.le_antisymm hs hl, rfl⟩, fun q => Bool.noConfusion q⟩
        · rw [if_neg (fun x => x.elim (fun y => Bool.noConfusion y) hl)]
          exact ⟨fun q => Bool.noConfusion q, fun _ => ⟨Or.inr (by omega), rfl⟩⟩
  | succ k ih =>
    intro i fuel m s hk hf h h9
    obtain ⟨f, rfl⟩ : ∃ f, fuel = f + 1 := ⟨fuel - 1, by omega⟩
    have r8 := h.1.2.2.2
    have r6 := h.1.2.1
    have hs := h.2.1.2.2
    have hT := h.2.1.2.1
    unfold zp_rest
    cases hb : s.bad with
    | true =>
      rw [hb] at r8
      rw [if_pos (Or.inl rfl)]
      refine ⟨m, s, nI i, ?_, h, zq_f.rf, fun q => Bool.noConfusion q, fun _ => ⟨Or.inl hb, rfl⟩⟩
      rw [zj_lp_s]
      simp -implicitDefEqProofs (disch := first | omega | assumption | decide +kernel | exact Nat.le_of_ble_eq_true rfl) only [↓zx_push, ↓zx_ild0, ↓zx_ald0, ↓zx_lld0, ↓zx_ist0, ↓zx_ast0, ↓zx_inc0, ↓zx_ild1, ↓zx_ald1, ↓zx_lld1, ↓zx_ist1i, ↓zx_ist1r, ↓zx_ist1n, ↓zx_ast1i, ↓zx_ast1r, ↓zx_ast1n, ↓zx_inc1i, ↓zx_inc1r, ↓zx_inc1n, ↓zx_ild2, ↓zx_ald2, ↓zx_lld2, ↓zx_ist2i, ↓zx_ist2r, ↓zx_ist2n, ↓zx_ast2i, ↓zx_ast2r, ↓zx_ast2n, ↓zx_inc2i, ↓zx_inc2r, ↓zx_inc2n, ↓zx_ild3, ↓zx_ald3, ↓zx_lld3, ↓zx_ist3i, ↓zx_ist3r, ↓zx_ist3n, ↓zx_ast3i, ↓zx_ast3r, ↓zx_ast3n, ↓zx_inc3i, ↓zx_inc3r, ↓zx_inc3n, ↓zx_ild4, ↓zx_ald4, ↓zx_lld4, ↓zx_ist4i, ↓zx_ist4r, ↓zx_ist4n, ↓zx_ast4i, ↓zx_ast4r, ↓zx_ast4n, ↓zx_inc4i, ↓zx_inc4r, ↓zx_inc4n, ↓zx_ild5, ↓zx_ald5, ↓zx_lld5, ↓zx_ist5i, ↓zx_ist5r, ↓zx_ist5n, ↓zx_ast5i, ↓zx_ast5r, ↓zx_ast5n, ↓zx_inc5i, ↓zx_inc5r, ↓zx_inc5n, ↓zx_ild6, ↓zx_ald6, ↓zx_lld6, ↓zx_ist6i, ↓zx_ist6r, ↓zx_ist6n, ↓zx_ast6i, ↓zx_ast6r, ↓zx_ast6n, ↓zx_inc6i, ↓zx_inc6r, ↓zx_inc6n, ↓zx_ild7, ↓zx_ald7, ↓zx_lld7, ↓zx_ist7i, ↓zx_ist7r, ↓zx_ist7n, ↓zx_ast7i, ↓zx_ast7r, ↓zx_ast7n, ↓zx_inc7i, ↓zx_inc7r, ↓zx_inc7n, ↓zx_ild8, ↓zx_ald8, ↓zx_lld8, ↓zx_ist8i, ↓zx_ist8r, ↓zx_ist8n, ↓zx_ast8i, ↓zx_ast8r, ↓zx_ast8n, ↓zx_inc8i, ↓zx_inc8r, ↓zx_inc8n, ↓zx_ild9, ↓zx_ald9, ↓zx_lld9, ↓zx_ist9i, ↓zx_ist9r, ↓zx_ist9n, ↓zx_ast9i, ↓zx_ast9r, ↓zx_ast9n, ↓zx_inc9i, ↓zx_inc9r, ↓zx_inc9n, ↓zx_ild10, ↓zx_ald10, ↓zx_lld10, ↓zx_ist10i, ↓zx_ist10r, ↓zx_ist10n, ↓zx_ast10i, ↓zx_ast10r, ↓zx_ast10n, ↓zx_inc10i, ↓zx_inc10r, ↓zx_inc10n, ↓zx_b, ↓zx_u, ↓zx_i2l, ↓zx_lb, ↓zx_lu, ↓zx_lcmp, ↓zx_dupi, ↓zx_dupr, ↓zx_dup2, ↓zx_pop, zx_ceq_t, zx_ceq_f, zx_clt_t, zx_clt_f, zx_cle_t, zx_cle_f, zx_eq_t, zx_eq_f, zx_lt_t, zx_lt_f, zx_le_t, zx_le_f, zx_eq_b, zx_rem, zx_div, zx_go0, zx_go1, ↓zx_call0, ↓zx_call1, ↓zx_call2, ↓zx_call3, ↓zx_call4, ↓zx_call5, ↓zx_call6, ↓zx_call7, ↓zx_vc0, ↓zx_vn0, ↓zx_vc1, ↓zx_vn1, ↓zx_vc2, ↓zx_vn2, ↓zx_vc3, ↓zx_vn3, ↓zx_vc4, ↓zx_vn4, ↓zx_vc5, ↓zx_vn5, ↓zx_vc6, ↓zx_vn6, ↓zx_sc0, ↓zx_sc1, ↓zx_sc2, ↓zx_mmin, ↓zx_mmax, zx_ret0, zx_reti, zx_retl, zx_reta, zx_retz, zx_retz0, zx_retz1, zj_run, zj_e0, zj_E0, List.length_cons, List.length_nil, List.cons_append, List.nil_append, List.reduceReplicate, Nat.reduceLeDiff, Nat.reduceAdd, Nat.reduceSub, Nat.zero_add, Nat.zero_le, Nat.le_refl, reduceIte, ↓zb_X12_park_93, ↓G, zl_c, r8, Bool.toNat_true]
    | false =>
      rw [hb] at r8
      by_cases q : zp_sg T s = some 59
      · obtain ⟨x1, x2, x3, x4⟩ := zp_nx q
        have et : zp_take T 59 s = zp_next s := by unfold zp_take; rw [if_pos q]
        rw [if_neg (fun x => x.elim (fun y => Bool.noConfusion y) (by omega)), if_neg (by omega), et, zp_rest_e]
        have eH := zq_hereS h q
        have g9 : zj_st m 90 6 (nI (s.pos + 1)) 90 9 = nI 0 := by rw [zj_st_n (by omega)]; exact h9
        obtain ⟨m2, b1, b2, b3⟩ := zq_clause (h.nx q) g9 x2
        obtain ⟨m', s', y, f1, f2, f3, f4⟩ := ih (i + 1) f m2 _ (by omega) (by omega) b2 (b3.nine.trans g9)
        have h0 : zq_f a m (zj_st m 90 6 (nI (s.pos + 1))) := fun u j q1 _ => by rw [zj_st_n (by omega)]
        refine ⟨m', s', y, ?_, f2, (h0.trans b3).trans f3, f4⟩
        rw [zj_lp_s, ← f1]
        simp -implicitDefEqProofs (disch := first | omega | assumption | decide +kernel | exact Nat.le_of_ble_eq_true rfl) only [↓zx_push, ↓zx_ild0, ↓zx_ald0, ↓zx_lld0, ↓zx_ist0, ↓zx_ast0, ↓zx_inc0, ↓zx_ild1, ↓zx_ald1, ↓zx_lld1, ↓zx_ist1i, ↓zx_ist1r, ↓zx_ist1n, ↓zx_ast1i, ↓zx_ast1r, ↓zx_ast1n, ↓zx_inc1i, ↓zx_inc1r, ↓zx_inc1n, ↓zx_ild2, ↓zx_ald2, ↓zx_lld2, ↓zx_ist2i, ↓zx_ist2r, ↓zx_ist2n, ↓zx_ast2i, ↓zx_ast2r, ↓zx_ast2n, ↓zx_inc2i, ↓zx_inc2r, ↓zx_inc2n, ↓zx_ild3, ↓zx_ald3, ↓zx_lld3, ↓zx_ist3i, ↓zx_ist3r, ↓zx_ist3n, ↓zx_ast3i, ↓zx_ast3r, ↓zx_ast3n, ↓zx_inc3i, ↓zx_inc3r, ↓zx_inc3n, ↓zx_ild4, ↓zx_ald4, ↓zx_lld4, ↓zx_ist4i, ↓zx_ist4r, ↓zx_ist4n, ↓zx_ast4i, ↓zx_ast4r, ↓zx_ast4n, ↓zx_inc4i, ↓zx_inc4r, ↓zx_inc4n, ↓zx_ild5, ↓zx_ald5, ↓zx_lld5, ↓zx_ist5i, ↓zx_ist5r, ↓zx_ist5n, ↓zx_ast5i, ↓zx_ast5r, ↓zx_ast5n, ↓zx_inc5i, ↓zx_inc5r, ↓zx_inc5n, ↓zx_ild6, ↓zx_ald6, ↓zx_lld6, ↓zx_ist6i, ↓zx_ist6r, ↓zx_ist6n, ↓zx_ast6i, ↓zx_ast6r, ↓zx_ast6n, ↓zx_inc6i, ↓zx_inc6r, ↓zx_inc6n, ↓zx_ild7, ↓zx_ald7, ↓zx_lld7, ↓zx_ist7i, ↓zx_ist7r, ↓zx_ist7n, ↓zx_ast7i, ↓zx_ast7r, ↓zx_ast7n, ↓zx_inc7i, ↓zx_inc7r, ↓zx_inc7n, ↓zx_ild8, ↓zx_ald8, ↓zx_lld8, ↓zx_ist8i, ↓zx_ist8r, ↓zx_ist8n, ↓zx_ast8i, ↓zx_ast8r, ↓zx_ast8n, ↓zx_inc8i, ↓zx_inc8r, ↓zx_inc8n, ↓zx_ild9, ↓zx_ald9, ↓zx_lld9, ↓zx_ist9i, ↓zx_ist9r, ↓zx_ist9n, ↓zx_ast9i, ↓zx_ast9r, ↓zx_ast9n, ↓zx_inc9i, ↓zx_inc9r, ↓zx_inc9n, ↓zx_ild10, ↓zx_ald10, ↓zx_lld10, ↓zx_ist10i, ↓zx_ist10r, ↓zx_ist10n, ↓zx_ast10i, ↓zx_ast10r, ↓zx_ast10n, ↓zx_inc10i, ↓zx_inc10r, ↓zx_inc10n, ↓zx_b, ↓zx_u, ↓zx_i2l, ↓zx_lb, ↓zx_lu, ↓zx_lcmp, ↓zx_dupi, ↓zx_dupr, ↓zx_dup2, ↓zx_pop, zx_ceq_t, zx_ceq_f, zx_clt_t, zx_clt_f, zx_cle_t, zx_cle_f, zx_eq_t, zx_eq_f, zx_lt_t, zx_lt_f, zx_le_t, zx_le_f, zx_eq_b, zx_rem, zx_div, zx_go0, zx_go1, ↓zx_call0, ↓zx_call1, ↓zx_call2, ↓zx_call3, ↓zx_call4, ↓zx_call5, ↓zx_call6, ↓zx_call7, ↓zx_vc0, ↓zx_vn0, ↓zx_vc1, ↓zx_vn1, ↓zx_vc2, ↓zx_vn2, ↓zx_vc3, ↓zx_vn3, ↓zx_vc4, ↓zx_vn4, ↓zx_vc5, ↓zx_vn5, ↓zx_vc6, ↓zx_vn6, ↓zx_sc0, ↓zx_sc1, ↓zx_sc2, ↓zx_mmin, ↓zx_mmax, zx_ret0, zx_reti, zx_retl, zx_reta, zx_retz, zx_retz0, zx_retz1, zj_run, zj_e0, zj_E0, List.length_cons, List.length_nil, List.cons_append, List.nil_append, List.reduceReplicate, Nat.reduceLeDiff, Nat.reduceAdd, Nat.reduceSub, Nat.zero_add, Nat.zero_le, Nat.le_refl, reduceIte, ↓zb_X12_park_93, ↓G, zl_c, r8, r6, eH, b1, Bool.toNat_false, nI_add]
      · have eH := zq_here h hb
        have n1 : ¬ zp_v (zp_sg T s) = nI 59 := fun x => q ((zq_ne h (by omega)).mp x)
        refine ⟨m, s, nI i, ?_, h, zq_f.rf, ?_⟩
        · rw [zj_lp_s]
          simp -implicitDefEqProofs (disch := first | omega | assumption | decide +kernel | exact Nat.le_of_ble_eq_true rfl) only [↓zx_push, ↓zx_ild0, ↓zx_ald0, ↓zx_lld0, ↓zx_ist0, ↓zx_ast0, ↓zx_inc0, ↓zx_ild1, ↓zx_ald1, ↓zx_lld1, ↓zx_ist1i, ↓zx_ist1r, ↓zx_ist1n, ↓zx_ast1i, ↓zx_ast1r, ↓zx_ast1n, ↓zx_inc1i, ↓zx_inc1r, ↓zx_inc1n, ↓zx_ild2, ↓zx_ald2, ↓zx_lld2, ↓zx_ist2i, ↓zx_ist2r, ↓zx_ist2n, ↓zx_ast2i, ↓zx_ast2r, ↓zx_ast2n, ↓zx_inc2i, ↓zx_inc2r, ↓zx_inc2n, ↓zx_ild3, ↓zx_ald3, ↓zx_lld3, ↓zx_ist3i, ↓zx_ist3r, ↓zx_ist3n, ↓zx_ast3i, ↓zx_ast3r, ↓zx_ast3n, ↓zx_inc3i, ↓zx_inc3r, ↓zx_inc3n, ↓zx_ild4, ↓zx_ald4, ↓zx_lld4, ↓zx_ist4i, ↓zx_ist4r, ↓zx_ist4n, ↓zx_ast4i, ↓zx_ast4r, ↓zx_ast4n, ↓zx_inc4i, ↓zx_inc4r, ↓zx_inc4n, ↓zx_ild5, ↓zx_ald5, ↓zx_lld5, ↓zx_ist5i, ↓zx_ist5r, ↓zx_ist5n, ↓zx_ast5i, ↓zx_ast5r, ↓zx_ast5n, ↓zx_inc5i, ↓zx_inc5r, ↓zx_inc5n, ↓zx_ild6, ↓zx_ald6, ↓zx_lld6, ↓zx_ist6i, ↓zx_ist6r, ↓zx_ist6n, ↓zx_ast6i, ↓zx_ast6r, ↓zx_ast6n, ↓zx_inc6i, ↓zx_inc6r, ↓zx_inc6n, ↓zx_ild7, ↓zx_ald7, ↓zx_lld7, ↓zx_ist7i, ↓zx_ist7r, ↓zx_ist7n, ↓zx_ast7i, ↓zx_ast7r, ↓zx_ast7n, ↓zx_inc7i, ↓zx_inc7r, ↓zx_inc7n, ↓zx_ild8, ↓zx_ald8, ↓zx_lld8, ↓zx_ist8i, ↓zx_ist8r, ↓zx_ist8n, ↓zx_ast8i, ↓zx_ast8r, ↓zx_ast8n, ↓zx_inc8i, ↓zx_inc8r, ↓zx_inc8n, ↓zx_ild9, ↓zx_ald9, ↓zx_lld9, ↓zx_ist9i, ↓zx_ist9r, ↓zx_ist9n, ↓zx_ast9i, ↓zx_ast9r, ↓zx_ast9n, ↓zx_inc9i, ↓zx_inc9r, ↓zx_inc9n, ↓zx_ild10, ↓zx_ald10, ↓zx_lld10, ↓zx_ist10i, ↓zx_ist10r, ↓zx_ist10n, ↓zx_ast10i, ↓zx_ast10r, ↓zx_ast10n, ↓zx_inc10i, ↓zx_inc10r, ↓zx_inc10n, ↓zx_b, ↓zx_u, ↓zx_i2l, ↓zx_lb, ↓zx_lu, ↓zx_lcmp, ↓zx_dupi, ↓zx_dupr, ↓zx_dup2, ↓zx_pop, zx_ceq_t, zx_ceq_f, zx_clt_t, zx_clt_f, zx_cle_t, zx_cle_f, zx_eq_t, zx_eq_f, zx_lt_t, zx_lt_f, zx_le_t, zx_le_f, zx_eq_b, zx_rem, zx_div, zx_go0, zx_go1, ↓zx_call0, ↓zx_call1, ↓zx_call2, ↓zx_call3, ↓zx_call4, ↓zx_call5, ↓zx_call6, ↓zx_call7, ↓zx_vc0, ↓zx_vn0, ↓zx_vc1, ↓zx_vn1, ↓zx_vc2, ↓zx_vn2, ↓zx_vc3, ↓zx_vn3, ↓zx_vc4, ↓zx_vn4, ↓zx_vc5, ↓zx_vn5, ↓zx_vc6, ↓zx_vn6, ↓zx_sc0, ↓zx_sc1, ↓zx_sc2, ↓zx_mmin, ↓zx_mmax, zx_ret0, zx_reti, zx_retl, zx_reta, zx_retz, zx_retz0, zx_retz1, zj_run, zj_e0, zj_E0, List.length_cons, List.length_nil, List.cons_append, List.nil_append, List.reduceReplicate, Nat.reduceLeDiff, Nat.reduceAdd, Nat.reduceSub, Nat.zero_add, Nat.zero_le, Nat.le_refl, reduceIte, ↓zb_X12_park_93, ↓G, zl_c, r8, eH, zy_ceq_f, Bool.toNat_false]
        · by_cases hl : T.length ≤ s.pos
          · rw [if_pos (Or.inr hl)]
            exact ⟨fun _ => ⟨hb, Nat.le_antisymm hs hl, rfl⟩, fun q => Bool.noConfusion q⟩
          · have et : zp_take T 59 s = zp_fail s := by unfold zp_take; rw [if_neg q]
            have hx := ((zp_Cl.clause hT).1 (zp_fail s) hs).1 rfl
            rw [if_neg (fun x => x.elim (fun y => Bool.noConfusion y) hl), if_neg (by omega), et, zp_rest_e]
            unfold zp_rest
            rw [if_pos (Or.inl hx.1), hx.1]
            exact ⟨fun q => Bool.noConfusion q, fun _ => ⟨Or.inr (by omega), hx.2.symm⟩⟩
end ZQ
def zs_park : ze_B → Int32 × ze_B := fun (A, P, ra, np, T, S, L, K) => if np = 5 then (-nI 4, (A, P, ra, np, T, S, L, K)) else if (zp_reads T 10 zp_s0).2 = true then (nI np, (A, (zp_reads T 10 zp_s0).1.W, (zp_reads T 10 zp_s0).1.ra, np + 1, [], S, L, K)) else (-nI 10 - nI (zp_reads T 10 zp_s0).1.pos, (A, P, ra, np, [], S, L, K))
section ZQ
variable {m m' : zj_M} {A : za_A} {P : List (Nat × Nat)} {ra np : Nat} {T : List Nat} {S : List (Nat × Nat × Nat)} {L : List (Nat × Int32)} {K : List (Nat × Nat)} {kp : Option ze_B} {tr : List Nat}
theorem zd_P.keepN (h : zd_P m P ra) (h3 : m 91 32 = -nI 1 ∨ ∃ h, h < np ∧ m 91 32 = nI h) (hn : np < 5) (hm : ∀ j, (j = 32 ∨ 223 ≤ j) → j ≠ 223 + np → j ≠ 228 + np → ¬ (233 + 140 * np ≤ j ∧ j < 373 + 140 * np) → m' 91 j = m 91 j) : zd_P m' P ra := by
  have e32 : m' 91 32 = m 91 32 := hm _ (Or.inl rfl) (by omega) (by omega) (by omega)
  rcases h with ⟨h1, h2⟩ | ⟨h, ⟨h1, h2, h4⟩, ⟨h5, h6⟩, h7⟩
  · exact Or.inl ⟨e32.trans h1, h2⟩
  · have hl : h < np := by
      rcases h3 with q | ⟨i, hi, q⟩
      · exact absurd (h2.symm.trans q) (zl_nn (by omega) (by omega) (by omega))
      · have := (nI_eq (by omega) (by omega)).mp (h2.symm.trans q)
        omega
    exact Or.inr ⟨h, ⟨h1, e32.trans h2, (hm _ (by omega) (by omega) (by omega) (by omega)).trans h4⟩, ⟨(hm _ (by omega) (by omega) (by omega) (by omega)).trans h5, h6⟩, fun j hj => (hm _ (by omega) (by omega) (by omega) (by omega)).trans (h7 j hj)⟩
theorem zn_park (h : zm_Q m (A, P, ra, np, T, S, L, K) kp tr) (hok : ze_ok (A, P, ra, np, T, S, L, K)) : ∃ m', zf_X12_park [.ref 90] m = some ([.int (zs_park (A, P, ra, np, T, S, L, K)).1], m') ∧ zm_Q m' (zs_park (A, P, ra, np, T, S, L, K)).2 kp tr ∧ ∀ u j, u < 90 → m' u j = m u j := by
  have G := zg_90
  have ar := zg_a90
  have hc90 := zg_c90
  obtain ⟨⟨h1, h2, h3⟩, ⟨h4, h5, h6, h7, h8⟩, h9, h10, h11, h12⟩ := id h.1
  obtain ⟨hnp, hT, hTb⟩ := hok.2.2.1
  have hS := hok.2.2.2.1
  have hL := hok.2.2.2.2.1.1
  have hK := hok.2.2.2.2.2.1
  unfold zs_park
  simp only
  by_cases q5 : np = 5
  · rw [if_pos q5]
    rw [q5] at h4
    refine ⟨m, ?_, h, fun _ _ _ => rfl⟩
    simp -implicitDefEqProofs (disch := first | omega | assumption | decide +kernel | exact Nat.le_of_ble_eq_true rfl) only [↓zx_push, ↓zx_ild0, ↓zx_ald0, ↓zx_lld0, ↓zx_ist0, ↓zx_ast0, ↓zx_inc0, ↓zx_ild1, ↓zx_ald1, ↓zx_lld1, ↓zx_ist1i, ↓zx_ist1r, ↓zx_ist1n, ↓zx_ast1i, ↓zx_ast1r, ↓zx_ast1n, ↓zx_inc1i, ↓zx_inc1r, ↓zx_inc1n, ↓zx_ild2, ↓zx_ald2, ↓zx_lld2, ↓zx_ist2i, ↓zx_ist2r, ↓zx_ist2n, ↓zx_ast2i, ↓zx_ast2r, ↓zx_ast2n, ↓zx_inc2i, ↓zx_inc2r, ↓zx_inc2n, ↓zx_ild3, ↓zx_ald3, ↓zx_lld3, ↓zx_ist3i, ↓zx_ist3r, ↓zx_ist3n, ↓zx_ast3i, ↓zx_ast3r, ↓zx_ast3n, ↓zx_inc3i, ↓zx_inc3r, ↓zx_inc3n, ↓zx_ild4, ↓zx_ald4, ↓zx_lld4, ↓zx_ist4i, ↓zx_ist4r, ↓zx_ist4n, ↓zx_ast4i, ↓zx_ast4r, ↓zx_ast4n, ↓zx_inc4i, ↓zx_inc4r, ↓zx_inc4n, ↓zx_ild5, ↓zx_ald5, ↓zx_lld5, ↓zx_ist5i, ↓zx_ist5r, ↓zx_ist5n, ↓zx_ast5i, ↓zx_ast5r, ↓zx_ast5n, ↓zx_inc5i, ↓zx_inc5r, ↓zx_inc5n, ↓zx_ild6, ↓zx_ald6, ↓zx_lld6, ↓zx_ist6i, ↓zx_ist6r, ↓zx_ist6n, ↓zx_ast6i, ↓zx_ast6r, ↓zx_ast6n, ↓zx_inc6i, ↓zx_inc6r, ↓zx_inc6n, ↓zx_ild7, ↓zx_ald7, ↓zx_lld7, ↓zx_ist7i, ↓zx_ist7r, ↓zx_ist7n, ↓zx_ast7i, ↓zx_ast7r, ↓zx_ast7n, ↓zx_inc7i, ↓zx_inc7r, ↓zx_inc7n, ↓zx_ild8, ↓zx_ald8, ↓zx_lld8, ↓zx_ist8i, ↓zx_ist8r, ↓zx_ist8n, ↓zx_ast8i, ↓zx_ast8r, ↓zx_ast8n, ↓zx_inc8i, ↓zx_inc8r, ↓zx_inc8n, ↓zx_ild9, ↓zx_ald9, ↓zx_lld9, ↓zx_ist9i, ↓zx_ist9r, ↓zx_ist9n, ↓zx_ast9i, ↓zx_ast9r, ↓zx_ast9n, ↓zx_inc9i, ↓zx_inc9r, ↓zx_inc9n, ↓zx_ild10, ↓zx_ald10, ↓zx_lld10, ↓zx_ist10i, ↓zx_ist10r, ↓zx_ist10n, ↓zx_ast10i, ↓zx_ast10r, ↓zx_ast10n, ↓zx_inc10i, ↓zx_inc10r, ↓zx_inc10n, ↓zx_b, ↓zx_u, ↓zx_i2l, ↓zx_lb, ↓zx_lu, ↓zx_lcmp, ↓zx_dupi, ↓zx_dupr, ↓zx_dup2, ↓zx_pop, zx_ceq_t, zx_ceq_f, zx_clt_t, zx_clt_f, zx_cle_t, zx_cle_f, zx_eq_t, zx_eq_f, zx_lt_t, zx_lt_f, zx_le_t, zx_le_f, zx_eq_b, zx_rem, zx_div, zx_go0, zx_go1, ↓zx_call0, ↓zx_call1, ↓zx_call2, ↓zx_call3, ↓zx_call4, ↓zx_call5, ↓zx_call6, ↓zx_call7, ↓zx_vc0, ↓zx_vn0, ↓zx_vc1, ↓zx_vn1, ↓zx_vc2, ↓zx_vn2, ↓zx_vc3, ↓zx_vn3, ↓zx_vc4, ↓zx_vn4, ↓zx_vc5, ↓zx_vn5, ↓zx_vc6, ↓zx_vn6, ↓zx_sc0, ↓zx_sc1, ↓zx_sc2, ↓zx_mmin, ↓zx_mmax, zx_ret0, zx_reti, zx_retl, zx_reta, zx_retz, zx_retz0, zx_retz1, zj_run, zj_e0, zj_E0, List.length_cons, List.length_nil, List.cons_append, List.nil_append, List.reduceReplicate, Nat.reduceLeDiff, Nat.reduceAdd, Nat.reduceSub, Nat.zero_add, Nat.zero_le, Nat.le_refl, reduceIte, ↓zf_X12_park, ↓zb_X12_park_0, ↓G, ↓ar, zl_c, h4]
  · rw [if_neg q5]
    have hn : np < 5 := by omega
    obtain ⟨m0, hm0⟩ : ∃ m0, zj_st (zj_st (zj_st (zj_st (zj_st (zj_st (zj_st (zj_st m 90 5 (nI np)) 90 7 (nI T.length)) 91 31 (nI 0)) 91 (223 + np) (nI 0)) 91 (228 + np) (nI 0)) 90 6 (nI 0)) 90 8 (nI 0)) 90 9 (nI 0) = m0 := ⟨_, rfl⟩
    have f0 : ∀ u j, ¬ (u = 90 ∧ (j = 5 ∨ j = 6 ∨ j = 7 ∨ j = 8 ∨ j = 9)) → ¬ (u = 91 ∧ (j = 31 ∨ j = 223 + np ∨ j = 228 + np)) → m0 u j = m u j := fun u j q1 q2 => by
      rw [← hm0, zj_st_n (by omega), zj_st_n (by omega), zj_st_n (by omega), zj_st_n (by omega), zj_st_n (by omega), zj_st_n (by omega), zj_st_n (by omega), zj_st_n (by omega)]
    have g0 : zq_R np m0 T zp_s0 := by
      refine ⟨⟨?_, ?_, ?_, ?_⟩, ⟨hn, hT, Nat.zero_le _⟩, fun j hj => ⟨?_, hTb j hj⟩, fun _ => ⟨⟨?_, Nat.le_refl _, ?_⟩, fun j hj => absurd hj (Nat.not_lt_zero j)⟩⟩
      · rw [← hm0, zj_st_n (by omega), zj_st_n (by omega), zj_st_n (by omega), zj_st_n (by omega), zj_st_n (by omega), zj_st_n (by omega), zj_st_n (by omega), zj_st_s]
      · rw [← hm0, zj_st_n (by omega), zj_st_n (by omega), zj_st_s]; rfl
      · rw [← hm0, zj_st_n (by omega), zj_st_n (by omega), zj_st_n (by omega), zj_st_n (by omega), zj_st_n (by omega), zj_st_n (by omega), zj_st_s]
      · rw [← hm0, zj_st_n (by omega), zj_st_s]; rfl
      · rw [f0 _ _ (by omega) (by omega)]; exact h9 j hj
      · rw [← hm0, zj_st_n (by omega), zj_st_n (by omega), zj_st_n (by omega), zj_st_s]; rfl
      · rw [← hm0, zj_st_n (by omega), zj_st_n (by omega), zj_st_n (by omega), zj_st_n (by omega), zj_st_s]; rfl
    have n9 : m0 90 9 = nI 0 := by rw [← hm0, zj_st_s]
    obtain ⟨m1, a1, a2, a3⟩ := zq_clause g0 n9 rfl
    obtain ⟨m2, s', y, b1, b2, b3, b4, b5⟩ := zq_park_loop 9 1 zj_fu m1 _ (by omega) (by unfold zj_fu; omega) a2 (a3.nine.trans n9)
    rw [← zp_rest_e] at b4 b5
    have f2 : ∀ u j, ¬ (u = 90 ∧ (j = 5 ∨ j = 6 ∨ j = 7 ∨ j = 8 ∨ j = 9)) → ¬ (u = 91 ∧ (j = 31 ∨ j = 223 + np ∨ j = 228 + np ∨ (233 + 140 * np ≤ j ∧ j < 373 + 140 * np))) → m2 u j = m u j := fun u j q1 q2 => by
      rw [b3 u j (by omega) (by omega), a3 u j (by omega) (by omega), f0 u j (by omega) (by omega)]
    have f31 : m2 91 31 = nI 0 := by
      rw [b3 _ _ (by omega) (by omega), a3 _ _ (by omega) (by omega), ← hm0, zj_st_n (by omega), zj_st_n (by omega), zj_st_n (by omega), zj_st_n (by omega), zj_st_n (by omega), zj_st_s]
    have run : zf_X12_park [.ref 90] m = zb_X12_park_135 [some (.ref 90), some (.int y)] [] m2 := by
      rw [← b1]
      rw [← hm0] at a1
      simp -implicitDefEqProofs (disch := first | omega | assumption | decide +kernel | exact Nat.le_of_ble_eq_true rfl) only [↓zx_push, ↓zx_ild0, ↓zx_ald0, ↓zx_lld0, ↓zx_ist0, ↓zx_ast0, ↓zx_inc0, ↓zx_ild1, ↓zx_ald1, ↓zx_lld1, ↓zx_ist1i, ↓zx_ist1r, ↓zx_ist1n, ↓zx_ast1i, ↓zx_ast1r, ↓zx_ast1n, ↓zx_inc1i, ↓zx_inc1r, ↓zx_inc1n, ↓zx_ild2, ↓zx_ald2, ↓zx_lld2, ↓zx_ist2i, ↓zx_ist2r, ↓zx_ist2n, ↓zx_ast2i, ↓zx_ast2r, ↓zx_ast2n, ↓zx_inc2i, ↓zx_inc2r, ↓zx_inc2n, ↓zx_ild3, ↓zx_ald3, ↓zx_lld3, ↓zx_ist3i, ↓zx_ist3r, ↓zx_ist3n, ↓zx_ast3i, ↓zx_ast3r, ↓zx_ast3n, ↓zx_inc3i, ↓zx_inc3r, ↓zx_inc3n, ↓zx_ild4, ↓zx_ald4, ↓zx_lld4, ↓zx_ist4i, ↓zx_ist4r, ↓zx_ist4n, ↓zx_ast4i, ↓zx_ast4r, ↓zx_ast4n, ↓zx_inc4i, ↓zx_inc4r, ↓zx_inc4n, ↓zx_ild5, ↓zx_ald5, ↓zx_lld5, ↓zx_ist5i, ↓zx_ist5r, ↓zx_ist5n, ↓zx_ast5i, ↓zx_ast5r, ↓zx_ast5n, ↓zx_inc5i, ↓zx_inc5r, ↓zx_inc5n, ↓zx_ild6, ↓zx_ald6, ↓zx_lld6, ↓zx_ist6i, ↓zx_ist6r, ↓zx_ist6n, ↓zx_ast6i, ↓zx_ast6r, ↓zx_ast6n, ↓zx_inc6i, ↓zx_inc6r, ↓zx_inc6n, ↓zx_ild7, ↓zx_ald7, ↓zx_lld7, ↓zx_ist7i, ↓zx_ist7r, ↓zx_ist7n, ↓zx_ast7i, ↓zx_ast7r, ↓zx_ast7n, ↓zx_inc7i, ↓zx_inc7r, ↓zx_inc7n, ↓zx_ild8, ↓zx_ald8, ↓zx_lld8, ↓zx_ist8i, ↓zx_ist8r, ↓zx_ist8n, ↓zx_ast8i, ↓zx_ast8r, ↓zx_ast8n, ↓zx_inc8i, ↓zx_inc8r, ↓zx_inc8n, ↓zx_ild9, ↓zx_ald9, ↓zx_lld9, ↓zx_ist9i, ↓zx_ist9r, ↓zx_ist9n, ↓zx_ast9i, ↓zx_ast9r, ↓zx_ast9n, ↓zx_inc9i, ↓zx_inc9r, ↓zx_inc9n, ↓zx_ild10, ↓zx_ald10, ↓zx_lld10, ↓zx_ist10i, ↓zx_ist10r, ↓zx_ist10n, ↓zx_ast10i, ↓zx_ast10r, ↓zx_ast10n, ↓zx_inc10i, ↓zx_inc10r, ↓zx_inc10n, ↓zx_b, ↓zx_u, ↓zx_i2l, ↓zx_lb, ↓zx_lu, ↓zx_lcmp, ↓zx_dupi, ↓zx_dupr, ↓zx_dup2, ↓zx_pop, zx_ceq_t, zx_ceq_f, zx_clt_t, zx_clt_f, zx_cle_t, zx_cle_f, zx_eq_t, zx_eq_f, zx_lt_t, zx_lt_f, zx_le_t, zx_le_f, zx_eq_b, zx_rem, zx_div, zx_go0, zx_go1, ↓zx_call0, ↓zx_call1, ↓zx_call2, ↓zx_call3, ↓zx_call4, ↓zx_call5, ↓zx_call6, ↓zx_call7, ↓zx_vc0, ↓zx_vn0, ↓zx_vc1, ↓zx_vn1, ↓zx_vc2, ↓zx_vn2, ↓zx_vc3, ↓zx_vn3, ↓zx_vc4, ↓zx_vn4, ↓zx_vc5, ↓zx_vn5, ↓zx_vc6, ↓zx_vn6, ↓zx_sc0, ↓zx_sc1, ↓zx_sc2, ↓zx_mmin, ↓zx_mmax, zx_ret0, zx_reti, zx_retl, zx_reta, zx_retz, zx_retz0, zx_retz1, zj_run, zj_e0, zj_E0, List.length_cons, List.length_nil, List.cons_append, List.nil_append, List.reduceReplicate, Nat.reduceLeDiff, Nat.reduceAdd, Nat.reduceSub, Nat.zero_add, Nat.zero_le, Nat.le_refl, reduceIte, ↓zf_X12_park, ↓zb_X12_park_0, ↓G, ↓ar, zl_c, h4, h8, a1, nI_add, zj_st_s, zj_st_n]
    obtain ⟨⟨r5, r6, r7, r8⟩, -, -, hw⟩ := id b2
    generalize hr : zp_reads T 10 zp_s0 = r at b4 b5 ⊢
    cases hr2 : r.2 with
    | true =>
      obtain ⟨c1, c2, c3⟩ := b4 hr2
      rw [if_pos rfl]
      rw [c1] at r8
      rw [c2] at r6
      obtain ⟨⟨w1, w2, w3⟩, w4⟩ := hw c1
      have hW : s'.W.length ≤ 100 := by omega
      rw [c3] at w1 w3 w4 hW
      have e27 : m2 91 27 = nI np := by rw [f2 _ _ (by omega) (by omega)]; exact h4
      refine ⟨zj_st (zj_st m2 91 27 (nI (np + 1))) 91 32 (nI np), ?_, h.upd ?_ (fun u j hu => by rw [zj_st_n (by omega), zj_st_n (by omega)]; exact f2 u j (by omega) (by omega)), fun u j hu => by rw [zj_st_n (by omega), zj_st_n (by omega)]; exact f2 u j (by omega) (by omega)⟩
      · rw [run]
        simp -implicitDefEqProofs (disch := first | omega | assumption | decide +kernel | exact Nat.le_of_ble_eq_true rfl) only [↓zx_push, ↓zx_ild0, ↓zx_ald0, ↓zx_lld0, ↓zx_ist0, ↓zx_ast0, ↓zx_inc0, ↓zx_ild1, ↓zx_ald1, ↓zx_lld1, ↓zx_ist1i, ↓zx_ist1r, ↓zx_ist1n, ↓zx_ast1i, ↓zx_ast1r, ↓zx_ast1n, ↓zx_inc1i, ↓zx_inc1r, ↓zx_inc1n, ↓zx_ild2, ↓zx_ald2, ↓zx_lld2, ↓zx_ist2i, ↓zx_ist2r, ↓zx_ist2n, ↓zx_ast2i, ↓zx_ast2r, ↓zx_ast2n, ↓zx_inc2i, ↓zx_inc2r, ↓zx_inc2n, ↓zx_ild3, ↓zx_ald3, ↓zx_lld3, ↓zx_ist3i, ↓zx_ist3r, ↓zx_ist3n, ↓zx_ast3i, ↓zx_ast3r, ↓zx_ast3n, ↓zx_inc3i, ↓zx_inc3r, ↓zx_inc3n, ↓zx_ild4, ↓zx_ald4, ↓zx_lld4, ↓zx_ist4i, ↓zx_ist4r, ↓zx_ist4n, ↓zx_ast4i, ↓zx_ast4r, ↓zx_ast4n, ↓zx_inc4i, ↓zx_inc4r, ↓zx_inc4n, ↓zx_ild5, ↓zx_ald5, ↓zx_lld5, ↓zx_ist5i, ↓zx_ist5r, ↓zx_ist5n, ↓zx_ast5i, ↓zx_ast5r, ↓zx_ast5n, ↓zx_inc5i, ↓zx_inc5r, ↓zx_inc5n, ↓zx_ild6, ↓zx_ald6, ↓zx_lld6, ↓zx_ist6i, ↓zx_ist6r, ↓zx_ist6n, ↓zx_ast6i, ↓zx_ast6r, ↓zx_ast6n, ↓zx_inc6i, ↓zx_inc6r, ↓zx_inc6n, ↓zx_ild7, ↓zx_ald7, ↓zx_lld7, ↓zx_ist7i, ↓zx_ist7r, ↓zx_ist7n, ↓zx_ast7i, ↓zx_ast7r, ↓zx_ast7n, ↓zx_inc7i, ↓zx_inc7r, ↓zx_inc7n, ↓zx_ild8, ↓zx_ald8, ↓zx_lld8, ↓zx_ist8i, ↓zx_ist8r, ↓zx_ist8n, ↓zx_ast8i, ↓zx_ast8r, ↓zx_ast8n, ↓zx_inc8i, ↓zx_inc8r, ↓zx_inc8n, ↓zx_ild9, ↓zx_ald9, ↓zx_lld9, ↓zx_ist9i, ↓zx_ist9r, ↓zx_ist9n, ↓zx_ast9i, ↓zx_ast9r, ↓zx_ast9n, ↓zx_inc9i, ↓zx_inc9r, ↓zx_inc9n, ↓zx_ild10, ↓zx_ald10, ↓zx_lld10, ↓zx_ist10i, ↓zx_ist10r, ↓zx_ist10n, ↓zx_ast10i, ↓zx_ast10r, ↓zx_ast10n, ↓zx_inc10i, ↓zx_inc10r, ↓zx_inc10n, ↓zx_b, ↓zx_u, ↓zx_i2l, ↓zx_lb, ↓zx_lu, ↓zx_lcmp, ↓zx_dupi, ↓zx_dupr, ↓zx_dup2, ↓zx_pop, zx_ceq_t, zx_ceq_f, zx_clt_t, zx_clt_f, zx_cle_t, zx_cle_f, zx_eq_t, zx_eq_f, zx_lt_t, zx_lt_f, zx_le_t, zx_le_f, zx_eq_b, zx_rem, zx_div, zx_go0, zx_go1, ↓zx_call0, ↓zx_call1, ↓zx_call2, ↓zx_call3, ↓zx_call4, ↓zx_call5, ↓zx_call6, ↓zx_call7, ↓zx_vc0, ↓zx_vn0, ↓zx_vc1, ↓zx_vn1, ↓zx_vc2, ↓zx_vn2, ↓zx_vc3, ↓zx_vn3, ↓zx_vc4, ↓zx_vn4, ↓zx_vc5, ↓zx_vn5, ↓zx_vc6, ↓zx_vn6, ↓zx_sc0, ↓zx_sc1, ↓zx_sc2, ↓zx_mmin, ↓zx_mmax, zx_ret0, zx_reti, zx_retl, zx_reta, zx_retz, zx_retz0, zx_retz1, zj_run, zj_e0, zj_E0, List.length_cons, List.length_nil, List.cons_append, List.nil_append, List.reduceReplicate, Nat.reduceLeDiff, Nat.reduceAdd, Nat.reduceSub, Nat.zero_add, Nat.zero_le, Nat.le_refl, reduceIte, ↓zb_X12_park_135, ↓zb_X12_park_153, ↓G, ↓ar, zl_c, r8, r6, r7, r5, e27, nI_add, Bool.toNat_false, zj_st_s, zj_st_n]
      · have hm : ∀ j, j ≠ 27 → j ≠ 31 → j ≠ 32 → j < 223 → zj_st (zj_st m2 91 27 (nI (np + 1))) 91 32 (nI np) 91 j = m 91 j := fun j q1 q2 q3 q4 => by rw [zj_st_n (by omega), zj_st_n (by omega)]; exact f2 _ _ (by omega) (by omega)
        have hS6 := hS.1
        refine ⟨⟨h1.keep2 fun j hj => hm j (by omega) (by omega) (by omega) (by omega), Or.inr ⟨np, ⟨hn, zj_st_s _ _ _ _, ?_⟩, ⟨?_, hW⟩, fun j hj => ?_⟩, Or.inr ⟨np, by omega, zj_st_s _ _ _ _⟩⟩, ⟨?_, ?_, ?_, ?_, ?_⟩, fun j hj => absurd hj (Nat.not_lt_zero j), fun j hj => ?_, fun j hj => ?_, fun j hj => ?_⟩
        · rw [zj_st_n (by omega), zj_st_n (by omega)]; exact w3
        · rw [zj_st_n (by omega), zj_st_n (by omega)]; exact w1
        · rw [zj_st_n (by omega), zj_st_n (by omega)]; exact w4 j hj
        · rw [zj_st_n (by omega), zj_st_s]
        · rw [hm _ (by omega) (by omega) (by omega) (by omega)]; exact h5
        · rw [hm _ (by omega) (by omega) (by omega) (by omega)]; exact h6
        · rw [hm _ (by omega) (by omega) (by omega) (by omega)]; exact h7
        · rw [zj_st_n (by omega), zj_st_n (by omega)]; exact f31
        · rw [hm _ (by omega) (by omega) (by omega) (by omega), hm _ (by omega) (by omega) (by omega) (by omega), hm _ (by omega) (by omega) (by omega) (by omega)]; exact h10 j hj
        · rw [hm _ (by omega) (by omega) (by omega) (by omega), hm _ (by omega) (by omega) (by omega) (by omega)]; exact h11 j hj
        · rw [hm _ (by omega) (by omega) (by omega) (by omega), hm _ (by omega) (by omega) (by omega) (by omega)]; exact h12 j hj
    | false =>
      obtain ⟨c1, c2⟩ := b5 hr2
      rw [if_neg (by decide)]
      rw [c2] at r6
      refine ⟨m2, ?_, h.upd ?_ (fun u j hu => f2 u j (by omega) (by omega)), fun u j hu => f2 u j (by omega) (by omega)⟩
      · rw [run]
        cases hb : s'.bad with
        | true =>
          rw [hb] at r8
          simp -implicitDefEqProofs (disch := first | omega | assumption | decide +kernel | exact Nat.le_of_ble_eq_true rfl) only [↓zx_push, ↓zx_ild0, ↓zx_ald0, ↓zx_lld0, ↓zx_ist0, ↓zx_ast0, ↓zx_inc0, ↓zx_ild1, ↓zx_ald1, ↓zx_lld1, ↓zx_ist1i, ↓zx_ist1r, ↓zx_ist1n, ↓zx_ast1i, ↓zx_ast1r, ↓zx_ast1n, ↓zx_inc1i, ↓zx_inc1r, ↓zx_inc1n, ↓zx_ild2, ↓zx_ald2, ↓zx_lld2, ↓zx_ist2i, ↓zx_ist2r, ↓zx_ist2n, ↓zx_ast2i, ↓zx_ast2r, ↓zx_ast2n, ↓zx_inc2i, ↓zx_inc2r, ↓zx_inc2n, ↓zx_ild3, ↓zx_ald3, ↓zx_lld3, ↓zx_ist3i, ↓zx_ist3r, ↓zx_ist3n, ↓zx_ast3i, ↓zx_ast3r, ↓zx_ast3n, ↓zx_inc3i, ↓zx_inc3r, ↓zx_inc3n, ↓zx_ild4, ↓zx_ald4, ↓zx_lld4, ↓zx_ist4i, ↓zx_ist4r, ↓zx_ist4n, ↓zx_ast4i, ↓zx_ast4r, ↓zx_ast4n, ↓zx_inc4i, ↓zx_inc4r, ↓zx_inc4n, ↓zx_ild5, ↓zx_ald5, ↓zx_lld5, ↓zx_ist5i, ↓zx_ist5r, ↓zx_ist5n, ↓zx_ast5i, ↓zx_ast5r, ↓zx_ast5n, ↓zx_inc5i, ↓zx_inc5r, ↓zx_inc5n, ↓zx_ild6, ↓zx_ald6, ↓zx_lld6, ↓zx_ist6i, ↓zx_ist6r, ↓zx_ist6n, ↓zx_ast6i, ↓zx_ast6r, ↓zx_ast6n, ↓zx_inc6i, ↓zx_inc6r, ↓zx_inc6n, ↓zx_ild7, ↓zx_ald7, ↓zx_lld7, ↓zx_ist7i, ↓zx_ist7r, ↓zx_ist7n, ↓zx_ast7i, ↓zx_ast7r, ↓zx_ast7n, ↓zx_inc7i, ↓zx_inc7r, ↓zx_inc7n, ↓zx_ild8, ↓zx_ald8, ↓zx_lld8, ↓zx_ist8i, ↓zx_ist8r, ↓zx_ist8n, ↓zx_ast8i, ↓zx_ast8r, ↓zx_ast8n, ↓zx_inc8i, ↓zx_inc8r, ↓zx_inc8n, ↓zx_ild9, ↓zx_ald9, ↓zx_lld9, ↓zx_ist9i, ↓zx_ist9r, ↓zx_ist9n, ↓zx_ast9i, ↓zx_ast9r, ↓zx_ast9n, ↓zx_inc9i, ↓zx_inc9r, ↓zx_inc9n, ↓zx_ild10, ↓zx_ald10, ↓zx_lld10, ↓zx_ist10i, ↓zx_ist10r, ↓zx_ist10n, ↓zx_ast10i, ↓zx_ast10r, ↓zx_ast10n, ↓zx_inc10i, ↓zx_inc10r, ↓zx_inc10n, ↓zx_b, ↓zx_u, ↓zx_i2l, ↓zx_lb, ↓zx_lu, ↓zx_lcmp, ↓zx_dupi, ↓zx_dupr, ↓zx_dup2, ↓zx_pop, zx_ceq_t, zx_ceq_f, zx_clt_t, zx_clt_f, zx_cle_t, zx_cle_f, zx_eq_t, zx_eq_f, zx_lt_t, zx_lt_f, zx_le_t, zx_le_f, zx_eq_b, zx_rem, zx_div, zx_go0, zx_go1, ↓zx_call0, ↓zx_call1, ↓zx_call2, ↓zx_call3, ↓zx_call4, ↓zx_call5, ↓zx_call6, ↓zx_call7, ↓zx_vc0, ↓zx_vn0, ↓zx_vc1, ↓zx_vn1, ↓zx_vc2, ↓zx_vn2, ↓zx_vc3, ↓zx_vn3, ↓zx_vc4, ↓zx_vn4, ↓zx_vc5, ↓zx_vn5, ↓zx_vc6, ↓zx_vn6, ↓zx_sc0, ↓zx_sc1, ↓zx_sc2, ↓zx_mmin, ↓zx_mmax, zx_ret0, zx_reti, zx_retl, zx_reta, zx_retz, zx_retz0, zx_retz1, zj_run, zj_e0, zj_E0, List.length_cons, List.length_nil, List.cons_append, List.nil_append, List.reduceReplicate, Nat.reduceLeDiff, Nat.reduceAdd, Nat.reduceSub, Nat.zero_add, Nat.zero_le, Nat.le_refl, reduceIte, ↓zb_X12_park_135, ↓zb_X12_park_153, ↓G, zl_c, r8, r6, Bool.toNat_true]
        | false =>
          rw [hb] at r8
          have hne : ¬ r.1.pos = T.length := fun x => c1.elim (fun z => Bool.noConfusion (hb.symm.trans z)) (fun z => z (c2.trans x))
          have hp2 := b2.2.1.2.2
          rw [c2] at hp2
          simp -implicitDefEqProofs (disch := first | omega | assumption | decide +kernel | exact Nat.le_of_ble_eq_true rfl) only [↓zx_push, ↓zx_ild0, ↓zx_ald0, ↓zx_lld0, ↓zx_ist0, ↓zx_ast0, ↓zx_inc0, ↓zx_ild1, ↓zx_ald1, ↓zx_lld1, ↓zx_ist1i, ↓zx_ist1r, ↓zx_ist1n, ↓zx_ast1i, ↓zx_ast1r, ↓zx_ast1n, ↓zx_inc1i, ↓zx_inc1r, ↓zx_inc1n, ↓zx_ild2, ↓zx_ald2, ↓zx_lld2, ↓zx_ist2i, ↓zx_ist2r, ↓zx_ist2n, ↓zx_ast2i, ↓zx_ast2r, ↓zx_ast2n, ↓zx_inc2i, ↓zx_inc2r, ↓zx_inc2n, ↓zx_ild3, ↓zx_ald3, ↓zx_lld3, ↓zx_ist3i, ↓zx_ist3r, ↓zx_ist3n, ↓zx_ast3i, ↓zx_ast3r, ↓zx_ast3n, ↓zx_inc3i, ↓zx_inc3r, ↓zx_inc3n, ↓zx_ild4, ↓zx_ald4, ↓zx_lld4, ↓zx_ist4i, ↓zx_ist4r, ↓zx_ist4n, ↓zx_ast4i, ↓zx_ast4r, ↓zx_ast4n, ↓zx_inc4i, ↓zx_inc4r, ↓zx_inc4n, ↓zx_ild5, ↓zx_ald5, ↓zx_lld5, ↓zx_ist5i, ↓zx_ist5r, ↓zx_ist5n, ↓zx_ast5i, ↓zx_ast5r, ↓zx_ast5n, ↓zx_inc5i, ↓zx_inc5r, ↓zx_inc5n, ↓zx_ild6, ↓zx_ald6, ↓zx_lld6, ↓zx_ist6i, ↓zx_ist6r, ↓zx_ist6n, ↓zx_ast6i, ↓zx_ast6r, ↓zx_ast6n, ↓zx_inc6i, ↓zx_inc6r, ↓zx_inc6n, ↓zx_ild7, ↓zx_ald7, ↓zx_lld7, ↓zx_ist7i, ↓zx_ist7r, ↓zx_ist7n, ↓zx_ast7i, ↓zx_ast7r, ↓zx_ast7n, ↓zx_inc7i, ↓zx_inc7r, ↓zx_inc7n, ↓zx_ild8, ↓zx_ald8, ↓zx_lld8, ↓zx_ist8i, ↓zx_ist8r, ↓zx_ist8n, ↓zx_ast8i, ↓zx_ast8r, ↓zx_ast8n, ↓zx_inc8i, ↓zx_inc8r, ↓zx_inc8n, ↓zx_ild9, ↓zx_ald9, ↓zx_lld9, ↓zx_ist9i, ↓zx_ist9r, ↓zx_ist9n, ↓zx_ast9i, ↓zx_ast9r, ↓zx_ast9n, ↓zx_inc9i, ↓zx_inc9r, ↓zx_inc9n, ↓zx_ild10, ↓zx_ald10, ↓zx_lld10, ↓zx_ist10i, ↓zx_ist10r, ↓zx_ist10n, ↓zx_ast10i, ↓zx_ast10r, ↓zx_ast10n, ↓zx_inc10i, ↓zx_inc10r, ↓zx_inc10n, ↓zx_b, ↓zx_u, ↓zx_i2l, ↓zx_lb, ↓zx_lu, ↓zx_lcmp, ↓zx_dupi, ↓zx_dupr, ↓zx_dup2, ↓zx_pop, zx_ceq_t, zx_ceq_f, zx_clt_t, zx_clt_f, zx_cle_t, zx_cle_f, zx_eq_t, zx_eq_f, zx_lt_t, zx_lt_f, zx_le_t, zx_le_f, zx_eq_b, zx_rem, zx_div, zx_go0, zx_go1, ↓zx_call0, ↓zx_call1, ↓zx_call2, ↓zx_call3, ↓zx_call4, ↓zx_call5, ↓zx_call6, ↓zx_call7, ↓zx_vc0, ↓zx_vn0, ↓zx_vc1, ↓zx_vn1, ↓zx_vc2, ↓zx_vn2, ↓zx_vc3, ↓zx_vn3, ↓zx_vc4, ↓zx_vn4, ↓zx_vc5, ↓zx_vn5, ↓zx_vc6, ↓zx_vn6, ↓zx_sc0, ↓zx_sc1, ↓zx_sc2, ↓zx_mmin, ↓zx_mmax, zx_ret0, zx_reti, zx_retl, zx_reta, zx_retz, zx_retz0, zx_retz1, zj_run, zj_e0, zj_E0, List.length_cons, List.length_nil, List.cons_append, List.nil_append, List.reduceReplicate, Nat.reduceLeDiff, Nat.reduceAdd, Nat.reduceSub, Nat.zero_add, Nat.zero_le, Nat.le_refl, reduceIte, ↓zb_X12_park_135, ↓zb_X12_park_153, ↓G, zl_c, r8, r6, r7, Bool.toNat_false]
      · have hm : ∀ j, j ≠ 31 → j < 223 → m2 91 j = m 91 j := fun j q2 q4 => f2 _ _ (by omega) (by omega)
        have hS6 := hS.1
        refine ⟨⟨h1.keep2 fun j hj => hm j (by omega) (by omega), h2.keepN h3 hn fun j q1 q2 q3 q4 => f2 _ _ (by omega) (by omega), by rw [hm 32 (by omega) (by omega)]; exact h3⟩, ⟨?_, ?_, ?_, ?_, ?_⟩, fun j hj => absurd hj (Nat.not_lt_zero j), fun j hj => ?_, fun j hj => ?_, fun j hj => ?_⟩
        · rw [hm _ (by omega) (by omega)]; exact h4
        · rw [hm _ (by omega) (by omega)]; exact h5
        · rw [hm _ (by omega) (by omega)]; exact h6
        · rw [hm _ (by omega) (by omega)]; exact h7
        · exact f31
        · rw [hm _ (by omega) (by omega), hm _ (by omega) (by omega), hm _ (by omega) (by omega)]; exact h10 j hj
        · rw [hm _ (by omega) (by omega), hm _ (by omega) (by omega)]; exact h11 j hj
        · rw [hm _ (by omega) (by omega), hm _ (by omega) (by omega)]; exact h12 j hj
end ZQ
