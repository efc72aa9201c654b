/-! park: the group of the reference's parser -/
def zq_X (a : Nat) (T : List Nat) (F : zj_F) (o : Nat) (p : zp_S → zp_S) : Prop := ∀ (m : zj_M) (s : zp_S), zq_R a m T s → m 90 9 = nI o → ∃ m', F [.ref 90] m = some ([], m') ∧ zq_R a m' T (p s) ∧ zq_f a m m'
/-- in a fault, nothing -/
def zq_Y (a : Nat) (T : List Nat) (F : zj_F) : Prop := ∀ (m : zj_M) (s : zp_S), zq_R a m T s → s.bad = true → F [.ref 90] m = some ([], m)
section ZQ
variable {a : Nat} {m m5 : zj_M} {T : List Nat} {s : zp_S} {F : Nat → zj_F} {o d : Nat} {p : zp_S → zp_S}
theorem zq_f.nine {m' : zj_M} (h : zq_f a m m') : m' 90 9 = m 90 9 := h _ _ (by omega) (by omega)
theorem zp_loop_stop {c op : Nat} (h : ¬ zp_sg T s = some c) : ∀ n, zp_loop T c op p n s = s
  | 0 => rfl
  | n + 1 => by rw [zp_loop, if_neg h]
/-- how much is written behind what gives one truth -/
theorem zp_E.room (hp : zp_E T d p) {s : zp_S} (hs : s.pos ≤ T.length) (hw : s.W.length ≤ s.pos) (hb : (p s).bad = false) : (p s).W.length + s.pos + 1 ≤ s.W.length + (p s).pos := by
  obtain ⟨c, c1, c2, -⟩ := (hp.2 s hs hb).2 hw
  rw [c1, List.length_append]
  omega
theorem zq_every_loop (hF : zq_X a T (F 0) o p) (hE : zp_E T d p) : ∀ (k n fuel : Nat) (m : zj_M) (s : zp_S), T.length ≤ s.pos + k → k ≤ n → k < fuel → zq_R a m T s → m 90 9 = nI o → (s.bad = false → s.W.length + 1 ≤ s.pos) → ∃ m', zj_lp (zb_X12_every_4 F) fuel [some (.ref 90)] [] m = some ([], m') ∧ zq_R a m' T (zp_loop T 38 18 p n s) ∧ zq_f a m m' := by
  have G := zg_90
  have hc90 := zg_c90
  intro k
  induction k with
  | zero =>
    intro n fuel m s hk hn hf h h9 hw
    obtain ⟨f, rfl⟩ : ∃ f, fuel = f + 1 := ⟨fuel - 1, by omega⟩
    have r8 := h.1.2.2.2
    have q : ¬ zp_sg T s = some 38 := fun x => by
      have := (zp_nx x).2.2.2
      omega
    rw [zp_loop_stop q]
    refine ⟨m, ?_, h, zq_f.rf⟩
    rw [zj_lp_s]
    cases hb : s.bad with
    | true =>
      rw [hb] at r8
      simp -implicitDefEqProofs (disch := first | omega | assumption | decide +kernel | exact Nat.le_of_ble_eq_true rfl) only [↓zx_push, ↓zx_ild0, ↓zx_ald0, ↓zx_lld0, ↓zx_ist0, ↓zx_ast0, ↓zx_inc0, ↓zx_ild1, ↓zx_ald1, ↓zx_lld1, ↓zx_ist1i, ↓zx_ist1r, ↓zx_ist1n, ↓zx_ast1i, ↓zx_ast1r, ↓zx_ast1n, ↓zx_inc1i, ↓zx_inc1r, ↓zx_inc1n, ↓zx_ild2, ↓zx_ald2, ↓zx_lld2, ↓zx_ist2i, ↓zx_ist2r, ↓zx_ist2n, ↓zx_ast2i, ↓zx_ast2r, ↓zx_ast2n, ↓zx_inc2i, ↓zx_inc2r, ↓zx_inc2n, ↓zx_ild3, ↓zx_ald3, ↓zx_lld3, ↓zx_ist3i, ↓zx_ist3r, ↓zx_ist3n, ↓zx_ast3i, ↓zx_ast3r, ↓zx_ast3n, ↓zx_inc3i, ↓zx_inc3r, ↓zx_inc3n, ↓zx_ild4, ↓zx_ald4, ↓zx_lld4, ↓zx_ist4i, ↓zx_ist4r, ↓zx_ist4n, ↓zx_ast4i, ↓zx_ast4r, ↓zx_ast4n, ↓zx_inc4i, ↓zx_inc4r, ↓zx_inc4n, ↓zx_ild5, ↓zx_ald5, ↓zx_lld5, ↓zx_ist5i, ↓zx_ist5r, ↓zx_ist5n, ↓zx_ast5i, ↓zx_ast5r, ↓zx_ast5n, ↓zx_inc5i, ↓zx_inc5r, ↓zx_inc5n, ↓zx_ild6, ↓zx_ald6, ↓zx_lld6, ↓zx_ist6i, ↓zx_ist6r, ↓zx_ist6n, ↓zx_ast6i, ↓zx_ast6r, ↓zx_ast6n, ↓zx_inc6i, ↓zx_inc6r, ↓zx_inc6n, ↓zx_ild7, ↓zx_ald7, ↓zx_lld7, ↓zx_ist7i, ↓zx_ist7r, ↓zx_ist7n, ↓zx_ast7i, ↓zx_ast7r, ↓zx_ast7n, ↓zx_inc7i, ↓zx_inc7r, ↓zx_inc7n, ↓zx_ild8, ↓zx_ald8, ↓zx_lld8, ↓zx_ist8i, ↓zx_ist8r, ↓zx_ist8n, ↓zx_ast8i, ↓zx_ast8r, ↓zx_ast8n, ↓zx_inc8i, ↓zx_inc8r, ↓zx_inc8n, ↓zx_ild9, ↓zx_ald9, ↓zx_lld9, ↓zx_ist9i, ↓zx_ist9r, ↓zx_ist9n, ↓zx_ast9i, ↓zx_ast9r, ↓zx_ast9n, ↓zx_inc9i, ↓zx_inc9r, ↓zx_inc9n, ↓zx_ild10, ↓zx_ald10, ↓zx_lld10, ↓zx_ist10i, ↓zx_ist10r, ↓zx_ist10n, ↓zx_ast10i, ↓zx_ast10r, ↓zx_ast10n, ↓zx_inc10i, ↓zx_inc10r, ↓zx_inc10n, ↓zx_b, ↓zx_u, ↓zx_i2l, ↓zx_lb, ↓zx_lu, ↓zx_lcmp, ↓zx_dupi, ↓zx_dupr, ↓zx_dup2, ↓zx_pop, zx_ceq_t, zx_ceq_f, zx_clt_t, zx_clt_f, zx_cle_t, zx_cle_f, zx_eq_t, zx_eq_f, zx_lt_t, zx_lt_f, zx_le_t, zx_le_f, zx_eq_b, zx_rem, zx_div, zx_go0, zx_go1, ↓zx_call0, ↓zx_call1, ↓zx_call2, ↓zx_call3, ↓zx_call4, ↓zx_call5, ↓zx_call6, ↓zx_call7, ↓zx_vc0, ↓zx_vn0, ↓zx_vc1, ↓zx_vn1, ↓zx_vc2, ↓zx_vn2, ↓zx_vc3, ↓zx_vn3, ↓zx_vc4, ↓zx_vn4, ↓zx_vc5, ↓zx_vn5, ↓zx_vc6, ↓zx_vn6, ↓zx_sc0, ↓zx_sc1, ↓zx_sc2, ↓zx_mmin, ↓zx_mmax, zx_ret0, zx_reti, zx_retl, zx_reta, zx_retz, zx_retz0, zx_retz1, zj_run, zj_e0, zj_E0, List.length_cons, List.length_nil, List.cons_append, List.nil_append, List.reduceReplicate, Nat.reduceLeDiff, Nat.reduceAdd, Nat.reduceSub, Nat.zero_add, Nat.zero_le, Nat.le_refl, reduceIte, ↓zb_X12_every_4, ↓zb_X12_every_43, ↓G, zl_c, r8, Bool.toNat_true]
    | false =>
      rw [hb] at r8
      have eH := zq_here h hb
      have n1 : ¬ zp_v (zp_sg T s) = nI 38 := fun x => q ((zq_ne h (by omega)).mp x)
      simp -implicitDefEqProofs (disch := first | omega | assumption | decide +kernel | exact Nat.le_of_ble_eq_true rfl) only [↓zx_push, ↓zx_ild0, ↓zx_ald0, ↓zx_lld0, ↓zx_ist0, ↓zx_ast0, ↓zx_inc0, ↓zx_ild1, ↓zx_ald1, ↓zx_lld1, ↓zx_ist1i, ↓zx_ist1r, ↓zx_ist1n, ↓zx_ast1i, ↓zx_ast1r, ↓zx_ast1n, ↓zx_inc1i, ↓zx_inc1r, ↓zx_inc1n, ↓zx_ild2, ↓zx_ald2, ↓zx_lld2, ↓zx_ist2i, ↓zx_ist2r, ↓zx_ist2n, ↓zx_ast2i, ↓zx_ast2r, ↓zx_ast2n, ↓zx_inc2i, ↓zx_inc2r, ↓zx_inc2n, ↓zx_ild3, ↓zx_ald3, ↓zx_lld3, ↓zx_ist3i, ↓zx_ist3r, ↓zx_ist3n, ↓zx_ast3i, ↓zx_ast3r, ↓zx_ast3n, ↓zx_inc3i, ↓zx_inc3r, ↓zx_inc3n, ↓zx_ild4, ↓zx_ald4, ↓zx_lld4, ↓zx_ist4i, ↓zx_ist4r, ↓zx_ist4n, ↓zx_ast4i, ↓zx_ast4r, ↓zx_ast4n, ↓zx_inc4i, ↓zx_inc4r, ↓zx_inc4n, ↓zx_ild5, ↓zx_ald5, ↓zx_lld5, ↓zx_ist5i, ↓zx_ist5r, ↓zx_ist5n, ↓zx_ast5i, ↓zx_ast5r, ↓zx_ast5n, ↓zx_inc5i, ↓zx_inc5r, ↓zx_inc5n, ↓zx_ild6, ↓zx_ald6, ↓zx_lld6, ↓zx_ist6i, ↓zx_ist6r, ↓zx_ist6n, ↓zx_ast6i, ↓zx_ast6r, ↓zx_ast6n, ↓zx_inc6i, ↓zx_inc6r, ↓zx_inc6n, ↓zx_ild7, ↓zx_ald7, ↓zx_lld7, ↓zx_ist7i, ↓zx_ist7r, ↓zx_ist7n, ↓zx_ast7i, ↓zx_ast7r, ↓zx_ast7n, ↓zx_inc7i, ↓zx_inc7r, ↓zx_inc7n, ↓zx_ild8, ↓zx_ald8, ↓zx_lld8, ↓zx_ist8i, ↓zx_ist8r, ↓zx_ist8n, ↓zx_ast8i, ↓zx_ast8r, ↓zx_ast8n, ↓zx_inc8i, ↓zx_inc8r, ↓zx_inc8n, ↓zx_ild9, ↓zx_ald9, ↓zx_lld9, ↓zx_ist9i, ↓zx_ist9r, ↓zx_ist9n, ↓zx_ast9i, ↓zx_ast9r, ↓zx_ast9n, ↓zx_inc9i, ↓zx_inc9r, ↓zx_inc9n, ↓zx_ild10, ↓zx_ald10, ↓zx_lld10, ↓zx_ist10i, ↓zx_ist10r, ↓zx_ist10n, ↓zx_ast10i, ↓zx_ast10r, ↓zx_ast10n, ↓zx_inc10i, ↓zx_inc10r, ↓zx_inc10n, ↓zx_b, ↓zx_u, ↓zx_i2l, ↓zx_lb, ↓zx_lu, ↓zx_lcmp, ↓zx_dupi, ↓zx_dupr, ↓zx_dup2, ↓zx_pop, zx_ceq_t, zx_ceq_f, zx_clt_t, zx_clt_f, zx_cle_t, zx_cle_f, zx_eq_t, zx_eq_f, zx_lt_t, zx_lt_f, zx_le_t, zx_le_f, zx_eq_b, zx_rem, zx_div, zx_go0, zx_go1, ↓zx_call0, ↓zx_call1, ↓zx_call2, ↓zx_call3, ↓zx_call4, ↓zx_call5, ↓zx_call6, ↓zx_call7, ↓zx_vc0, ↓zx_vn0, ↓zx_vc1, ↓zx_vn1, ↓zx_vc2, ↓zx_vn2, ↓zx_vc3, ↓zx_vn3, ↓zx_vc4, ↓zx_vn4, ↓zx_vc5, ↓zx_vn5, ↓zx_vc6, ↓zx_vn6, ↓zx_sc0, ↓zx_sc1, ↓zx_sc2, ↓zx_mmin, ↓zx_mmax, zx_ret0, zx_reti, zx_retl, zx_reta, zx_retz, zx_retz0, zx_retz1, zj_run, zj_e0, zj_E0, List.length_cons, List.length_nil, List.cons_append, List.nil_append, List.reduceReplicate, Nat.reduceLeDiff, Nat.reduceAdd, Nat.reduceSub, Nat.zero_add, Nat.zero_le, Nat.le_refl, reduceIte, ↓zb_X12_every_4, ↓zb_X12_every_43, ↓G, zl_c, r8, eH, zy_ceq_f, Bool.toNat_false]
  | succ k ih =>
    intro n fuel m s hk hn hf h h9 hw
    obtain ⟨f, rfl⟩ : ∃ f, fuel = f + 1 := ⟨fuel - 1, by omega⟩
    obtain ⟨n, rfl⟩ : ∃ j, n = j + 1 := ⟨n - 1, by omega⟩
    have r8 := h.1.2.2.2
    have r6 := h.1.2.1
    by_cases q : zp_sg T s = some 38
    · obtain ⟨x1, x2, x3, x4⟩ := zp_nx q
      have hs1 : (zp_next s).pos ≤ T.length := by rw [x3]; exact x4
      have hw1 := hw x1
      have eW : (zp_next s).W = s.W := rfl
      rw [x1] at r8
      have eH := zq_hereS h q
      obtain ⟨m2, b1, b2, b3⟩ := hF _ _ (h.nx q) (by rw [zj_st_n (by omega)]; exact h9)
      have y1 := (hE.1 (zp_next s) hs1).2
      have y2 : (p (zp_next s)).bad = false → (p (zp_next s)).W.length + 3 ≤ (p (zp_next s)).pos := fun hb => by
        have := hE.room hs1 (by rw [eW, x3]; omega) hb
        rw [eW, x3] at this
        omega
      obtain ⟨m3, c1, c2, c3⟩ := zq_emits b2 (fun hb => by have := y2 hb; omega) 18 0 (x := -nI 2) rfl
      obtain ⟨e1, e2, -⟩ := zp_wr_pos (p (zp_next s)) 18 0
      have h0 : zq_f a m (zj_st m 90 6 (nI (s.pos + 1))) := fun u j q1 _ => by rw [zj_st_n (by omega)]
      have h3 : zq_f a m m3 := (h0.trans b3).trans c3
      obtain ⟨m', f1, f2, f3⟩ := ih n f m3 _ (by rw [e1]; omega) (by omega) (by omega) c2 (h3.nine.trans h9) (fun hb => by
        rw [e2] at hb
        have y3 := y2 hb
        have y4 := (hE.1 (zp_next s) hs1).2.2
        have y5 := h.2.1.2.1
        rw [zp_wr_W _ _ _ (by omega), e1, List.length_append, List.length_singleton]
        omega)
      rw [zp_loop, if_pos q]
      refine ⟨m', ?_, f2, h3.trans f3⟩
      rw [zj_lp_s, ← f1]
      simp -implicitDefEqProofs (disch := first | omega | assumption | decide +kernel | exact Nat.le_of_ble_eq_true rfl) only [↓zx_push, ↓zx_ild0, ↓zx_ald0, ↓zx_lld0, ↓zx_ist0, ↓zx_ast0, ↓zx_inc0, ↓zx_ild1, ↓zx_ald1, ↓zx_lld1, ↓zx_ist1i, ↓zx_ist1r, ↓zx_ist1n, ↓zx_ast1i, ↓zx_ast1r, ↓zx_ast1n, ↓zx_inc1i, ↓zx_inc1r, ↓zx_inc1n, ↓zx_ild2, ↓zx_ald2, ↓zx_lld2, ↓zx_ist2i, ↓zx_ist2r, ↓zx_ist2n, ↓zx_ast2i, ↓zx_ast2r, ↓zx_ast2n, ↓zx_inc2i, ↓zx_inc2r, ↓zx_inc2n, ↓zx_ild3, ↓zx_ald3, ↓zx_lld3, ↓zx_ist3i, ↓zx_ist3r, ↓zx_ist3n, ↓zx_ast3i, ↓zx_ast3r, ↓zx_ast3n, ↓zx_inc3i, ↓zx_inc3r, ↓zx_inc3n, ↓zx_ild4, ↓zx_ald4, ↓zx_lld4, ↓zx_ist4i, ↓zx_ist4r, ↓zx_ist4n, ↓zx_ast4i, ↓zx_ast4r, ↓zx_ast4n, ↓zx_inc4i, ↓zx_inc4r, ↓zx_inc4n, ↓zx_ild5, ↓zx_ald5, ↓zx_lld5, ↓zx_ist5i, ↓zx_ist5r, ↓zx_ist5n, ↓zx_ast5i, ↓zx_ast5r, ↓zx_ast5n, ↓zx_inc5i, ↓zx_inc5r, ↓zx_inc5n, ↓zx_ild6, ↓zx_ald6, ↓zx_lld6, ↓zx_ist6i, ↓zx_ist6r, ↓zx_ist6n, ↓zx_ast6i, ↓zx_ast6r, ↓zx_ast6n, ↓zx_inc6i, ↓zx_inc6r, ↓zx_inc6n, ↓zx_ild7, ↓zx_ald7, ↓zx_lld7, ↓zx_ist7i, ↓zx_ist7r, ↓zx_ist7n, ↓zx_ast7i, ↓zx_ast7r, ↓zx_ast7n, ↓zx_inc7i, ↓zx_inc7r, ↓zx_inc7n, ↓zx_ild8, ↓zx_ald8, ↓zx_lld8, ↓zx_ist8i, ↓zx_ist8r, ↓zx_ist8n, ↓zx_ast8i, ↓zx_ast8r, ↓zx_ast8n, ↓zx_inc8i, ↓zx_inc8r, ↓zx_inc8n, ↓zx_ild9, ↓zx_ald9, ↓zx_lld9, ↓zx_ist9i, ↓zx_ist9r, ↓zx_ist9n, ↓zx_ast9i, ↓zx_ast9r, ↓zx_ast9n, ↓zx_inc9i, ↓zx_inc9r, ↓zx_inc9n, ↓zx_ild10, ↓zx_ald10, ↓zx_lld10, ↓zx_ist10i, ↓zx_ist10r, ↓zx_ist10n, ↓zx_ast10i, ↓zx_ast10r, ↓zx_ast10n, ↓zx_inc10i, ↓zx_inc10r, ↓zx_inc10n, ↓zx_b, ↓zx_u, ↓zx_i2l, ↓zx_lb, ↓zx_lu, ↓zx_lcmp, ↓zx_dupi, ↓zx_dupr, ↓zx_dup2, ↓zx_pop, zx_ceq_t, zx_ceq_f, zx_clt_t, zx_clt_f, zx_cle_t, zx_cle_f, zx_eq_t, zx_eq_f, zx_lt_t, zx_lt_f, zx_le_t, zx_le_f, zx_eq_b, zx_rem, zx_div, zx_go0, zx_go1, ↓zx_call0, ↓zx_call1, ↓zx_call2, ↓zx_call3, ↓zx_call4, ↓zx_call5, ↓zx_call6, ↓zx_call7, ↓zx_vc0, ↓zx_vn0, ↓zx_vc1, ↓zx_vn1, ↓zx_vc2, ↓zx_vn2, ↓zx_vc3, ↓zx_vn3, ↓zx_vc4, ↓zx_vn4, ↓zx_vc5, ↓zx_vn5, ↓zx_vc6, ↓zx_vn6, ↓zx_sc0, ↓zx_sc1, ↓zx_sc2, ↓zx_mmin, ↓zx_mmax, zx_ret0, zx_reti, zx_retl, zx_reta, zx_retz, zx_retz0, zx_retz1, zj_run, zj_e0, zj_E0, List.length_cons, List.length_nil, List.cons_append, List.nil_append, List.reduceReplicate, Nat.reduceLeDiff, Nat.reduceAdd, Nat.reduceSub, Nat.zero_add, Nat.zero_le, Nat.le_refl, reduceIte, ↓zb_X12_every_4, ↓zb_X12_every_43, ↓G, zl_c, r8, r6, eH, b1, c1, Bool.toNat_false, nI_add]
    · rw [zp_loop_stop q]
      refine ⟨m, ?_, h, zq_f.rf⟩
      rw [zj_lp_s]
      cases hb : s.bad with
      | true =>
        rw [hb] at r8
        simp -implicitDefEqProofs (disch := first | omega | assumption | decide +kernel | exact Nat.le_of_ble_eq_true rfl) only [↓zx_push, ↓zx_ild0, ↓zx_ald0, ↓zx_lld0, ↓zx_ist0, ↓zx_ast0, ↓zx_inc0, ↓zx_ild1, ↓zx_ald1, ↓zx_lld1, ↓zx_ist1i, ↓zx_ist1r, ↓zx_ist1n, ↓zx_ast1i, ↓zx_ast1r, ↓zx_ast1n, ↓zx_inc1i, ↓zx_inc1r, ↓zx_inc1n, ↓zx_ild2, ↓zx_ald2, ↓zx_lld2, ↓zx_ist2i, ↓zx_ist2r, ↓zx_ist2n, ↓zx_ast2i, ↓zx_ast2r, ↓zx_ast2n, ↓zx_inc2i, ↓zx_inc2r, ↓zx_inc2n, ↓zx_ild3, ↓zx_ald3, ↓zx_lld3, ↓zx_ist3i, ↓zx_ist3r, ↓zx_ist3n, ↓zx_ast3i, ↓zx_ast3r, ↓zx_ast3n, ↓zx_inc3i, ↓zx_inc3r, ↓zx_inc3n, ↓zx_ild4, ↓zx_ald4, ↓zx_lld4, ↓zx_ist4i, ↓zx_ist4r, ↓zx_ist4n, ↓zx_ast4i, ↓zx_ast4r, ↓zx_ast4n, ↓zx_inc4i, ↓zx_inc4r, ↓zx_inc4n, ↓zx_ild5, ↓zx_ald5, ↓zx_lld5, ↓zx_ist5i, ↓zx_ist5r, ↓zx_ist5n, ↓zx_ast5i, ↓zx_ast5r, ↓zx_ast5n, ↓zx_inc5i, ↓zx_inc5r, ↓zx_inc5n, ↓zx_ild6, ↓zx_ald6, ↓zx_lld6, ↓zx_ist6i, ↓zx_ist6r, ↓zx_ist6n, ↓zx_ast6i, ↓zx_ast6r, ↓zx_ast6n, ↓zx_inc6i, ↓zx_inc6r, ↓zx_inc6n, ↓zx_ild7, ↓zx_ald7, ↓zx_lld7, ↓zx_ist7i, ↓zx_ist7r, ↓zx_ist7n, ↓zx_ast7i, ↓zx_ast7r, ↓zx_ast7n, ↓zx_inc7i, ↓zx_inc7r, ↓zx_inc7n, ↓zx_ild8, ↓zx_ald8, ↓zx_lld8, ↓zx_ist8i, ↓zx_ist8r, ↓zx_ist8n, ↓zx_ast8i, ↓zx_ast8r, ↓zx_ast8n, ↓zx_inc8i, ↓zx_inc8r, ↓zx_inc8n, ↓zx_ild9, ↓zx_ald9, ↓zx_lld9, ↓zx_ist9i, ↓zx_ist9r, ↓zx_ist9n, ↓zx_ast9i, ↓zx_ast9r, ↓zx_ast9n, ↓zx_inc9i, ↓zx_inc9r, ↓zx_inc9n, ↓zx_ild10, ↓zx_ald10, ↓zx_lld10, ↓zx_ist10i, ↓zx_ist10r, ↓zx_ist10n, ↓zx_ast10i, ↓zx_ast10r, ↓zx_ast10n, ↓zx_inc10i, ↓zx_inc10r, ↓zx_inc10n, ↓zx_b, ↓zx_u, ↓zx_i2l, ↓zx_lb, ↓zx_lu, ↓zx_lcmp, ↓zx_dupi, ↓zx_dupr, ↓zx_dup2, ↓zx_pop, zx_ceq_t, zx_ceq_f, zx_clt_t, zx_clt_f, zx_cle_t, zx_cle_f, zx_eq_t, zx_eq_f, zx_lt_t, zx_lt_f, zx_le_t, zx_le_f, zx_eq_b, zx_rem, zx_div, zx_go0, zx_go1, ↓zx_call0, ↓zx_call1, ↓zx_call2, ↓zx_call3, ↓zx_call4, ↓zx_call5, ↓zx_call6, ↓zx_call7, ↓zx_vc0, ↓zx_vn0, ↓zx_vc1, ↓zx_vn1, ↓zx_vc2, ↓zx_vn2, ↓zx_vc3, ↓zx_vn3, ↓zx_vc4, ↓zx_vn4, ↓zx_vc5, ↓zx_vn5, ↓zx_vc6, ↓zx_vn6, ↓zx_sc0, ↓zx_sc1, ↓zx_sc2, ↓zx_mmin, ↓zx_mmax, zx_ret0, zx_reti, zx_retl, zx_reta, zx_retz, zx_retz0, zx_retz1, zj_run, zj_e0, zj_E0, List.length_cons, List.length_nil, List.cons_append, List.nil_append, List.reduceReplicate, Nat.reduceLeDiff, Nat.reduceAdd, Nat.reduceSub, Nat.zero_add, Nat.zero_le, Nat.le_refl, reduceIte, ↓zb_X12_every_4, ↓zb_X12_every_43, ↓G, zl_c, r8, Bool.toNat_true]
      | false =>
        rw [hb] at r8
        have eH := zq_here h hb
        have n1 : ¬ zp_v (zp_sg T s) = nI 38 := fun x => q ((zq_ne h (by omega)).mp x)
        simp -implicitDefEqProofs (disch := first | omega | assumption | decide +kernel | exact Nat.le_of_ble_eq_true rfl) only [↓zx_push, ↓zx_ild0, ↓zx_ald0, ↓zx_lld0, ↓zx_ist0, ↓zx_ast0, ↓zx_inc0, ↓zx_ild1, ↓zx_ald1, ↓zx_lld1, ↓zx_ist1i, ↓zx_ist1r, ↓zx_ist1n, ↓zx_ast1i, ↓zx_ast1r, ↓zx_ast1n, ↓zx_inc1i, ↓zx_inc1r, ↓zx_inc1n, ↓zx_ild2, ↓zx_ald2, ↓zx_lld2, ↓zx_ist2i, ↓zx_ist2r, ↓zx_ist2n, ↓zx_ast2i, ↓zx_ast2r, ↓zx_ast2n, ↓zx_inc2i, ↓zx_inc2r, ↓zx_inc2n, ↓zx_ild3, ↓zx_ald3, ↓zx_lld3, ↓zx_ist3i, ↓zx_ist3r, ↓zx_ist3n, ↓zx_ast3i, ↓zx_ast3r, ↓zx_ast3n, ↓zx_inc3i, ↓zx_inc3r, ↓zx_inc3n, ↓zx_ild4, ↓zx_ald4, ↓zx_lld4, ↓zx_ist4i, ↓zx_ist4r, ↓zx_ist4n, ↓zx_ast4i, ↓zx_ast4r, ↓zx_ast4n, ↓zx_inc4i, ↓zx_inc4r, ↓zx_inc4n, ↓zx_ild5, ↓zx_ald5, ↓zx_lld5, ↓zx_ist5i, ↓zx_ist5r, ↓zx_ist5n, ↓zx_ast5i, ↓zx_ast5r, ↓zx_ast5n, ↓zx_inc5i, ↓zx_inc5r, ↓zx_inc5n, ↓zx_ild6, ↓zx_ald6, ↓zx_lld6, ↓zx_ist6i, ↓zx_ist6r, ↓zx_ist6n, ↓zx_ast6i, ↓zx_ast6r, ↓zx_ast6n, ↓zx_inc6i, ↓zx_inc6r, ↓zx_inc6n, ↓zx_ild7, ↓zx_ald7, ↓zx_lld7, ↓zx_ist7i, ↓zx_ist7r, ↓zx_ist7n, ↓zx_ast7i, ↓zx_ast7r, ↓zx_ast7n, ↓zx_inc7i, ↓zx_inc7r, ↓zx_inc7n, ↓zx_ild8, ↓zx_ald8, ↓zx_lld8, ↓zx_ist8i, ↓zx_ist8r, ↓zx_ist8n, ↓zx_ast8i, ↓zx_ast8r, ↓zx_ast8n, ↓zx_inc8i, ↓zx_inc8r, ↓zx_inc8n, ↓zx_ild9, ↓zx_ald9, ↓zx_lld9, ↓zx_ist9i, ↓zx_ist9r, ↓zx_ist9n, ↓zx_ast9i, ↓zx_ast9r, ↓zx_ast9n, ↓zx_inc9i, ↓zx_inc9r, ↓zx_inc9n, ↓zx_ild10, ↓zx_ald10, ↓zx_lld10, ↓zx_ist10i, ↓zx_ist10r, ↓zx_ist10n, ↓zx_ast10i, ↓zx_ast10r, ↓zx_ast10n, ↓zx_inc10i, ↓zx_inc10r, ↓zx_inc10n, ↓zx_b, ↓zx_u, ↓zx_i2l, ↓zx_lb, ↓zx_lu, ↓zx_lcmp, ↓zx_dupi, ↓zx_dupr, ↓zx_dup2, ↓zx_pop, zx_ceq_t, zx_ceq_f, zx_clt_t, zx_clt_f, zx_cle_t, zx_cle_f, zx_eq_t, zx_eq_f, zx_lt_t, zx_lt_f, zx_le_t, zx_le_f, zx_eq_b, zx_rem, zx_div, zx_go0, zx_go1, ↓zx_call0, ↓zx_call1, ↓zx_call2, ↓zx_call3, ↓zx_call4, ↓zx_call5, ↓zx_call6, ↓zx_call7, ↓zx_vc0, ↓zx_vn0, ↓zx_vc1, ↓zx_vn1, ↓zx_vc2, ↓zx_vn2, ↓zx_vc3, ↓zx_vn3, ↓zx_vc4, ↓zx_vn4, ↓zx_vc5, ↓zx_vn5, ↓zx_vc6, ↓zx_vn6, ↓zx_sc0, ↓zx_sc1, ↓zx_sc2, ↓zx_mmin, ↓zx_mmax, zx_ret0, zx_reti, zx_retl, zx_reta, zx_retz, zx_retz0, zx_retz1, zj_run, zj_e0, zj_E0, List.length_cons, List.length_nil, List.cons_append, List.nil_append, List.reduceReplicate, Nat.reduceLeDiff, Nat.reduceAdd, Nat.reduceSub, Nat.zero_add, Nat.zero_le, Nat.le_refl, reduceIte, ↓zb_X12_every_4, ↓zb_X12_every_43, ↓G, zl_c, r8, eH, zy_ceq_f, Bool.toNat_false]
theorem zq_every (hF : zq_X a T (F 0) o p) (hE : zp_E T d p) : zq_X a T (zj_run 1 (zb_X12_every_0 F)) o (zp_both T p) := fun m s h h9 => by
  have hc90 := zg_c90
  obtain ⟨m1, a1, a2, a3⟩ := hF m s h h9
  have h3 := h.2.1.2.2
  have hT := h.2.1.2.1
  obtain ⟨m', f1, f2, f3⟩ := zq_every_loop hF hE T.length 100 zj_fu m1 _ (by omega) hT (by unfold zj_fu; omega) a2 (a3.nine.trans h9) (fun hb => by
    have hb0 := hE.1.good h3 hb
    have := hE.room h3 (h.2.2.2 hb0).1.2.1 hb
    have := (h.2.2.2 hb0).1.2.1
    omega)
  refine ⟨m', ?_, f2, a3.trans f3⟩
  rw [← f1]
  simp -implicitDefEqProofs (disch := first | omega | assumption | decide +kernel | exact Nat.le_of_ble_eq_true rfl) only [↓zx_push, ↓zx_ild0, ↓zx_ald0, ↓zx_lld0, ↓zx_ist0, ↓zx_ast0, ↓zx_inc0, ↓zx_ild1, ↓zx_ald1, ↓zx_lld1, ↓zx_ist1i, ↓zx_ist1r, ↓zx_ist1n, ↓zx_ast1i, ↓zx_ast1r, ↓zx_ast1n, ↓zx_inc1i, ↓zx_inc1r, ↓zx_inc1n, ↓zx_ild2, ↓zx_ald2, ↓zx_lld2, ↓zx_ist2i, ↓zx_ist2r, ↓zx_ist2n, ↓zx_ast2i, ↓zx_ast2r, ↓zx_ast2n, ↓zx_inc2i, ↓zx_inc2r, ↓zx_inc2n, ↓zx_ild3, ↓zx_ald3, ↓zx_lld3, ↓zx_ist3i, ↓zx_ist3r, ↓zx_ist3n, ↓zx_ast3i, ↓zx_ast3r, ↓zx_ast3n, ↓zx_inc3i, ↓zx_inc3r, ↓zx_inc3n, ↓zx_ild4, ↓zx_ald4, ↓zx_lld4, ↓zx_ist4i, ↓zx_ist4r, ↓zx_ist4n, ↓zx_ast4i, ↓zx_ast4r, ↓zx_ast4n, ↓zx_inc4i, ↓zx_inc4r, ↓zx_inc4n, ↓zx_ild5, ↓zx_ald5, ↓zx_lld5, ↓zx_ist5i, ↓zx_ist5r, ↓zx_ist5n, ↓zx_ast5i, ↓zx_ast5r, ↓zx_ast5n, ↓zx_inc5i, ↓zx_inc5r, ↓zx_inc5n, ↓zx_ild6, ↓zx_ald6, ↓zx_lld6, ↓zx_ist6i, ↓zx_ist6r, ↓zx_ist6n, ↓zx_ast6i, ↓zx_ast6r, ↓zx_ast6n, ↓zx_inc6i, ↓zx_inc6r, ↓zx_inc6n, ↓zx_ild7, ↓zx_ald7, ↓zx_lld7, ↓zx_ist7i, ↓zx_ist7r, ↓zx_ist7n, ↓zx_ast7i, ↓zx_ast7r, ↓zx_ast7n, ↓zx_inc7i, ↓zx_inc7r, ↓zx_inc7n, ↓zx_ild8, ↓zx_ald8, ↓zx_lld8, ↓zx_ist8i, ↓zx_ist8r, ↓zx_ist8n, ↓zx_ast8i, ↓zx_ast8r, ↓zx_ast8n, ↓zx_inc8i, ↓zx_inc8r, ↓zx_inc8n, ↓zx_ild9, ↓zx_ald9, ↓zx_lld9, ↓zx_ist9i, ↓zx_ist9r, ↓zx_ist9n, ↓zx_ast9i, ↓zx_ast9r, ↓zx_ast9n, ↓zx_inc9i, ↓zx_inc9r, ↓zx_inc9n, ↓zx_ild10, ↓zx_ald10, ↓zx_lld10, ↓zx_ist10i, ↓zx_ist10r, ↓zx_ist10n, ↓zx_ast10i, ↓zx_ast10r, ↓zx_ast10n, ↓zx_inc10i, ↓zx_inc10r, ↓zx_inc10n, ↓zx_b, ↓zx_u, ↓zx_i2l, ↓zx_lb, ↓zx_lu, ↓zx_lcmp, ↓zx_dupi, ↓zx_dupr, ↓zx_dup2, ↓zx_pop, zx_ceq_t, zx_ceq_f, zx_clt_t, zx_clt_f, zx_cle_t, zx_cle_f, zx_eq_t, zx_eq_f, zx_lt_t, zx_lt_f, zx_le_t, zx_le_f, zx_eq_b, zx_rem, zx_div, zx_go0, zx_go1, ↓zx_call0, ↓zx_call1, ↓zx_call2, ↓zx_call3, ↓zx_call4, ↓zx_call5, ↓zx_call6, ↓zx_call7, ↓zx_vc0, ↓zx_vn0, ↓zx_vc1, ↓zx_vn1, ↓zx_vc2, ↓zx_vn2, ↓zx_vc3, ↓zx_vn3, ↓zx_vc4, ↓zx_vn4, ↓zx_vc5, ↓zx_vn5, ↓zx_vc6, ↓zx_vn6, ↓zx_sc0, ↓zx_sc1, ↓zx_sc2, ↓zx_mmin, ↓zx_mmax, zx_ret0, zx_reti, zx_retl, zx_reta, zx_retz, zx_retz0, zx_retz1, zj_run, zj_e0, zj_E0, List.length_cons, List.length_nil, List.cons_append, List.nil_append, List.reduceReplicate, Nat.reduceLeDiff, Nat.reduceAdd, Nat.reduceSub, Nat.zero_add, Nat.zero_le, Nat.le_refl, reduceIte, ↓zb_X12_every_0, zl_c, a1]
theorem zq_some_loop (hF : zq_X a T (F 1) o p) (hE : zp_E T d p) : ∀ (k n fuel : Nat) (m : zj_M) (s : zp_S), T.length ≤ s.pos + k → k ≤ n → k < fuel → zq_R a m T s → m 90 9 = nI o → (s.bad = false → s.W.length + 1 ≤ s.pos) → ∃ m', zj_lp (zb_X12_some_4 F) fuel [some (.ref 90)] [] m = some ([], m') ∧ zq_R a m' T (zp_loop T 124 19 p n s) ∧ zq_f a m m' := by
  have G := zg_90
  have hc90 := zg_c90
  intro k
  induction k with
  | zero =>
    intro n fuel m s hk hn hf h h9 hw
    obtain ⟨f, rfl⟩ : ∃ f, fuel = f + 1 := ⟨fuel - 1, by omega⟩
    have r8 := h.1.2.2.2
    have q : ¬ zp_sg T s = some 124 := fun x => by
      have := (zp_nx x).2.2.2
      omega
    rw [zp_loop_stop q]
    refine ⟨m, ?_, h, zq_f.rf⟩
    rw [zj_lp_s]
    cases hb : s.bad with
    | true =>
      rw [hb] at r8
      simp -implicitDefEqProofs (disch := first | omega | assumption | decide +kernel | exact Nat.le_of_ble_eq_true rfl) only [↓zx_push, ↓zx_ild0, ↓zx_ald0, ↓zx_lld0, ↓zx_ist0, ↓zx_ast0, ↓zx_inc0, ↓zx_ild1, ↓zx_ald1, ↓zx_lld1, ↓zx_ist1i, ↓zx_ist1r, ↓zx_ist1n, ↓zx_ast1i, ↓zx_ast1r, ↓zx_ast1n, ↓zx_inc1i, ↓zx_inc1r, ↓zx_inc1n, ↓zx_ild2, ↓zx_ald2, ↓zx_lld2, ↓zx_ist2i, ↓zx_ist2r, ↓zx_ist2n, ↓zx_ast2i, ↓zx_ast2r, ↓zx_ast2n, ↓zx_inc2i, ↓zx_inc2r, ↓zx_inc2n, ↓zx_ild3, ↓zx_ald3, ↓zx_lld3, ↓zx_ist3i, ↓zx_ist3r, ↓zx_ist3n, ↓zx_ast3i, ↓zx_ast3r, ↓zx_ast3n, ↓zx_inc3i, ↓zx_inc3r, ↓zx_inc3n, ↓zx_ild4, ↓zx_ald4, ↓zx_lld4, ↓zx_ist4i, ↓zx_ist4r, ↓zx_ist4n, ↓zx_ast4i, ↓zx_ast4r, ↓zx_ast4n, ↓zx_inc4i, ↓zx_inc4r, ↓zx_inc4n, ↓zx_ild5, ↓zx_ald5, ↓zx_lld5, ↓zx_ist5i, ↓zx_ist5r, ↓zx_ist5n, ↓zx_ast5i, ↓zx_ast5r, ↓zx_ast5n, ↓zx_inc5i, ↓zx_inc5r, ↓zx_inc5n, ↓zx_ild6, ↓zx_ald6, ↓zx_lld6, ↓zx_ist6i, ↓zx_ist6r, ↓zx_ist6n, ↓zx_ast6i, ↓zx_ast6r, ↓zx_ast6n, ↓zx_inc6i, ↓zx_inc6r, ↓zx_inc6n, ↓zx_ild7, ↓zx_ald7, ↓zx_lld7, ↓zx_ist7i, ↓zx_ist7r, ↓zx_ist7n, ↓zx_ast7i, ↓zx_ast7r, ↓zx_ast7n, ↓zx_inc7i, ↓zx_inc7r, ↓zx_inc7n, ↓zx_ild8, ↓zx_ald8, ↓zx_lld8, ↓zx_ist8i, ↓zx_ist8r, ↓zx_ist8n, ↓zx_ast8i, ↓zx_ast8r, ↓zx_ast8n, ↓zx_inc8i, ↓zx_inc8r, ↓zx_inc8n, ↓zx_ild9, ↓zx_ald9, ↓zx_lld9, ↓zx_ist9i, ↓zx_ist9r, ↓zx_ist9n, ↓zx_ast9i, ↓zx_ast9r, ↓zx_ast9n, ↓zx_inc9i, ↓zx_inc9r, ↓zx_inc9n, ↓zx_ild10, ↓zx_ald10, ↓zx_lld10, ↓zx_ist10i, ↓zx_ist10r, ↓zx_ist10n, ↓zx_ast10i, ↓zx_ast10r, ↓zx_ast10n, ↓zx_inc10i, ↓zx_inc10r, ↓zx_inc10n, ↓zx_b, ↓zx_u, ↓zx_i2l, ↓zx_lb, ↓zx_lu, ↓zx_lcmp, ↓zx_dupi, ↓zx_dupr, ↓zx_dup2, ↓zx_pop, zx_ceq_t, zx_ceq_f, zx_clt_t, zx_clt_f, zx_cle_t, zx_cle_f, zx_eq_t, zx_eq_f, zx_lt_t, zx_lt_f, zx_le_t, zx_le_f, zx_eq_b, zx_rem, zx_div, zx_go0, zx_go1, ↓zx_call0, ↓zx_call1, ↓zx_call2, ↓zx_call3, ↓zx_call4, ↓zx_call5, ↓zx_call6, ↓zx_call7, ↓zx_vc0, ↓zx_vn0, ↓zx_vc1, ↓zx_vn1, ↓zx_vc2, ↓zx_vn2, ↓zx_vc3, ↓zx_vn3, ↓zx_vc4, ↓zx_vn4, ↓zx_vc5, ↓zx_vn5, ↓zx_vc6, ↓zx_vn6, ↓zx_sc0, ↓zx_sc1, ↓zx_sc2, ↓zx_mmin, ↓zx_mmax, zx_ret0, zx_reti, zx_retl, zx_reta, zx_retz, zx_retz0, zx_retz1, zj_run, zj_e0, zj_E0, List.length_cons, List.length_nil, List.cons_append, List.nil_append, List.reduceReplicate, Nat.reduceLeDiff, Nat.reduceAdd, Nat.reduceSub, Nat.zero_add, Nat.zero_le, Nat.le_refl, reduceIte, ↓zb_X12_some_4, ↓zb_X12_some_43, ↓G, zl_c, r8, Bool.toNat_true]
    | false =>
      rw [hb] at r8
      have eH := zq_here h hb
      have n1 : ¬ zp_v (zp_sg T s) = nI 124 := fun x => q ((zq_ne h (by omega)).mp x)
      simp -implicitDefEqProofs (disch := first | omega | assumption | decide +kernel | exact Nat.le_of_ble_eq_true rfl) only [↓zx_push, ↓zx_ild0, ↓zx_ald0, ↓zx_lld0, ↓zx_ist0, ↓zx_ast0, ↓zx_inc0, ↓zx_ild1, ↓zx_ald1, ↓zx_lld1, ↓zx_ist1i, ↓zx_ist1r, ↓zx_ist1n, ↓zx_ast1i, ↓zx_ast1r, ↓zx_ast1n, ↓zx_inc1i, ↓zx_inc1r, ↓zx_inc1n, ↓zx_ild2, ↓zx_ald2, ↓zx_lld2, ↓zx_ist2i, ↓zx_ist2r, ↓zx_ist2n, ↓zx_ast2i, ↓zx_ast2r, ↓zx_ast2n, ↓zx_inc2i, ↓zx_inc2r, ↓zx_inc2n, ↓zx_ild3, ↓zx_ald3, ↓zx_lld3, ↓zx_ist3i, ↓zx_ist3r, ↓zx_ist3n, ↓zx_ast3i, ↓zx_ast3r, ↓zx_ast3n, ↓zx_inc3i, ↓zx_inc3r, ↓zx_inc3n, ↓zx_ild4, ↓zx_ald4, ↓zx_lld4, ↓zx_ist4i, ↓zx_ist4r, ↓zx_ist4n, ↓zx_ast4i, ↓zx_ast4r, ↓zx_ast4n, ↓zx_inc4i, ↓zx_inc4r, ↓zx_inc4n, ↓zx_ild5, ↓zx_ald5, ↓zx_lld5, ↓zx_ist5i, ↓zx_ist5r, ↓zx_ist5n, ↓zx_ast5i, ↓zx_ast5r, ↓zx_ast5n, ↓zx_inc5i, ↓zx_inc5r, ↓zx_inc5n, ↓zx_ild6, ↓zx_ald6, ↓zx_lld6, ↓zx_ist6i, ↓zx_ist6r, ↓zx_ist6n, ↓zx_ast6i, ↓zx_ast6r, ↓zx_ast6n, ↓zx_inc6i, ↓zx_inc6r, ↓zx_inc6n, ↓zx_ild7, ↓zx_ald7, ↓zx_lld7, ↓zx_ist7i, ↓zx_ist7r, ↓zx_ist7n, ↓zx_ast7i, ↓zx_ast7r, ↓zx_ast7n, ↓zx_inc7i, ↓zx_inc7r, ↓zx_inc7n, ↓zx_ild8, ↓zx_ald8, ↓zx_lld8, ↓zx_ist8i, ↓zx_ist8r, ↓zx_ist8n, ↓zx_ast8i, ↓zx_ast8r, ↓zx_ast8n, ↓zx_inc8i, ↓zx_inc8r, ↓zx_inc8n, ↓zx_ild9, ↓zx_ald9, ↓zx_lld9, ↓zx_ist9i, ↓zx_ist9r, ↓zx_ist9n, ↓zx_ast9i, ↓zx_ast9r, ↓zx_ast9n, ↓zx_inc9i, ↓zx_inc9r, ↓zx_inc9n, ↓zx_ild10, ↓zx_ald10, ↓zx_lld10, ↓zx_ist10i, ↓zx_ist10r, ↓zx_ist10n, ↓zx_ast10i, ↓zx_ast10r, ↓zx_ast10n, ↓zx_inc10i, ↓zx_inc10r, ↓zx_inc10n, ↓zx_b, ↓zx_u, ↓zx_i2l, ↓zx_lb, ↓zx_lu, ↓zx_lcmp, ↓zx_dupi, ↓zx_dupr, ↓zx_dup2, ↓zx_pop, zx_ceq_t, zx_ceq_f, zx_clt_t, zx_clt_f, zx_cle_t, zx_cle_f, zx_eq_t, zx_eq_f, zx_lt_t, zx_lt_f, zx_le_t, zx_le_f, zx_eq_b, zx_rem, zx_div, zx_go0, zx_go1, ↓zx_call0, ↓zx_call1, ↓zx_call2, ↓zx_call3, ↓zx_call4, ↓zx_call5, ↓zx_call6, ↓zx_call7, ↓zx_vc0, ↓zx_vn0, ↓zx_vc1, ↓zx_vn1, ↓zx_vc2, ↓zx_vn2, ↓zx_vc3, ↓zx_vn3, ↓zx_vc4, ↓zx_vn4, ↓zx_vc5, ↓zx_vn5, ↓zx_vc6, ↓zx_vn6, ↓zx_sc0, ↓zx_sc1, ↓zx_sc2, ↓zx_mmin, ↓zx_mmax, zx_ret0, zx_reti, zx_retl, zx_reta, zx_retz, zx_retz0, zx_retz1, zj_run, zj_e0, zj_E0, List.length_cons, List.length_nil, List.cons_append, List.nil_append, List.reduceReplicate, Nat.reduceLeDiff, Nat.reduceAdd, Nat.reduceSub, Nat.zero_add, Nat.zero_le, Nat.le_refl, reduceIte, ↓zb_X12_some_4, ↓zb_X12_some_43, ↓G, zl_c, r8, eH, zy_ceq_f, Bool.toNat_false]
  | succ k ih =>
    intro n fuel m s hk hn hf h h9 hw
    obtain ⟨f, rfl⟩ : ∃ f, fuel = f + 1 := ⟨fuel - 1, by omega⟩
    obtain ⟨n, rfl⟩ : ∃ j, n = j + 1 := ⟨n - 1, by omega⟩
    have r8 := h.1.2.2.2
    have r6 := h.1.2.1
    by_cases q : zp_sg T s = some 124
    · obtain ⟨x1, x2, x3, x4⟩ := zp_nx q
      have hs1 : (zp_next s).pos ≤ T.length := by rw [x3]; exact x4
      have hw1 := hw x1
      have eW : (zp_next s).W = s.W := rfl
      rw [x1] at r8
      have eH := zq_hereS h q
      obtain ⟨m2, b1, b2, b3⟩ := hF _ _ (h.nx q) (by rw [zj_st_n (by omega)]; exact h9)
      have y1 := (hE.1 (zp_next s) hs1).2
      have y2 : (p (zp_next s)).bad = false → (p (zp_next s)).W.length + 3 ≤ (p (zp_next s)).pos := fun hb => by
        have := hE.room hs1 (by rw [eW, x3]; omega) hb
        rw [eW, x3] at this
        omega
      obtain ⟨m3, c1, c2, c3⟩ := zq_emits b2 (fun hb => by have := y2 hb; omega) 19 0 (x := -nI 3) rfl
      obtain ⟨e1, e2, -⟩ := zp_wr_pos (p (zp_next s)) 19 0
      have h0 : zq_f a m (zj_st m 90 6 (nI (s.pos + 1))) := fun u j q1 _ => by rw [zj_st_n (by omega)]
      have h3 : zq_f a m m3 := (h0.trans b3).trans c3
      obtain ⟨m', f1, f2, f3⟩ := ih n f m3 _ (by rw [e1]; omega) (by omega) (by omega) c2 (h3.nine.trans h9) (fun hb => by
        rw [e2] at hb
        have y3 := y2 hb
        have y4 := (hE.1 (zp_next s) hs1).2.2
        have y5 := h.2.1.2.1
        rw [zp_wr_W _ _ _ (by omega), e1, List.length_append, List.length_singleton]
        omega)
      rw [zp_loop, if_pos q]
      refine ⟨m', ?_, f2, h3.trans f3⟩
      rw [zj_lp_s, ← f1]
      simp -implicitDefEqProofs (disch := first | omega | assumption | decide +kernel | exact Nat.le_of_ble_eq_true rfl) only [↓zx_push, ↓zx_ild0, ↓zx_ald0, ↓zx_lld0, ↓zx_ist0, ↓zx_ast0, ↓zx_inc0, ↓zx_ild1, ↓zx_ald1, ↓zx_lld1, ↓zx_ist1i, ↓zx_ist1r, ↓zx_ist1n, ↓zx_ast1i, ↓zx_ast1r, ↓zx_ast1n, ↓zx_inc1i, ↓zx_inc1r, ↓zx_inc1n, ↓zx_ild2, ↓zx_ald2, ↓zx_lld2, ↓zx_ist2i, ↓zx_ist2r, ↓zx_ist2n, ↓zx_ast2i, ↓zx_ast2r, ↓zx_ast2n, ↓zx_inc2i, ↓zx_inc2r, ↓zx_inc2n, ↓zx_ild3, ↓zx_ald3, ↓zx_lld3, ↓zx_ist3i, ↓zx_ist3r, ↓zx_ist3n, ↓zx_ast3i, ↓zx_ast3r, ↓zx_ast3n, ↓zx_inc3i, ↓zx_inc3r, ↓zx_inc3n, ↓zx_ild4, ↓zx_ald4, ↓zx_lld4, ↓zx_ist4i, ↓zx_ist4r, ↓zx_ist4n, ↓zx_ast4i, ↓zx_ast4r, ↓zx_ast4n, ↓zx_inc4i, ↓zx_inc4r, ↓zx_inc4n, ↓zx_ild5, ↓zx_ald5, ↓zx_lld5, ↓zx_ist5i, ↓zx_ist5r, ↓zx_ist5n, ↓zx_ast5i, ↓zx_ast5r, ↓zx_ast5n, ↓zx_inc5i, ↓zx_inc5r, ↓zx_inc5n, ↓zx_ild6, ↓zx_ald6, ↓zx_lld6, ↓zx_ist6i, ↓zx_ist6r, ↓zx_ist6n, ↓zx_ast6i, ↓zx_ast6r, ↓zx_ast6n, ↓zx_inc6i, ↓zx_inc6r, ↓zx_inc6n, ↓zx_ild7, ↓zx_ald7, ↓zx_lld7, ↓zx_ist7i, ↓zx_ist7r, ↓zx_ist7n, ↓zx_ast7i, ↓zx_ast7r, ↓zx_ast7n, ↓zx_inc7i, ↓zx_inc7r, ↓zx_inc7n, ↓zx_ild8, ↓zx_ald8, ↓zx_lld8, ↓zx_ist8i, ↓zx_ist8r, ↓zx_ist8n, ↓zx_ast8i, ↓zx_ast8r, ↓zx_ast8n, ↓zx_inc8i, ↓zx_inc8r, ↓zx_inc8n, ↓zx_ild9, ↓zx_ald9, ↓zx_lld9, ↓zx_ist9i, ↓zx_ist9r, ↓zx_ist9n, ↓zx_ast9i, ↓zx_ast9r, ↓zx_ast9n, ↓zx_inc9i, ↓zx_inc9r, ↓zx_inc9n, ↓zx_ild10, ↓zx_ald10, ↓zx_lld10, ↓zx_ist10i, ↓zx_ist10r, ↓zx_ist10n, ↓zx_ast10i, ↓zx_ast10r, ↓zx_ast10n, ↓zx_inc10i, ↓zx_inc10r, ↓zx_inc10n, ↓zx_b, ↓zx_u, ↓zx_i2l, ↓zx_lb, ↓zx_lu, ↓zx_lcmp, ↓zx_dupi, ↓zx_dupr, ↓zx_dup2, ↓zx_pop, zx_ceq_t, zx_ceq_f, zx_clt_t, zx_clt_f, zx_cle_t, zx_cle_f, zx_eq_t, zx_eq_f, zx_lt_t, zx_lt_f, zx_le_t, zx_le_f, zx_eq_b, zx_rem, zx_div, zx_go0, zx_go1, ↓zx_call0, ↓zx_call1, ↓zx_call2, ↓zx_call3, ↓zx_call4, ↓zx_call5, ↓zx_call6, ↓zx_call7, ↓zx_vc0, ↓zx_vn0, ↓zx_vc1, ↓zx_vn1, ↓zx_vc2, ↓zx_vn2, ↓zx_vc3, ↓zx_vn3, ↓zx_vc4, ↓zx_vn4, ↓zx_vc5, ↓zx_vn5, ↓zx_vc6, ↓zx_vn6, ↓zx_sc0, ↓zx_sc1, ↓zx_sc2, ↓zx_mmin, ↓zx_mmax, zx_ret0, zx_reti, zx_retl, zx_reta, zx_retz, zx_retz0, zx_retz1, zj_run, zj_e0, zj_E0, List.length_cons, List.length_nil, List.cons_append, List.nil_append, List.reduceReplicate, Nat.reduceLeDiff, Nat.reduceAdd, Nat.reduceSub, Nat.zero_add, Nat.zero_le, Nat.le_refl, reduceIte, ↓zb_X12_some_4, ↓zb_X12_some_43, ↓G, zl_c, r8, r6, eH, b1, c1, Bool.toNat_false, nI_add]
    · rw [zp_loop_stop q]
      refine ⟨m, ?_, h, zq_f.rf⟩
      rw [zj_lp_s]
      cases hb : s.bad with
      | true =>
        rw [hb] at r8
        simp -implicitDefEqProofs (disch := first | omega | assumption | decide +kernel | exact Nat.le_of_ble_eq_true rfl) only [↓zx_push, ↓zx_ild0, ↓zx_ald0, ↓zx_lld0, ↓zx_ist0, ↓zx_ast0, ↓zx_inc0, ↓zx_ild1, ↓zx_ald1, ↓zx_lld1, ↓zx_ist1i, ↓zx_ist1r, ↓zx_ist1n, ↓zx_ast1i, ↓zx_ast1r, ↓zx_ast1n, ↓zx_inc1i, ↓zx_inc1r, ↓zx_inc1n, ↓zx_ild2, ↓zx_ald2, ↓zx_lld2, ↓zx_ist2i, ↓zx_ist2r, ↓zx_ist2n, ↓zx_ast2i, ↓zx_ast2r, ↓zx_ast2n, ↓zx_inc2i, ↓zx_inc2r, ↓zx_inc2n, ↓zx_ild3, ↓zx_ald3, ↓zx_lld3, ↓zx_ist3i, ↓zx_ist3r, ↓zx_ist3n, ↓zx_ast3i, ↓zx_ast3r, ↓zx_ast3n, ↓zx_inc3i, ↓zx_inc3r, ↓zx_inc3n, ↓zx_ild4, ↓zx_ald4, ↓zx_lld4, ↓zx_ist4i, ↓zx_ist4r, ↓zx_ist4n, ↓zx_ast4i, ↓zx_ast4r, ↓zx_ast4n, ↓zx_inc4i, ↓zx_inc4r, ↓zx_inc4n, ↓zx_ild5, ↓zx_ald5, ↓zx_lld5, ↓zx_ist5i, ↓zx_ist5r, ↓zx_ist5n, ↓zx_ast5i, ↓zx_ast5r, ↓zx_ast5n, ↓zx_inc5i, ↓zx_inc5r, ↓zx_inc5n, ↓zx_ild6, ↓zx_ald6, ↓zx_lld6, ↓zx_ist6i, ↓zx_ist6r, ↓zx_ist6n, ↓zx_ast6i, ↓zx_ast6r, ↓zx_ast6n, ↓zx_inc6i, ↓zx_inc6r, ↓zx_inc6n, ↓zx_ild7, ↓zx_ald7, ↓zx_lld7, ↓zx_ist7i, ↓zx_ist7r, ↓zx_ist7n, ↓zx_ast7i, ↓zx_ast7r, ↓zx_ast7n, ↓zx_inc7i, ↓zx_inc7r, ↓zx_inc7n, ↓zx_ild8, ↓zx_ald8, ↓zx_lld8, ↓zx_ist8i, ↓zx_ist8r, ↓zx_ist8n, ↓zx_ast8i, ↓zx_ast8r, ↓zx_ast8n, ↓zx_inc8i, ↓zx_inc8r, ↓zx_inc8n, ↓zx_ild9, ↓zx_ald9, ↓zx_lld9, ↓zx_ist9i, ↓zx_ist9r, ↓zx_ist9n, ↓zx_ast9i, ↓zx_ast9r, ↓zx_ast9n, ↓zx_inc9i, ↓zx_inc9r, ↓zx_inc9n, ↓zx_ild10, ↓zx_ald10, ↓zx_lld10, ↓zx_ist10i, ↓zx_ist10r, ↓zx_ist10n, ↓zx_ast10i, ↓zx_ast10r, ↓zx_ast10n, ↓zx_inc10i, ↓zx_inc10r, ↓zx_inc10n, ↓zx_b, ↓zx_u, ↓zx_i2l, ↓zx_lb, ↓zx_lu, ↓zx_lcmp, ↓zx_dupi, ↓zx_dupr, ↓zx_dup2, ↓zx_pop, zx_ceq_t, zx_ceq_f, zx_clt_t, zx_clt_f, zx_cle_t, zx_cle_f, zx_eq_t, zx_eq_f, zx_lt_t, zx_lt_f, zx_le_t, zx_le_f, zx_eq_b, zx_rem, zx_div, zx_go0, zx_go1, ↓zx_call0, ↓zx_call1, ↓zx_call2, ↓zx_call3, ↓zx_call4, ↓zx_call5, ↓zx_call6, ↓zx_call7, ↓zx_vc0, ↓zx_vn0, ↓zx_vc1, ↓zx_vn1, ↓zx_vc2, ↓zx_vn2, ↓zx_vc3, ↓zx_vn3, ↓zx_vc4, ↓zx_vn4, ↓zx_vc5, ↓zx_vn5, ↓zx_vc6, ↓zx_vn6, ↓zx_sc0, ↓zx_sc1, ↓zx_sc2, ↓zx_mmin, ↓zx_mmax, zx_ret0, zx_reti, zx_retl, zx_reta, zx_retz, zx_retz0, zx_retz1, zj_run, zj_e0, zj_E0, List.length_cons, List.length_nil, List.cons_append, List.nil_append, List.reduceReplicate, Nat.reduceLeDiff, Nat.reduceAdd, Nat.reduceSub, Nat.zero_add, Nat.zero_le, Nat.le_refl, reduceIte, ↓zb_X12_some_4, ↓zb_X12_some_43, ↓G, zl_c, r8, Bool.toNat_true]
      | false =>
        rw [hb] at r8
        have eH := zq_here h hb
        have n1 : ¬ zp_v (zp_sg T s) = nI 124 := fun x => q ((zq_ne h (by omega)).mp x)
        simp -implicitDefEqProofs (disch := first | omega | assumption | decide +kernel | exact Nat.le_of_ble_eq_true rfl) only [↓zx_push, ↓zx_ild0, ↓zx_ald0, ↓zx_lld0, ↓zx_ist0, ↓zx_ast0, ↓zx_inc0, ↓zx_ild1, ↓zx_ald1, ↓zx_lld1, ↓zx_ist1i, ↓zx_ist1r, ↓zx_ist1n, ↓zx_ast1i, ↓zx_ast1r, ↓zx_ast1n, ↓zx_inc1i, ↓zx_inc1r, ↓zx_inc1n, ↓zx_ild2, ↓zx_ald2, ↓zx_lld2, ↓zx_ist2i, ↓zx_ist2r, ↓zx_ist2n, ↓zx_ast2i, ↓zx_ast2r, ↓zx_ast2n, ↓zx_inc2i, ↓zx_inc2r, ↓zx_inc2n, ↓zx_ild3, ↓zx_ald3, ↓zx_lld3, ↓zx_ist3i, ↓zx_ist3r, ↓zx_ist3n, ↓zx_ast3i, ↓zx_ast3r, ↓zx_ast3n, ↓zx_inc3i, ↓zx_inc3r, ↓zx_inc3n, ↓zx_ild4, ↓zx_ald4, ↓zx_lld4, ↓zx_ist4i, ↓zx_ist4r, ↓zx_ist4n, ↓zx_ast4i, ↓zx_ast4r, ↓zx_ast4n, ↓zx_inc4i, ↓zx_inc4r, ↓zx_inc4n, ↓zx_ild5, ↓zx_ald5, ↓zx_lld5, ↓zx_ist5i, ↓zx_ist5r, ↓zx_ist5n, ↓zx_ast5i, ↓zx_ast5r, ↓zx_ast5n, ↓zx_inc5i, ↓zx_inc5r, ↓zx_inc5n, ↓zx_ild6, ↓zx_ald6, ↓zx_lld6, ↓zx_ist6i, ↓zx_ist6r, ↓zx_ist6n, ↓zx_ast6i, ↓zx_ast6r, ↓zx_ast6n, ↓zx_inc6i, ↓zx_inc6r, ↓zx_inc6n, ↓zx_ild7, ↓zx_ald7, ↓zx_lld7, ↓zx_ist7i, ↓zx_ist7r, ↓zx_ist7n, ↓zx_ast7i, ↓zx_ast7r, ↓zx_ast7n, ↓zx_inc7i, ↓zx_inc7r, ↓zx_inc7n, ↓zx_ild8, ↓zx_ald8, ↓zx_lld8, ↓zx_ist8i, ↓zx_ist8r, ↓zx_ist8n, ↓zx_ast8i, ↓zx_ast8r, ↓zx_ast8n, ↓zx_inc8i, ↓zx_inc8r, ↓zx_inc8n, ↓zx_ild9, ↓zx_ald9, ↓zx_lld9, ↓zx_ist9i, ↓zx_ist9r, ↓zx_ist9n, ↓zx_ast9i, ↓zx_ast9r, ↓zx_ast9n, ↓zx_inc9i, ↓zx_inc9r, ↓zx_inc9n, ↓zx_ild10, ↓zx_ald10, ↓zx_lld10, ↓zx_ist10i, ↓zx_ist10r, ↓zx_ist10n, ↓zx_ast10i, ↓zx_ast10r, ↓zx_ast10n, ↓zx_inc10i, ↓zx_inc10r, ↓zx_inc10n, ↓zx_b, ↓zx_u, ↓zx_i2l, ↓zx_lb, ↓zx_lu, ↓zx_lcmp, ↓zx_dupi, ↓zx_dupr, ↓zx_dup2, ↓zx_pop, zx_ceq_t, zx_ceq_f, zx_clt_t, zx_clt_f, zx_cle_t, zx_cle_f, zx_eq_t, zx_eq_f, zx_lt_t, zx_lt_f, zx_le_t, zx_le_f, zx_eq_b, zx_rem, zx_div, zx_go0, zx_go1, ↓zx_call0, ↓zx_call1, ↓zx_call2, ↓zx_call3, ↓zx_call4, ↓zx_call5, ↓zx_call6, ↓zx_call7, ↓zx_vc0, ↓zx_vn0, ↓zx_vc1, ↓zx_vn1, ↓zx_vc2, ↓zx_vn2, ↓zx_vc3, ↓zx_vn3, ↓zx_vc4, ↓zx_vn4, ↓zx_vc5, ↓zx_vn5, ↓zx_vc6, ↓zx_vn6, ↓zx_sc0, ↓zx_sc1, ↓zx_sc2, ↓zx_mmin, ↓zx_mmax, zx_ret0, zx_reti, zx_retl, zx_reta, zx_retz, zx_retz0, zx_retz1, zj_run, zj_e0, zj_E0, List.length_cons, List.length_nil, List.cons_append, List.nil_append, List.reduceReplicate, Nat.reduceLeDiff, Nat.reduceAdd, Nat.reduceSub, Nat.zero_add, Nat.zero_le, Nat.le_refl, reduceIte, ↓zb_X12_some_4, ↓zb_X12_some_43, ↓G, zl_c, r8, eH, zy_ceq_f, Bool.toNat_false]
theorem zq_some (hF : zq_X a T (F 1) o p) (hE : zp_E T d p) : zq_X a T (zj_run 1 (zb_X12_some_0 F)) o (fun s => zp_loop T 124 19 p 100 (p s)) := fun m s h h9 => by
  have hc90 := zg_c90
  obtain ⟨m1, a1, a2, a3⟩ := hF m s h h9
  have h3 := h.2.1.2.2
  have hT := h.2.1.2.1
  obtain ⟨m', f1, f2, f3⟩ := zq_some_loop hF hE T.length 100 zj_fu m1 _ (by omega) hT (by unfold zj_fu; omega) a2 (a3.nine.trans h9) (fun hb => by
    have hb0 := hE.1.good h3 hb
    have := hE.room h3 (h.2.2.2 hb0).1.2.1 hb
    have := (h.2.2.2 hb0).1.2.1
    omega)
  refine ⟨m', ?_, f2, a3.trans f3⟩
  rw [← f1]
  simp -implicitDefEqProofs (disch := first | omega | assumption | decide +kernel | exact Nat.le_of_ble_eq_true rfl) only [↓zx_push, ↓zx_ild0, ↓zx_ald0, ↓zx_lld0, ↓zx_ist0, ↓zx_ast0, ↓zx_inc0, ↓zx_ild1, ↓zx_ald1, ↓zx_lld1, ↓zx_ist1i, ↓zx_ist1r, ↓zx_ist1n, ↓zx_ast1i, ↓zx_ast1r, ↓zx_ast1n, ↓zx_inc1i, ↓zx_inc1r, ↓zx_inc1n, ↓zx_ild2, ↓zx_ald2, ↓zx_lld2, ↓zx_ist2i, ↓zx_ist2r, ↓zx_ist2n, ↓zx_ast2i, ↓zx_ast2r, ↓zx_ast2n, ↓zx_inc2i, ↓zx_inc2r, ↓zx_inc2n, ↓zx_ild3, ↓zx_ald3, ↓zx_lld3, ↓zx_ist3i, ↓zx_ist3r, ↓zx_ist3n, ↓zx_ast3i, ↓zx_ast3r, ↓zx_ast3n, ↓zx_inc3i, ↓zx_inc3r, ↓zx_inc3n, ↓zx_ild4, ↓zx_ald4, ↓zx_lld4, ↓zx_ist4i, ↓zx_ist4r, ↓zx_ist4n, ↓zx_ast4i, ↓zx_ast4r, ↓zx_ast4n, ↓zx_inc4i, ↓zx_inc4r, ↓zx_inc4n, ↓zx_ild5, ↓zx_ald5, ↓zx_lld5, ↓zx_ist5i, ↓zx_ist5r, ↓zx_ist5n, ↓zx_ast5i, ↓zx_ast5r, ↓zx_ast5n, ↓zx_inc5i, ↓zx_inc5r, ↓zx_inc5n, ↓zx_ild6, ↓zx_ald6, ↓zx_lld6, ↓zx_ist6i, ↓zx_ist6r, ↓zx_ist6n, ↓zx_ast6i, ↓zx_ast6r, ↓zx_ast6n, ↓zx_inc6i, ↓zx_inc6r, ↓zx_inc6n, ↓zx_ild7, ↓zx_ald7, ↓zx_lld7, ↓zx_ist7i, ↓zx_ist7r, ↓zx_ist7n, ↓zx_ast7i, ↓zx_ast7r, ↓zx_ast7n, ↓zx_inc7i, ↓zx_inc7r, ↓zx_inc7n, ↓zx_ild8, ↓zx_ald8, ↓zx_lld8, ↓zx_ist8i, ↓zx_ist8r, ↓zx_ist8n, ↓zx_ast8i, ↓zx_ast8r, ↓zx_ast8n, ↓zx_inc8i, ↓zx_inc8r, ↓zx_inc8n, ↓zx_ild9, ↓zx_ald9, ↓zx_lld9, ↓zx_ist9i, ↓zx_ist9r, ↓zx_ist9n, ↓zx_ast9i, ↓zx_ast9r, ↓zx_ast9n, ↓zx_inc9i, ↓zx_inc9r, ↓zx_inc9n, ↓zx_ild10, ↓zx_ald10, ↓zx_lld10, ↓zx_ist10i, ↓zx_ist10r, ↓zx_ist10n, ↓zx_ast10i, ↓zx_ast10r, ↓zx_ast10n, ↓zx_inc10i, ↓zx_inc10r, ↓zx_inc10n, ↓zx_b, ↓zx_u, ↓zx_i2l, ↓zx_lb, ↓zx_lu, ↓zx_lcmp, ↓zx_dupi, ↓zx_dupr, ↓zx_dup2, ↓zx_pop, zx_ceq_t, zx_ceq_f, zx_clt_t, zx_clt_f, zx_cle_t, zx_cle_f, zx_eq_t, zx_eq_f, zx_lt_t, zx_lt_f, zx_le_t, zx_le_f, zx_eq_b, zx_rem, zx_div, zx_go0, zx_go1, ↓zx_call0, ↓zx_call1, ↓zx_call2, ↓zx_call3, ↓zx_call4, ↓zx_call5, ↓zx_call6, ↓zx_call7, ↓zx_vc0, ↓zx_vn0, ↓zx_vc1, ↓zx_vn1, ↓zx_vc2, ↓zx_vn2, ↓zx_vc3, ↓zx_vn3, ↓zx_vc4, ↓zx_vn4, ↓zx_vc5, ↓zx_vn5, ↓zx_vc6, ↓zx_vn6, ↓zx_sc0, ↓zx_sc1, ↓zx_sc2, ↓zx_mmin, ↓zx_mmax, zx_ret0, zx_reti, zx_retl, zx_reta, zx_retz, zx_retz0, zx_retz1, zj_run, zj_e0, zj_E0, List.length_cons, List.length_nil, List.cons_append, List.nil_append, List.reduceReplicate, Nat.reduceLeDiff, Nat.reduceAdd, Nat.reduceSub, Nat.zero_add, Nat.zero_le, Nat.le_refl, reduceIte, ↓zb_X12_some_0, zl_c, a1]
theorem zq_Y.factor : zq_Y a T (zj_run 5 (zb_X12_factor_0 F)) := fun m s h hb => by
  have G := zg_90
  have r8 := h.1.2.2.2
  rw [hb] at r8
  simp -implicitDefEqProofs (disch := first | omega | assumption | decide +kernel | exact Nat.le_of_ble_eq_true rfl) only [↓zx_push, ↓zx_ild0, ↓zx_ald0, ↓zx_lld0, ↓zx_ist0, ↓zx_ast0, ↓zx_inc0, ↓zx_ild1, ↓zx_ald1, ↓zx_lld1, ↓zx_ist1i, ↓zx_ist1r, ↓zx_ist1n, ↓zx_ast1i, ↓zx_ast1r, ↓zx_ast1n, ↓zx_inc1i, ↓zx_inc1r, ↓zx_inc1n, ↓zx_ild2, ↓zx_ald2, ↓zx_lld2, ↓zx_ist2i, ↓zx_ist2r, ↓zx_ist2n, ↓zx_ast2i, ↓zx_ast2r, ↓zx_ast2n, ↓zx_inc2i, ↓zx_inc2r, ↓zx_inc2n, ↓zx_ild3, ↓zx_ald3, ↓zx_lld3, ↓zx_ist3i, ↓zx_ist3r, ↓zx_ist3n, ↓zx_ast3i, ↓zx_ast3r, ↓zx_ast3n, ↓zx_inc3i, ↓zx_inc3r, ↓zx_inc3n, ↓zx_ild4, ↓zx_ald4, ↓zx_lld4, ↓zx_ist4i, ↓zx_ist4r, ↓zx_ist4n, ↓zx_ast4i, ↓zx_ast4r, ↓zx_ast4n, ↓zx_inc4i, ↓zx_inc4r, ↓zx_inc4n, ↓zx_ild5, ↓zx_ald5, ↓zx_lld5, ↓zx_ist5i, ↓zx_ist5r, ↓zx_ist5n, ↓zx_ast5i, ↓zx_ast5r, ↓zx_ast5n, ↓zx_inc5i, ↓zx_inc5r, ↓zx_inc5n, ↓zx_ild6, ↓zx_ald6, ↓zx_lld6, ↓zx_ist6i, ↓zx_ist6r, ↓zx_ist6n, ↓zx_ast6i, ↓zx_ast6r, ↓zx_ast6n, ↓zx_inc6i, ↓zx_inc6r, ↓zx_inc6n, ↓zx_ild7, ↓zx_ald7, ↓zx_lld7, ↓zx_ist7i, ↓zx_ist7r, ↓zx_ist7n, ↓zx_ast7i, ↓zx_ast7r, ↓zx_ast7n, ↓zx_inc7i, ↓zx_inc7r, ↓zx_inc7n, ↓zx_ild8, ↓zx_ald8, ↓zx_lld8, ↓zx_ist8i, ↓zx_ist8r, ↓zx_ist8n, ↓zx_ast8i, ↓zx_ast8r, ↓zx_ast8n, ↓zx_inc8i, ↓zx_inc8r, ↓zx_inc8n, ↓zx_ild9, ↓zx_ald9, ↓zx_lld9, ↓zx_ist9i, ↓zx_ist9r, ↓zx_ist9n, ↓zx_ast9i, ↓zx_ast9r, ↓zx_ast9n, ↓zx_inc9i, ↓zx_inc9r, ↓zx_inc9n, ↓zx_ild10, ↓zx_ald10, ↓zx_lld10, ↓zx_ist10i, ↓zx_ist10r, ↓zx_ist10n, ↓zx_ast10i, ↓zx_ast10r, ↓zx_ast10n, ↓zx_inc10i, ↓zx_inc10r, ↓zx_inc10n, ↓zx_b, ↓zx_u, ↓zx_i2l, ↓zx_lb, ↓zx_lu, ↓zx_lcmp, ↓zx_dupi, ↓zx_dupr, ↓zx_dup2, ↓zx_pop, zx_ceq_t, zx_ceq_f, zx_clt_t, zx_clt_f, zx_cle_t, zx_cle_f, zx_eq_t, zx_eq_f, zx_lt_t, zx_lt_f, zx_le_t, zx_le_f, zx_eq_b, zx_rem, zx_div, zx_go0, zx_go1, ↓zx_call0, ↓zx_call1, ↓zx_call2, ↓zx_call3, ↓zx_call4, ↓zx_call5, ↓zx_call6, ↓zx_call7, ↓zx_vc0, ↓zx_vn0, ↓zx_vc1, ↓zx_vn1, ↓zx_vc2, ↓zx_vn2, ↓zx_vc3, ↓zx_vn3, ↓zx_vc4, ↓zx_vn4, ↓zx_vc5, ↓zx_vn5, ↓zx_vc6, ↓zx_vn6, ↓zx_sc0, ↓zx_sc1, ↓zx_sc2, ↓zx_mmin, ↓zx_mmax, zx_ret0, zx_reti, zx_retl, zx_reta, zx_retz, zx_retz0, zx_retz1, zj_run, zj_e0, zj_E0, List.length_cons, List.length_nil, List.cons_append, List.nil_append, List.reduceReplicate, Nat.reduceLeDiff, Nat.reduceAdd, Nat.reduceSub, Nat.zero_add, Nat.zero_le, Nat.le_refl, reduceIte, ↓zb_X12_factor_0, ↓G, zl_c, r8, Bool.toNat_true]
theorem zq_Y.every (hF : zq_Y a T (F 0)) : zq_Y a T (zj_run 1 (zb_X12_every_0 F)) := fun m s h hb => by
  have G := zg_90
  have hc90 := zg_c90
  have r8 := h.1.2.2.2
  have e := hF m s h hb
  rw [hb] at r8
  have eL : zj_lp (zb_X12_every_4 F) zj_fu = zb_X12_every_4 F (zj_lp (zb_X12_every_4 F) 4999) := rfl
  simp -implicitDefEqProofs (disch := first | omega | assumption | decide +kernel | exact Nat.le_of_ble_eq_true rfl) only [↓zx_push, ↓zx_ild0, ↓zx_ald0, ↓zx_lld0, ↓zx_ist0, ↓zx_ast0, ↓zx_inc0, ↓zx_ild1, ↓zx_ald1, ↓zx_lld1, ↓zx_ist1i, ↓zx_ist1r, ↓zx_ist1n, ↓zx_ast1i, ↓zx_ast1r, ↓zx_ast1n, ↓zx_inc1i, ↓zx_inc1r, ↓zx_inc1n, ↓zx_ild2, ↓zx_ald2, ↓zx_lld2, ↓zx_ist2i, ↓zx_ist2r, ↓zx_ist2n, ↓zx_ast2i, ↓zx_ast2r, ↓zx_ast2n, ↓zx_inc2i, ↓zx_inc2r, ↓zx_inc2n, ↓zx_ild3, ↓zx_ald3, ↓zx_lld3, ↓zx_ist3i, ↓zx_ist3r, ↓zx_ist3n, ↓zx_ast3i, ↓zx_ast3r, ↓zx_ast3n, ↓zx_inc3i, ↓zx_inc3r, ↓zx_inc3n, ↓zx_ild4, ↓zx_ald4, ↓zx_lld4, ↓zx_ist4i, ↓zx_ist4r, ↓zx_ist4n, ↓zx_ast4i, ↓zx_ast4r, ↓zx_ast4n, ↓zx_inc4i, ↓zx_inc4r, ↓zx_inc4n, ↓zx_ild5, ↓zx_ald5, ↓zx_lld5, ↓zx_ist5i, ↓zx_ist5r, ↓zx_ist5n, ↓zx_ast5i, ↓zx_ast5r, ↓zx_ast5n, ↓zx_inc5i, ↓zx_inc5r, ↓zx_inc5n, ↓zx_ild6, ↓zx_ald6, ↓zx_lld6, ↓zx_ist6i, ↓zx_ist6r, ↓zx_ist6n, ↓zx_ast6i, ↓zx_ast6r, ↓zx_ast6n, ↓zx_inc6i, ↓zx_inc6r, ↓zx_inc6n, ↓zx_ild7, ↓zx_ald7, ↓zx_lld7, ↓zx_ist7i, ↓zx_ist7r, ↓zx_ist7n, ↓zx_ast7i, ↓zx_ast7r, ↓zx_ast7n, ↓zx_inc7i, ↓zx_inc7r, ↓zx_inc7n, ↓zx_ild8, ↓zx_ald8, ↓zx_lld8, ↓zx_ist8i, ↓zx_ist8r, ↓zx_ist8n, ↓zx_ast8i, ↓zx_ast8r, ↓zx_ast8n, ↓zx_inc8i, ↓zx_inc8r, ↓zx_inc8n, ↓zx_ild9, ↓zx_ald9, ↓zx_lld9, ↓zx_ist9i, ↓zx_ist9r, ↓zx_ist9n, ↓zx_ast9i, ↓zx_ast9r, ↓zx_ast9n, ↓zx_inc9i, ↓zx_inc9r, ↓zx_inc9n, ↓zx_ild10, ↓zx_ald10, ↓zx_lld10, ↓zx_ist10i, ↓zx_ist10r, ↓zx_ist10n, ↓zx_ast10i, ↓zx_ast10r, ↓zx_ast10n, ↓zx_inc10i, ↓zx_inc10r, ↓zx_inc10n, ↓zx_b, ↓zx_u, ↓zx_i2l, ↓zx_lb, ↓zx_lu, ↓zx_lcmp, ↓zx_dupi, ↓zx_dupr, ↓zx_dup2, ↓zx_pop, zx_ceq_t, zx_ceq_f, zx_clt_t, zx_clt_f, zx_cle_t, zx_cle_f, zx_eq_t, zx_eq_f, zx_lt_t, zx_lt_f, zx_le_t, zx_le_f, zx_eq_b, zx_rem, zx_div, zx_go0, zx_go1, ↓zx_call0, ↓zx_call1, ↓zx_call2, ↓zx_call3, ↓zx_call4, ↓zx_call5, ↓zx_call6, ↓zx_call7, ↓zx_vc0, ↓zx_vn0, ↓zx_vc1, ↓zx_vn1, ↓zx_vc2, ↓zx_vn2, ↓zx_vc3, ↓zx_vn3, ↓zx_vc4, ↓zx_vn4, ↓zx_vc5, ↓zx_vn5, ↓zx_vc6, ↓zx_vn6, ↓zx_sc0, ↓zx_sc1, ↓zx_sc2, ↓zx_mmin, ↓zx_mmax, zx_ret0, zx_reti, zx_retl, zx_reta, zx_retz, zx_retz0, zx_retz1, zj_run, zj_e0, zj_E0, List.length_cons, List.length_nil, List.cons_append, List.nil_append, List.reduceReplicate, Nat.reduceLeDiff, Nat.reduceAdd, Nat.reduceSub, Nat.zero_add, Nat.zero_le, Nat.le_refl, reduceIte, ↓zb_X12_every_0, eL, ↓zb_X12_every_4, ↓zb_X12_every_43, ↓G, zl_c, r8, e, Bool.toNat_true]
theorem zq_Y.some (hF : zq_Y a T (F 1)) : zq_Y a T (zj_run 1 (zb_X12_some_0 F)) := fun m s h hb => by
  have G := zg_90
  have hc90 := zg_c90
  have r8 := h.1.2.2.2
  have e := hF m s h hb
  rw [hb] at r8
  have eL : zj_lp (zb_X12_some_4 F) zj_fu = zb_X12_some_4 F (zj_lp (zb_X12_some_4 F) 4999) := rfl
  simp -implicitDefEqProofs (disch := first | omega | assumption | decide +kernel | exact Nat.le_of_ble_eq_true rfl) only [↓zx_push, ↓zx_ild0, ↓zx_ald0, ↓zx_lld0, ↓zx_ist0, ↓zx_ast0, ↓zx_inc0, ↓zx_ild1, ↓zx_ald1, ↓zx_lld1, ↓zx_ist1i, ↓zx_ist1r, ↓zx_ist1n, ↓zx_ast1i, ↓zx_ast1r, ↓zx_ast1n, ↓zx_inc1i, ↓zx_inc1r, ↓zx_inc1n, ↓zx_ild2, ↓zx_ald2, ↓zx_lld2, ↓zx_ist2i, ↓zx_ist2r, ↓zx_ist2n, ↓zx_ast2i, ↓zx_ast2r, ↓zx_ast2n, ↓zx_inc2i, ↓zx_inc2r, ↓zx_inc2n, ↓zx_ild3, ↓zx_ald3, ↓zx_lld3, ↓zx_ist3i, ↓zx_ist3r, ↓zx_ist3n, ↓zx_ast3i, ↓zx_ast3r, ↓zx_ast3n, ↓zx_inc3i, ↓zx_inc3r, ↓zx_inc3n, ↓zx_ild4, ↓zx_ald4, ↓zx_lld4, ↓zx_ist4i, ↓zx_ist4r, ↓zx_ist4n, ↓zx_ast4i, ↓zx_ast4r, ↓zx_ast4n, ↓zx_inc4i, ↓zx_inc4r, ↓zx_inc4n, ↓zx_ild5, ↓zx_ald5, ↓zx_lld5, ↓zx_ist5i, ↓zx_ist5r, ↓zx_ist5n, ↓zx_ast5i, ↓zx_ast5r, ↓zx_ast5n, ↓zx_inc5i, ↓zx_inc5r, ↓zx_inc5n, ↓zx_ild6, ↓zx_ald6, ↓zx_lld6, ↓zx_ist6i, ↓zx_ist6r, ↓zx_ist6n, ↓zx_ast6i, ↓zx_ast6r, ↓zx_ast6n, ↓zx_inc6i, ↓zx_inc6r, ↓zx_inc6n, ↓zx_ild7, ↓zx_ald7, ↓zx_lld7, ↓zx_ist7i, ↓zx_ist7r, ↓zx_ist7n, ↓zx_ast7i, ↓zx_ast7r, ↓zx_ast7n, ↓zx_inc7i, ↓zx_inc7r, ↓zx_inc7n, ↓zx_ild8, ↓zx_ald8, ↓zx_lld8, ↓zx_ist8i, ↓zx_ist8r, ↓zx_ist8n, ↓zx_ast8i, ↓zx_ast8r, ↓zx_ast8n, ↓zx_inc8i, ↓zx_inc8r, ↓zx_inc8n, ↓zx_ild9, ↓zx_ald9, ↓zx_lld9, ↓zx_ist9i, ↓zx_ist9r, ↓zx_ist9n, ↓zx_ast9i, ↓zx_ast9r, ↓zx_ast9n, ↓zx_inc9i, ↓zx_inc9r, ↓zx_inc9n, ↓zx_ild10, ↓zx_ald10, ↓zx_lld10, ↓zx_ist10i, ↓zx_ist10r, ↓zx_ist10n, ↓zx_ast10i, ↓zx_ast10r, ↓zx_ast10n, ↓zx_inc10i, ↓zx_inc10r, ↓zx_inc10n, ↓zx_b, ↓zx_u, ↓zx_i2l, ↓zx_lb, ↓zx_lu, ↓zx_lcmp, ↓zx_dupi, ↓zx_dupr, ↓zx_dup2, ↓zx_pop, zx_ceq_t, zx_ceq_f, zx_clt_t, zx_clt_f, zx_cle_t, zx_cle_f, zx_eq_t, zx_eq_f, zx_lt_t, zx_lt_f, zx_le_t, zx_le_f, zx_eq_b, zx_rem, zx_div, zx_go0, zx_go1, ↓zx_call0, ↓zx_call1, ↓zx_call2, ↓zx_call3, ↓zx_call4, ↓zx_call5, ↓zx_call6, ↓zx_call7, ↓zx_vc0, ↓zx_vn0, ↓zx_vc1, ↓zx_vn1, ↓zx_vc2, ↓zx_vn2, ↓zx_vc3, ↓zx_vn3, ↓zx_vc4, ↓zx_vn4, ↓zx_vc5, ↓zx_vn5, ↓zx_vc6, ↓zx_vn6, ↓zx_sc0, ↓zx_sc1, ↓zx_sc2, ↓zx_mmin, ↓zx_mmax, zx_ret0, zx_reti, zx_retl, zx_reta, zx_retz, zx_retz0, zx_retz1, zj_run, zj_e0, zj_E0, List.length_cons, List.length_nil, List.cons_append, List.nil_append, List.reduceReplicate, Nat.reduceLeDiff, Nat.reduceAdd, Nat.reduceSub, Nat.zero_add, Nat.zero_le, Nat.le_refl, reduceIte, ↓zb_X12_some_0, eL, ↓zb_X12_some_4, ↓zb_X12_some_43, ↓G, zl_c, r8, e, Bool.toNat_true]
/-- a test -/
theorem zq_test (h : zq_R a m T s) (hb : s.bad = false) (h33 : ¬ zp_sg T s = some 33) (h40 : ¬ zp_sg T s = some 40) : ∃ m', zj_run 5 (zb_X12_factor_0 F) [.ref 90] m = some ([], m') ∧ zq_R a m' T (zp_test T s) ∧ zq_f a m m' := by
  have G := zg_90
  have hc90 := zg_c90
  have r8 := h.1.2.2.2
  rw [hb] at r8
  have hs := h.2.1.2.2
  have eH := zq_here h hb
  have n33 : ¬ zp_v (zp_sg T s) = nI 33 := fun x => h33 ((zq_ne h (by omega)).mp x)
  have n40 : ¬ zp_v (zp_sg T s) = nI 40 := fun x => h40 ((zq_ne h (by omega)).mp x)
  have eA := zq_among h hb (q := 7) (Or.inl ⟨rfl, rfl⟩)
  have e1 := zp_of_r T [112, 107, 118, 99, 109, 115] s
  simp only [Nat.reduceAdd] at eA
  unfold zp_test
  cases hr : zp_ofx T [112, 107, 118, 99, 109, 115] 0 s with
  | none =>
    rw [hr] at eA e1
    have eA : zf_X12_among [.ref 90, .ref 1007] m = some ([.int (-nI 1)], m) := eA
    have q1 : (-nI 1 : Int32) = -nI 1 := rfl
    have g1 := h.b1
    have g2 := g1.b1
    have eF := zq_figB g2 rfl
    have g3 := g2.b1
    have eE := zq_emB g3 rfl
    have hG := ((zp_D.of (T := T) [60, 61, 62]).comp zp_D.num).1 (zp_fail s) hs
    obtain ⟨w1, w2, -⟩ := zp_wr_pos (zp_num T (zp_of T [60, 61, 62] (zp_fail s)).2).2 (0 * 3 + (zp_of T [60, 61, 62] (zp_fail s)).1) (zp_num T (zp_of T [60, 61, 62] (zp_fail s)).2).1
    refine ⟨zj_st (zj_st (zj_st m 90 8 (nI 1)) 90 8 (nI 1)) 90 8 (nI 1), ?_, ?_, fun u j q1 _ => by rw [zj_st_n (by omega), zj_st_n (by omega), zj_st_n (by omega)]⟩
    · simp -implicitDefEqProofs (disch := first | omega | assumption | decide +kernel | exact Nat.le_of_ble_eq_true rfl) only [↓zx_push, ↓zx_ild0, ↓zx_ald0, ↓zx_lld0, ↓zx_ist0, ↓zx_ast0, ↓zx_inc0, ↓zx_ild1, ↓zx_ald1, ↓zx_lld1, ↓zx_ist1i, ↓zx_ist1r, ↓zx_ist1n, ↓zx_ast1i, ↓zx_ast1r, ↓zx_ast1n, ↓zx_inc1i, ↓zx_inc1r, ↓zx_inc1n, ↓zx_ild2, ↓zx_ald2, ↓zx_lld2, ↓zx_ist2i, ↓zx_ist2r, ↓zx_ist2n, ↓zx_ast2i, ↓zx_ast2r, ↓zx_ast2n, ↓zx_inc2i, ↓zx_inc2r, ↓zx_inc2n, ↓zx_ild3, ↓zx_ald3, ↓zx_lld3, ↓zx_ist3i, ↓zx_ist3r, ↓zx_ist3n, ↓zx_ast3i, ↓zx_ast3r, ↓zx_ast3n, ↓zx_inc3i, ↓zx_inc3r, ↓zx_inc3n, ↓zx_ild4, ↓zx_ald4, ↓zx_lld4, ↓zx_ist4i, ↓zx_ist4r, ↓zx_ist4n, ↓zx_ast4i, ↓zx_ast4r, ↓zx_ast4n, ↓zx_inc4i, ↓zx_inc4r, ↓zx_inc4n, ↓zx_ild5, ↓zx_ald5, ↓zx_lld5, ↓zx_ist5i, ↓zx_ist5r, ↓zx_ist5n, ↓zx_ast5i, ↓zx_ast5r, ↓zx_ast5n, ↓zx_inc5i, ↓zx_inc5r, ↓zx_inc5n, ↓zx_ild6, ↓zx_ald6, ↓zx_lld6, ↓zx_ist6i, ↓zx_ist6r, ↓zx_ist6n, ↓zx_ast6i, ↓zx_ast6r, ↓zx_ast6n, ↓zx_inc6i, ↓zx_inc6r, ↓zx_inc6n, ↓zx_ild7, ↓zx_ald7, ↓zx_lld7, ↓zx_ist7i, ↓zx_ist7r, ↓zx_ist7n, ↓zx_ast7i, ↓zx_ast7r, ↓zx_ast7n, ↓zx_inc7i, ↓zx_inc7r, ↓zx_inc7n, ↓zx_ild8, ↓zx_ald8, ↓zx_lld8, ↓zx_ist8i, ↓zx_ist8r, ↓zx_ist8n, ↓zx_ast8i, ↓zx_ast8r, ↓zx_ast8n, ↓zx_inc8i, ↓zx_inc8r, ↓zx_inc8n, ↓zx_ild9, ↓zx_ald9, ↓zx_lld9, ↓zx_ist9i, ↓zx_ist9r, ↓zx_ist9n, ↓zx_ast9i, ↓zx_ast9r, ↓zx_ast9n, ↓zx_inc9i, ↓zx_inc9r, ↓zx_inc9n, ↓zx_ild10, ↓zx_ald10, ↓zx_lld10, ↓zx_ist10i, ↓zx_ist10r, ↓zx_ist10n, ↓zx_ast10i, ↓zx_ast10r, ↓zx_ast10n, ↓zx_inc10i, ↓zx_inc10r, ↓zx_inc10n, ↓zx_b, ↓zx_u, ↓zx_i2l, ↓zx_lb, ↓zx_lu, ↓zx_lcmp, ↓zx_dupi, ↓zx_dupr, ↓zx_dup2, ↓zx_pop, zx_ceq_t, zx_ceq_f, zx_clt_t, zx_clt_f, zx_cle_t, zx_cle_f, zx_eq_t, zx_eq_f, zx_lt_t, zx_lt_f, zx_le_t, zx_le_f, zx_eq_b, zx_rem, zx_div, zx_go0, zx_go1, ↓zx_call0, ↓zx_call1, ↓zx_call2, ↓zx_call3, ↓zx_call4, ↓zx_call5, ↓zx_call6, ↓zx_call7, ↓zx_vc0, ↓zx_vn0, ↓zx_vc1, ↓zx_vn1, ↓zx_vc2, ↓zx_vn2, ↓zx_vc3, ↓zx_vn3, ↓zx_vc4, ↓zx_vn4, ↓zx_vc5, ↓zx_vn5, ↓zx_vc6, ↓zx_vn6, ↓zx_sc0, ↓zx_sc1, ↓zx_sc2, ↓zx_mmin, ↓zx_mmax, zx_ret0, zx_reti, zx_retl, zx_reta, zx_retz, zx_retz0, zx_retz1, zj_run, zj_e0, zj_E0, List.length_cons, List.length_nil, List.cons_append, List.nil_append, List.reduceReplicate, Nat.reduceLeDiff, Nat.reduceAdd, Nat.reduceSub, Nat.zero_add, Nat.zero_le, Nat.le_refl, reduceIte, ↓zb_X12_factor_0, ↓zb_X12_factor_130, ↓zb_X12_factor_150, ↓zb_X12_factor_164, ↓zb_X12_factor_169, ↓G, zl_c, r8, eH, n33, n40, zy_ceq_f, zy_ceq_t, eA, eF, eE, Bool.toNat_false, zj_st_s, zj_st_n]
    · rw [e1]
      exact g3.bad rfl (w2.trans (hG.1 rfl).1) (w1.trans (hG.1 rfl).2)
  | some k1 =>
    obtain ⟨c, hc, hk⟩ : ∃ c, zp_sg T s = some c ∧ zp_ix c [112, 107, 118, 99, 109, 115] 0 = some k1 := by
      unfold zp_ofx at hr
      cases hc : zp_sg T s with
      | none => rw [hc] at hr; exact absurd hr (by simp)
      | some c => rw [hc] at hr; exact ⟨c, rfl, hr⟩
    have hk6 := (zp_ix_lt _ 0 k1 hk).2
    simp only [List.length_cons, List.length_nil] at hk6
    rw [hr] at eA e1
    have eA : zf_X12_among [.ref 90, .ref 1007] m = some ([.int (nI k1)], zj_st m 90 6 (nI (s.pos + 1))) := eA
    have g1 := h.nx hc
    have x2 := (zp_nx hc).2.1
    have g2 := g1.b0 x2
    have x3 : (zp_next s).pos = s.pos + 1 := rfl
    have eB := zq_among g2 x2 (q := 8) (Or.inr ⟨rfl, rfl⟩)
    have e2 := zp_of_r T [60, 61, 62] (zp_next s)
    have q1 : ¬ nI k1 = -nI 1 := zl_nn (by omega) (by omega) (by omega)
    simp only [Nat.reduceAdd] at eB
    have e1 : zp_of T [112, 107, 118, 99, 109, 115] s = (k1, zp_next s) := e1
    rw [e1]
    simp only
    cases hr2 : zp_ofx T [60, 61, 62] 0 (zp_next s) with
    | none =>
      rw [hr2] at eB e2
      have eB : zf_X12_among [.ref 90, .ref 1008] (zj_st (zj_st m 90 6 (nI (s.pos + 1))) 90 8 (nI 0)) = some ([.int (-nI 1)], zj_st (zj_st m 90 6 (nI (s.pos + 1))) 90 8 (nI 0)) := eB
      have e2 : zp_of T [60, 61, 62] (zp_next s) = (0, zp_fail (zp_next s)) := e2
      have q2 : (-nI 1 : Int32) = -nI 1 := rfl
      have g3 := g2.b1
      have eF := zq_figB g3 rfl
      have g4 := g3.b1
      have eE := zq_emB g4 rfl
      have hG := (zp_D.num (T := T)).1 (zp_fail (zp_next s)) (zp_nx hc).2.2.2
      obtain ⟨w1, w2, -⟩ := zp_wr_pos (zp_num T (zp_fail (zp_next s))).2 (k1 * 3 + 0) (zp_num T (zp_fail (zp_next s))).1
      rw [e2]
      refine ⟨zj_st (zj_st (zj_st (zj_st m 90 6 (nI (s.pos + 1))) 90 8 (nI 0)) 90 8 (nI 1)) 90 8 (nI 1), ?_, g4.bad rfl (w2.trans (hG.1 rfl).1) (w1.trans (hG.1 rfl).2), fun u j q1 _ => by rw [zj_st_n (by omega), zj_st_n (by omega), zj_st_n (by omega), zj_st_n (by omega)]⟩
      simp -implicitDefEqProofs (disch := first | omega | assumption | decide +kernel | exact Nat.le_of_ble_eq_true rfl) only [↓zx_push, ↓zx_ild0, ↓zx_ald0, ↓zx_lld0, ↓zx_ist0, ↓zx_ast0, ↓zx_inc0, ↓zx_ild1, ↓zx_ald1, ↓zx_lld1, ↓zx_ist1i, ↓zx_ist1r, ↓zx_ist1n, ↓zx_ast1i, ↓zx_ast1r, ↓zx_ast1n, ↓zx_inc1i, ↓zx_inc1r, ↓zx_inc1n, ↓zx_ild2, ↓zx_ald2, ↓zx_lld2, ↓zx_ist2i, ↓zx_ist2r, ↓zx_ist2n, ↓zx_ast2i, ↓zx_ast2r, ↓zx_ast2n, ↓zx_inc2i, ↓zx_inc2r, ↓zx_inc2n, ↓zx_ild3, ↓zx_ald3, ↓zx_lld3, ↓zx_ist3i, ↓zx_ist3r, ↓zx_ist3n, ↓zx_ast3i, ↓zx_ast3r, ↓zx_ast3n, ↓zx_inc3i, ↓zx_inc3r, ↓zx_inc3n, ↓zx_ild4, ↓zx_ald4, ↓zx_lld4, ↓zx_ist4i, ↓zx_ist4r, ↓zx_ist4n, ↓zx_ast4i, ↓zx_ast4r, ↓zx_ast4n, ↓zx_inc4i, ↓zx_inc4r, ↓zx_inc4n, ↓zx_ild5, ↓zx_ald5, ↓zx_lld5, ↓zx_ist5i, ↓zx_ist5r, ↓zx_ist5n, ↓zx_ast5i, ↓zx_ast5r, ↓zx_ast5n, ↓zx_inc5i, ↓zx_inc5r, ↓zx_inc5n, ↓zx_ild6, ↓zx_ald6, ↓zx_lld6, ↓zx_ist6i, ↓zx_ist6r, ↓zx_ist6n, ↓zx_ast6i, ↓zx_ast6r, ↓zx_ast6n, ↓zx_inc6i, ↓zx_inc6r, ↓zx_inc6n, ↓zx_ild7, ↓zx_ald7, ↓zx_lld7, ↓zx_ist7i, ↓zx_ist7r, ↓zx_ist7n, ↓zx_ast7i, ↓zx_ast7r, ↓zx_ast7n, ↓zx_inc7i, ↓zx_inc7r, ↓zx_inc7n, ↓zx_ild8, ↓zx_ald8, ↓zx_lld8, ↓zx_ist8i, ↓zx_ist8r, ↓zx_ist8n, ↓zx_ast8i, ↓zx_ast8r, ↓zx_ast8n, ↓zx_inc8i, ↓zx_inc8r, ↓zx_inc8n, ↓zx_ild9, ↓zx_ald9, ↓zx_lld9, ↓zx_ist9i, ↓zx_ist9r, ↓zx_ist9n, ↓zx_ast9i, ↓zx_ast9r, ↓zx_ast9n, ↓zx_inc9i, ↓zx_inc9r, ↓zx_inc9n, ↓zx_ild10, ↓zx_ald10, ↓zx_lld10, ↓zx_ist10i, ↓zx_ist10r, ↓zx_ist10n, ↓zx_ast10i, ↓zx_ast10r, ↓zx_ast10n, ↓zx_inc10i, ↓zx_inc10r, ↓zx_inc10n, ↓zx_b, ↓zx_u, ↓zx_i2l, ↓zx_lb, ↓zx_lu, ↓zx_lcmp, ↓zx_dupi, ↓zx_dupr, ↓zx_dup2, ↓zx_pop, zx_ceq_t, zx_ceq_f, zx_clt_t, zx_clt_f, zx_cle_t, zx_cle_f, zx_eq_t, zx_eq_f, zx_lt_t, zx_lt_f, zx_le_t, zx_le_f, zx_eq_b, zx_rem, zx_div, zx_go0, zx_go1, ↓zx_call0, ↓zx_call1, ↓zx_call2, ↓zx_call3, ↓zx_call4, ↓zx_call5, ↓zx_call6, ↓zx_call7, ↓zx_vc0, ↓zx_vn0, ↓zx_vc1, ↓zx_vn1, ↓zx_vc2, ↓zx_vn2, ↓zx_vc3, ↓zx_vn3, ↓zx_vc4, ↓zx_vn4, ↓zx_vc5, ↓zx_vn5, ↓zx_vc6, ↓zx_vn6, ↓zx_sc0, ↓zx_sc1, ↓zx_sc2, ↓zx_mmin, ↓zx_mmax, zx_ret0, zx_reti, zx_retl, zx_reta, zx_retz, zx_retz0, zx_retz1, zj_run, zj_e0, zj_E0, List.length_cons, List.length_nil, List.cons_append, List.nil_append, List.reduceReplicate, Nat.reduceLeDiff, Nat.reduceAdd, Nat.reduceSub, Nat.zero_add, Nat.zero_le, Nat.le_refl, reduceIte, ↓zb_X12_factor_0, ↓zb_X12_factor_130, ↓zb_X12_factor_150, ↓zb_X12_factor_164, ↓zb_X12_factor_169, ↓G, zl_c, r8, eH, n33, n40, q1, zy_ceq_f, zy_ceq_t, eA, eB, eF, eE, Bool.toNat_false, zj_st_s, zj_st_n]
    | some k2 =>
      obtain ⟨c2, hc2, hk2⟩ : ∃ c, zp_sg T (zp_next s) = some c ∧ zp_ix c [60, 61, 62] 0 = some k2 := by
        unfold zp_ofx at hr2
        cases hc : zp_sg T (zp_next s) with
        | none => rw [hc] at hr2; exact absurd hr2 (by simp)
        | some c => rw [hc] at hr2; exact ⟨c, rfl, hr2⟩
      have hk3 := (zp_ix_lt _ 0 k2 hk2).2
      simp only [List.length_cons, List.length_nil] at hk3
      rw [hr2] at eB e2
      have eB : zf_X12_among [.ref 90, .ref 1008] (zj_st (zj_st m 90 6 (nI (s.pos + 1))) 90 8 (nI 0)) = some ([.int (nI k2)], zj_st (zj_st (zj_st m 90 6 (nI (s.pos + 1))) 90 8 (nI 0)) 90 6 (nI (s.pos + 1 + 1))) := eB
      have e2 : zp_of T [60, 61, 62] (zp_next s) = (k2, zp_next (zp_next s)) := e2
      have q2 : ¬ nI k2 = -nI 1 := zl_nn (by omega) (by omega) (by omega)
      have g3 := g2.nx hc2
      have x4 := (zp_nx hc2).2.1
      have g4 := g3.b0 x4
      obtain ⟨m5, f1, f2, f3⟩ := zq_figures g4
      have hn := (zp_num_c T (zp_next (zp_next s))).1
      have ex : nI (k1 + 8 * k2 + 32 * (zp_num T (zp_next (zp_next s))).1) = iI (zd_code (k1 * 3 + k2) (zp_num T (zp_next (zp_next s))).1) := by
        refine (iI_nat ?_).symm
        unfold zd_code
        rw [if_pos (by omega), show (k1 * 3 + k2) / 3 = k1 by omega, show (k1 * 3 + k2) % 3 = k2 by omega]
      obtain ⟨m6, y1, y2, y3⟩ := zq_emits f2 (fun hb2 => by
        obtain ⟨z1, z2, z3, z4⟩ := (zp_D.num (T := T)).2 (zp_next (zp_next s)) g4.2.1.2.2 hb2
        have z5 := (h.2.2.2 hb).1.2.1
        have z2 : (zp_num T (zp_next (zp_next s))).2.W = s.W := z2
        have z4 : s.pos + 1 + 1 + 1 ≤ (zp_num T (zp_next (zp_next s))).2.pos := z4
        rw [z2]
        omega) (k1 * 3 + k2) (zp_num T (zp_next (zp_next s))).1 ex
      rw [e2]
      have x5 : (zp_next (zp_next s)).pos = s.pos + 1 + 1 := rfl
      simp only [x3] at f1 f3
      refine ⟨m6, ?_, y2, (zq_f.trans (fun u j q1 _ => by rw [zj_st_n (by omega), zj_st_n (by omega), zj_st_n (by omega), zj_st_n (by omega)]) f3).trans y3⟩
      simp -implicitDefEqProofs (disch := first | omega | assumption | decide +kernel | exact Nat.le_of_ble_eq_true rfl) only [↓zx_push, ↓zx_ild0, ↓zx_ald0, ↓zx_lld0, ↓zx_ist0, ↓zx_ast0, ↓zx_inc0, ↓zx_ild1, ↓zx_ald1, ↓zx_lld1, ↓zx_ist1i, ↓zx_ist1r, ↓zx_ist1n, ↓zx_ast1i, ↓zx_ast1r, ↓zx_ast1n, ↓zx_inc1i, ↓zx_inc1r, ↓zx_inc1n, ↓zx_ild2, ↓zx_ald2, ↓zx_lld2, ↓zx_ist2i, ↓zx_ist2r, ↓zx_ist2n, ↓zx_ast2i, ↓zx_ast2r, ↓zx_ast2n, ↓zx_inc2i, ↓zx_inc2r, ↓zx_inc2n, ↓zx_ild3, ↓zx_ald3, ↓zx_lld3, ↓zx_ist3i, ↓zx_ist3r, ↓zx_ist3n, ↓zx_ast3i, ↓zx_ast3r, ↓zx_ast3n, ↓zx_inc3i, ↓zx_inc3r, ↓zx_inc3n, ↓zx_ild4, ↓zx_ald4, ↓zx_lld4, ↓zx_ist4i, ↓zx_ist4r, ↓zx_ist4n, ↓zx_ast4i, ↓zx_ast4r, ↓zx_ast4n, ↓zx_inc4i, ↓zx_inc4r, ↓zx_inc4n, ↓zx_ild5, ↓zx_ald5, ↓zx_lld5, ↓zx_ist5i, ↓zx_ist5r, ↓zx_ist5n, ↓zx_ast5i, ↓zx_ast5r, ↓zx_ast5n, ↓zx_inc5i, ↓zx_inc5r, ↓zx_inc5n, ↓zx_ild6, ↓zx_ald6, ↓zx_lld6, ↓zx_ist6i, ↓zx_ist6r, ↓zx_ist6n, ↓zx_ast6i, ↓zx_ast6r, ↓zx_ast6n, ↓zx_inc6i, ↓zx_inc6r, ↓zx_inc6n, ↓zx_ild7, ↓zx_ald7, ↓zx_lld7, ↓zx_ist7i, ↓zx_ist7r, ↓zx_ist7n, ↓zx_ast7i, ↓zx_ast7r, ↓zx_ast7n, ↓zx_inc7i, ↓zx_inc7r, ↓zx_inc7n, ↓zx_ild8, ↓zx_ald8, ↓zx_lld8, ↓zx_ist8i, ↓zx_ist8r, ↓zx_ist8n, ↓zx_ast8i, ↓zx_ast8r, ↓zx_ast8n, ↓zx_inc8i, ↓zx_inc8r, ↓zx_inc8n, ↓zx_ild9, ↓zx_ald9, ↓zx_lld9, ↓zx_ist9i, ↓zx_ist9r, ↓zx_ist9n, ↓zx_ast9i, ↓zx_ast9r, ↓zx_ast9n, ↓zx_inc9i, ↓zx_inc9r, ↓zx_inc9n, ↓zx_ild10, ↓zx_ald10, ↓zx_lld10, ↓zx_ist10i, ↓zx_ist10r, ↓zx_ist10n, ↓zx_ast10i, ↓zx_ast10r, ↓zx_ast10n, ↓zx_inc10i, ↓zx_inc10r, ↓zx_inc10n, ↓zx_b, ↓zx_u, ↓zx_i2l, ↓zx_lb, ↓zx_lu, ↓zx_lcmp, ↓zx_dupi, ↓zx_dupr, ↓zx_dup2, ↓zx_pop, zx_ceq_t, zx_ceq_f, zx_clt_t, zx_clt_f, zx_cle_t, zx_cle_f, zx_eq_t, zx_eq_f, zx_lt_t, zx_lt_f, zx_le_t, zx_le_f, zx_eq_b, zx_rem, zx_div, zx_go0, zx_go1, ↓zx_call0, ↓zx_call1, ↓zx_call2, ↓zx_call3, ↓zx_call4, ↓zx_call5, ↓zx_call6, ↓zx_call7, ↓zx_vc0, ↓zx_vn0, ↓zx_vc1, ↓zx_vn1, ↓zx_vc2, ↓zx_vn2, ↓zx_vc3, ↓zx_vn3, ↓zx_vc4, ↓zx_vn4, ↓zx_vc5, ↓zx_vn5, ↓zx_vc6, ↓zx_vn6, ↓zx_sc0, ↓zx_sc1, ↓zx_sc2, ↓zx_mmin, ↓zx_mmax, zx_ret0, zx_reti, zx_retl, zx_reta, zx_retz, zx_retz0, zx_retz1, zj_run, zj_e0, zj_E0, List.length_cons, List.length_nil, List.cons_append, List.nil_append, List.reduceReplicate, Nat.reduceLeDiff, Nat.reduceAdd, Nat.reduceSub, Nat.zero_add, Nat.zero_le, Nat.le_refl, reduceIte, ↓zb_X12_factor_0, ↓zb_X12_factor_130, ↓zb_X12_factor_150, ↓zb_X12_factor_164, ↓zb_X12_factor_169, ↓G, zl_c, r8, eH, n33, n40, q1, q2, zy_ceq_f, zy_ceq_t, eA, eB, f1, y1, pk_mul, nI_add, Bool.toNat_false, zj_st_s, zj_st_n]
theorem zq_fo {x y : Int32} {n : Nat} (h9 : m 90 9 = nI o) (h : zq_f a (zj_st (zj_st (zj_st m 90 8 x) 90 9 y) 90 6 (nI n)) m5) : zq_f a m (zj_st m5 90 9 (nI o)) := fun u j h1 h2 => by
  by_cases e : u = 90 ∧ j = 9
  · obtain ⟨rfl, rfl⟩ := e
    rw [zj_st_s, h9]
  · rw [zj_st_n e, h u j h1 h2, zj_st_n (by omega), zj_st_n e, zj_st_n (by omega)]
/-- too many open -/
theorem zq_factor0 (h0 : zq_Y a T (F 0)) (h2 : zq_Y a T (F 2)) : zq_X a T (zj_run 5 (zb_X12_factor_0 F)) 5 (zp_part T 0) := fun m s h h9 => by
  have G := zg_90
  have hc90 := zg_c90
  have hs := h.2.1.2.2
  have r8 := h.1.2.2.2
  have r6 := h.1.2.1
  cases hb : s.bad with
  | true =>
    have hx := ((zp_E.part h.2.1.2.1 0).1 s hs).1 hb
    exact ⟨m, zq_Y.factor m s h hb, h.bad hb hx.1 hx.2, zq_f.rf⟩
  | false =>
    rw [zp_part]
    rw [hb] at r8
    have g : zq_R a (zj_st (zj_st (zj_st m 90 8 (nI 1)) 90 9 (nI (5 + 1))) 90 6 (nI s.pos)) T (zp_fail s) := (h.b1.o _).p (n := s.pos) ⟨Nat.le_refl _, hs⟩
    by_cases q : zp_sg T s = some 33
    · rw [if_pos (Or.inl q)]
      have eH := zq_hereS h q
      have e0 := h0 _ _ g rfl
      have eE := zq_emB g rfl
      refine ⟨zj_st (zj_st (zj_st (zj_st m 90 8 (nI 1)) 90 9 (nI (5 + 1))) 90 6 (nI s.pos)) 90 9 (nI 5), ?_, g.o _, zq_fo h9 zq_f.rf⟩
      simp only [Nat.reduceAdd] at e0 eE ⊢
      have e6 : nI 6 - nI 1 = nI 5 := rfl
      simp -implicitDefEqProofs (disch := first | omega | assumption | decide +kernel | exact Nat.le_of_ble_eq_true rfl) only [↓zx_push, ↓zx_ild0, ↓zx_ald0, ↓zx_lld0, ↓zx_ist0, ↓zx_ast0, ↓zx_inc0, ↓zx_ild1, ↓zx_ald1, ↓zx_lld1, ↓zx_ist1i, ↓zx_ist1r, ↓zx_ist1n, ↓zx_ast1i, ↓zx_ast1r, ↓zx_ast1n, ↓zx_inc1i, ↓zx_inc1r, ↓zx_inc1n, ↓zx_ild2, ↓zx_ald2, ↓zx_lld2, ↓zx_ist2i, ↓zx_ist2r, ↓zx_ist2n, ↓zx_ast2i, ↓zx_ast2r, ↓zx_ast2n, ↓zx_inc2i, ↓zx_inc2r, ↓zx_inc2n, ↓zx_ild3, ↓zx_ald3, ↓zx_lld3, ↓zx_ist3i, ↓zx_ist3r, ↓zx_ist3n, ↓zx_ast3i, ↓zx_ast3r, ↓zx_ast3n, ↓zx_inc3i, ↓zx_inc3r, ↓zx_inc3n, ↓zx_ild4, ↓zx_ald4, ↓zx_lld4, ↓zx_ist4i, ↓zx_ist4r, ↓zx_ist4n, ↓zx_ast4i, ↓zx_ast4r, ↓zx_ast4n, ↓zx_inc4i, ↓zx_inc4r, ↓zx_inc4n, ↓zx_ild5, ↓zx_ald5, ↓zx_lld5, ↓zx_ist5i, ↓zx_ist5r, ↓zx_ist5n, ↓zx_ast5i, ↓zx_ast5r, ↓zx_ast5n, ↓zx_inc5i, ↓zx_inc5r, ↓zx_inc5n, ↓zx_ild6, ↓zx_ald6, ↓zx_lld6, ↓zx_ist6i, ↓zx_ist6r, ↓zx_ist6n, ↓zx_ast6i, ↓zx_ast6r, ↓zx_ast6n, ↓zx_inc6i, ↓zx_inc6r, ↓zx_inc6n, ↓zx_ild7, ↓zx_ald7, ↓zx_lld7, ↓zx_ist7i, ↓zx_ist7r, ↓zx_ist7n, ↓zx_ast7i, ↓zx_ast7r, ↓zx_ast7n, ↓zx_inc7i, ↓zx_inc7r, ↓zx_inc7n, ↓zx_ild8, ↓zx_ald8, ↓zx_lld8, ↓zx_ist8i, ↓zx_ist8r, ↓zx_ist8n, ↓zx_ast8i, ↓zx_ast8r, ↓zx_ast8n, ↓zx_inc8i, ↓zx_inc8r, ↓zx_inc8n, ↓zx_ild9, ↓zx_ald9, ↓zx_lld9, ↓zx_ist9i, ↓zx_ist9r, ↓zx_ist9n, ↓zx_ast9i, ↓zx_ast9r, ↓zx_ast9n, ↓zx_inc9i, ↓zx_inc9r, ↓zx_inc9n, ↓zx_ild10, ↓zx_ald10, ↓zx_lld10, ↓zx_ist10i, ↓zx_ist10r, ↓zx_ist10n, ↓zx_ast10i, ↓zx_ast10r, ↓zx_ast10n, ↓zx_inc10i, ↓zx_inc10r, ↓zx_inc10n, ↓zx_b, ↓zx_u, ↓zx_i2l, ↓zx_lb, ↓zx_lu, ↓zx_lcmp, ↓zx_dupi, ↓zx_dupr, ↓zx_dup2, ↓zx_pop, zx_ceq_t, zx_ceq_f, zx_clt_t, zx_clt_f, zx_cle_t, zx_cle_f, zx_eq_t, zx_eq_f, zx_lt_t, zx_lt_f, zx_le_t, zx_le_f, zx_eq_b, zx_rem, zx_div, zx_go0, zx_go1, ↓zx_call0, ↓zx_call1, ↓zx_call2, ↓zx_call3, ↓zx_call4, ↓zx_call5, ↓zx_call6, ↓zx_call7, ↓zx_vc0, ↓zx_vn0, ↓zx_vc1, ↓zx_vn1, ↓zx_vc2, ↓zx_vn2, ↓zx_vc3, ↓zx_vn3, ↓zx_vc4, ↓zx_vn4, ↓zx_vc5, ↓zx_vn5, ↓zx_vc6, ↓zx_vn6, ↓zx_sc0, ↓zx_sc1, ↓zx_sc2, ↓zx_mmin, ↓zx_mmax, zx_ret0, zx_reti, zx_retl, zx_reta, zx_retz, zx_retz0, zx_retz1, zj_run, zj_e0, zj_E0, List.length_cons, List.length_nil, List.cons_append, List.nil_append, List.reduceReplicate, Nat.reduceLeDiff, Nat.reduceAdd, Nat.reduceSub, Nat.zero_add, Nat.zero_le, Nat.le_refl, reduceIte, ↓zb_X12_factor_0, ↓zb_X12_factor_25, ↓zb_X12_factor_39, ↓zb_X12_factor_69, ↓zb_X12_factor_101, ↓G, zl_c, r8, r6, h9, eH, e0, eE, e6, Bool.toNat_false, nI_add, Nat.add_zero, zj_st_s, zj_st_n]
    · by_cases q2 : zp_sg T s = some 40
      · rw [if_pos (Or.inr q2)]
        have eH := zq_hereS h q2
        have e0 := h2 _ _ g rfl
        obtain ⟨m5, eM, f2, f3⟩ := zq_must g (c := 41) (by omega)
        have hx := (zp_D.take (T := T) 41).1 (zp_fail s) hs
        refine ⟨zj_st m5 90 9 (nI 5), ?_, (f2.bad (hx.1 rfl).1 rfl ((hx.1 rfl).2).symm).o _, zq_fo h9 f3⟩
        have e9 : m5 90 9 = nI 6 := f3.nine.trans (by rw [zj_st_n (by omega), zj_st_s])
        simp only [Nat.reduceAdd] at e0 eM
        have e6 : nI 6 - nI 1 = nI 5 := rfl
        simp -implicitDefEqProofs (disch := first | omega | assumption | decide +kernel | exact Nat.le_of_ble_eq_true rfl) only [↓zx_push, ↓zx_ild0, ↓zx_ald0, ↓zx_lld0, ↓zx_ist0, ↓zx_ast0, ↓zx_inc0, ↓zx_ild1, ↓zx_ald1, ↓zx_lld1, ↓zx_ist1i, ↓zx_ist1r, ↓zx_ist1n, ↓zx_ast1i, ↓zx_ast1r, ↓zx_ast1n, ↓zx_inc1i, ↓zx_inc1r, ↓zx_inc1n, ↓zx_ild2, ↓zx_ald2, ↓zx_lld2, ↓zx_ist2i, ↓zx_ist2r, ↓zx_ist2n, ↓zx_ast2i, ↓zx_ast2r, ↓zx_ast2n, ↓zx_inc2i, ↓zx_inc2r, ↓zx_inc2n, ↓zx_ild3, ↓zx_ald3, ↓zx_lld3, ↓zx_ist3i, ↓zx_ist3r, ↓zx_ist3n, ↓zx_ast3i, ↓zx_ast3r, ↓zx_ast3n, ↓zx_inc3i, ↓zx_inc3r, ↓zx_inc3n, ↓zx_ild4, ↓zx_ald4, ↓zx_lld4, ↓zx_ist4i, ↓zx_ist4r, ↓zx_ist4n, ↓zx_ast4i, ↓zx_ast4r, ↓zx_ast4n, ↓zx_inc4i, ↓zx_inc4r, ↓zx_inc4n, ↓zx_ild5, ↓zx_ald5, ↓zx_lld5, ↓zx_ist5i, ↓zx_ist5r, ↓zx_ist5n, ↓zx_ast5i, ↓zx_ast5r, ↓zx_ast5n, ↓zx_inc5i, ↓zx_inc5r, ↓zx_inc5n, ↓zx_ild6, ↓zx_ald6, ↓zx_lld6, ↓zx_ist6i, ↓zx_ist6r, ↓zx_ist6n, ↓zx_ast6i, ↓zx_ast6r, ↓zx_ast6n, ↓zx_inc6i, ↓zx_inc6r, ↓zx_inc6n, ↓zx_ild7, ↓zx_ald7, ↓zx_lld7, ↓zx_ist7i, ↓zx_ist7r, ↓zx_ist7n, ↓zx_ast7i, ↓zx_ast7r, ↓zx_ast7n, ↓zx_inc7i, ↓zx_inc7r, ↓zx_inc7n, ↓zx_ild8, ↓zx_ald8, ↓zx_lld8, ↓zx_ist8i, ↓zx_ist8r, ↓zx_ist8n, ↓zx_ast8i, ↓zx_ast8r, ↓zx_ast8n, ↓zx_inc8i, ↓zx_inc8r, ↓zx_inc8n, ↓zx_ild9, ↓zx_ald9, ↓zx_lld9, ↓zx_ist9i, ↓zx_ist9r, ↓zx_ist9n, ↓zx_ast9i, ↓zx_ast9r, ↓zx_ast9n, ↓zx_inc9i, ↓zx_inc9r, ↓zx_inc9n, ↓zx_ild10, ↓zx_ald10, ↓zx_lld10, ↓zx_ist10i, ↓zx_ist10r, ↓zx_ist10n, ↓zx_ast10i, ↓zx_ast10r, ↓zx_ast10n, ↓zx_inc10i, ↓zx_inc10r, ↓zx_inc10n, ↓zx_b, ↓zx_u, ↓zx_i2l, ↓zx_lb, ↓zx_lu, ↓zx_lcmp, ↓zx_dupi, ↓zx_dupr, ↓zx_dup2, ↓zx_pop, zx_ceq_t, zx_ceq_f, zx_clt_t, zx_clt_f, zx_cle_t, zx_cle_f, zx_eq_t, zx_eq_f, zx_lt_t, zx_lt_f, zx_le_t, zx_le_f, zx_eq_b, zx_rem, zx_div, zx_go0, zx_go1, ↓zx_call0, ↓zx_call1, ↓zx_call2, ↓zx_call3, ↓zx_call4, ↓zx_call5, ↓zx_call6, ↓zx_call7, ↓zx_vc0, ↓zx_vn0, ↓zx_vc1, ↓zx_vn1, ↓zx_vc2, ↓zx_vn2, ↓zx_vc3, ↓zx_vn3, ↓zx_vc4, ↓zx_vn4, ↓zx_vc5, ↓zx_vn5, ↓zx_vc6, ↓zx_vn6, ↓zx_sc0, ↓zx_sc1, ↓zx_sc2, ↓zx_mmin, ↓zx_mmax, zx_ret0, zx_reti, zx_retl, zx_reta, zx_retz, zx_retz0, zx_retz1, zj_run, zj_e0, zj_E0, List.length_cons, List.length_nil, List.cons_append, List.nil_append, List.reduceReplicate, Nat.reduceLeDiff, Nat.reduceAdd, Nat.reduceSub, Nat.zero_add, Nat.zero_le, Nat.le_refl, reduceIte, ↓zb_X12_factor_0, ↓zb_X12_factor_25, ↓zb_X12_factor_39, ↓zb_X12_factor_69, ↓zb_X12_factor_101, ↓G, zl_c, r8, r6, h9, eH, e0, eM, e9, e6, Bool.toNat_false, nI_add, Nat.add_zero, zj_st_s, zj_st_n]
      · rw [if_neg (fun x => x.elim q q2)]
        exact zq_test h hb q q2
theorem zq_factorS (ho : o < 5) (h0 : zq_X a T (F 0) (o + 1) p) (h2 : zq_X a T (F 2) (o + 1) (zp_either T p)) (hE : zp_E T d p) {b : Nat} (hp : p = zp_part T b) : zq_X a T (zj_run 5 (zb_X12_factor_0 F)) o (zp_part T (b + 1)) := fun m s h h9 => by
  have G := zg_90
  have hc90 := zg_c90
  have hs := h.2.1.2.2
  have r8 := h.1.2.2.2
  have r6 := h.1.2.1
  cases hb : s.bad with
  | true =>
    have hx := ((zp_E.part h.2.1.2.1 (b + 1)).1 s hs).1 hb
    exact ⟨m, zq_Y.factor m s h hb, h.bad hb hx.1 hx.2, zq_f.rf⟩
  | false =>
    rw [zp_part, ← hp]
    rw [hb] at r8
    have e6 : nI (o + 1) - nI 1 = nI o := by rw [pk_sub (by omega)]; exact congrArg nI (by omega)
    by_cases q : zp_sg T s = some 33
    · rw [if_pos q]
      obtain ⟨x1, x2, x3, x4⟩ := zp_nx q
      have hs1 : (zp_next s).pos ≤ T.length := by rw [x3]; exact x4
      have eW : (zp_next s).W = s.W := rfl
      have g : zq_R a (zj_st (zj_st (zj_st m 90 8 (nI 0)) 90 9 (nI (o + 1))) 90 6 (nI (s.pos + 1))) T (zp_next s) := ((h.b0 hb).o _).nx q
      have eH := zq_hereS h q
      obtain ⟨m4, b1, b2, b3⟩ := h0 _ _ g (by rw [zj_st_n (by omega), zj_st_s])
      obtain ⟨m5, c1, c2, c3⟩ := zq_emits b2 (fun hb2 => by
        have y1 := (h.2.2.2 hb).1.2.1
        have := hE.room hs1 (by rw [eW, x3]; omega) hb2
        rw [eW, x3] at this
        omega) 20 0 (x := -nI 1) rfl
      have e9 : m5 90 9 = nI (o + 1) := (c3.nine.trans b3.nine).trans (by rw [zj_st_n (by omega), zj_st_s])
      refine ⟨zj_st m5 90 9 (nI o), ?_, c2.o _, zq_fo h9 (b3.trans c3)⟩
      simp -implicitDefEqProofs (disch := first | omega | assumption | decide +kernel | exact Nat.le_of_ble_eq_true rfl) only [↓zx_push, ↓zx_ild0, ↓zx_ald0, ↓zx_lld0, ↓zx_ist0, ↓zx_ast0, ↓zx_inc0, ↓zx_ild1, ↓zx_ald1, ↓zx_lld1, ↓zx_ist1i, ↓zx_ist1r, ↓zx_ist1n, ↓zx_ast1i, ↓zx_ast1r, ↓zx_ast1n, ↓zx_inc1i, ↓zx_inc1r, ↓zx_inc1n, ↓zx_ild2, ↓zx_ald2, ↓zx_lld2, ↓zx_ist2i, ↓zx_ist2r, ↓zx_ist2n, ↓zx_ast2i, ↓zx_ast2r, ↓zx_ast2n, ↓zx_inc2i, ↓zx_inc2r, ↓zx_inc2n, ↓zx_ild3, ↓zx_ald3, ↓zx_lld3, ↓zx_ist3i, ↓zx_ist3r, ↓zx_ist3n, ↓zx_ast3i, ↓zx_ast3r, ↓zx_ast3n, ↓zx_inc3i, ↓zx_inc3r, ↓zx_inc3n, ↓zx_ild4, ↓zx_ald4, ↓zx_lld4, ↓zx_ist4i, ↓zx_ist4r, ↓zx_ist4n, ↓zx_ast4i, ↓zx_ast4r, ↓zx_ast4n, ↓zx_inc4i, ↓zx_inc4r, ↓zx_inc4n, ↓zx_ild5, ↓zx_ald5, ↓zx_lld5, ↓zx_ist5i, ↓zx_ist5r, ↓zx_ist5n, ↓zx_ast5i, ↓zx_ast5r, ↓zx_ast5n, ↓zx_inc5i, ↓zx_inc5r, ↓zx_inc5n, ↓zx_ild6, ↓zx_ald6, ↓zx_lld6, ↓zx_ist6i, ↓zx_ist6r, ↓zx_ist6n, ↓zx_ast6i, ↓zx_ast6r, ↓zx_ast6n, ↓zx_inc6i, ↓zx_inc6r, ↓zx_inc6n, ↓zx_ild7, ↓zx_ald7, ↓zx_lld7, ↓zx_ist7i, ↓zx_ist7r, ↓zx_ist7n, ↓zx_ast7i, ↓zx_ast7r, ↓zx_ast7n, ↓zx_inc7i, ↓zx_inc7r, ↓zx_inc7n, ↓zx_ild8, ↓zx_ald8, ↓zx_lld8, ↓zx_ist8i, ↓zx_ist8r, ↓zx_ist8n, ↓zx_ast8i, ↓zx_ast8r, ↓zx_ast8n, ↓zx_inc8i, ↓zx_inc8r, ↓zx_inc8n, ↓zx_ild9, ↓zx_ald9, ↓zx_lld9, ↓zx_ist9i, ↓zx_ist9r, ↓zx_ist9n, ↓zx_ast9i, ↓zx_ast9r, ↓zx_ast9n, ↓zx_inc9i, ↓zx_inc9r, ↓zx_inc9n, ↓zx_ild10, ↓zx_ald10, ↓zx_lld10, ↓zx_ist10i, ↓zx_ist10r, ↓zx_ist10n, ↓zx_ast10i, ↓zx_ast10r, ↓zx_ast10n, ↓zx_inc10i, ↓zx_inc10r, ↓zx_inc10n, ↓zx_b, ↓zx_u, ↓zx_i2l, ↓zx_lb, ↓zx_lu, ↓zx_lcmp, ↓zx_dupi, ↓zx_dupr, ↓zx_dup2, ↓zx_pop, zx_ceq_t, zx_ceq_f, zx_clt_t, zx_clt_f, zx_cle_t, zx_cle_f, zx_eq_t, zx_eq_f, zx_lt_t, zx_lt_f, zx_le_t, zx_le_f, zx_eq_b, zx_rem, zx_div, zx_go0, zx_go1, ↓zx_call0, ↓zx_call1, ↓zx_call2, ↓zx_call3, ↓zx_call4, ↓zx_call5, ↓zx_call6, ↓zx_call7, ↓zx_vc0, ↓zx_vn0, ↓zx_vc1, ↓zx_vn1, ↓zx_vc2, ↓zx_vn2, ↓zx_vc3, ↓zx_vn3, ↓zx_vc4, ↓zx_vn4, ↓zx_vc5, ↓zx_vn5, ↓zx_vc6, ↓zx_vn6, ↓zx_sc0, ↓zx_sc1, ↓zx_sc2, ↓zx_mmin, ↓zx_mmax, zx_ret0, zx_reti, zx_retl, zx_reta, zx_retz, zx_retz0, zx_retz1, zj_run, zj_e0, zj_E0, List.length_cons, List.length_nil, List.cons_append, List.nil_append, List.reduceReplicate, Nat.reduceLeDiff, Nat.reduceAdd, Nat.reduceSub, Nat.zero_add, Nat.zero_le, Nat.le_refl, reduceIte, ↓zb_X12_factor_0, ↓zb_X12_factor_25, ↓zb_X12_factor_39, ↓zb_X12_factor_69, ↓zb_X12_factor_101, ↓G, zl_c, r8, r6, h9, eH, b1, c1, e9, e6, Bool.toNat_false, nI_add, zj_st_s, zj_st_n]
    · rw [if_neg q]
      by_cases q2 : zp_sg T s = some 40
      · rw [if_pos q2]
        have g : zq_R a (zj_st (zj_st (zj_st m 90 8 (nI 0)) 90 9 (nI (o + 1))) 90 6 (nI (s.pos + 1))) T (zp_next s) := ((h.b0 hb).o _).nx q2
        have eH := zq_hereS h q2
        obtain ⟨m4, b1, b2, b3⟩ := h2 _ _ g (by rw [zj_st_n (by omega), zj_st_s])
        obtain ⟨m5, c1, c2, c3⟩ := zq_must b2 (c := 41) (by omega)
        have e9 : m5 90 9 = nI (o + 1) := (c3.nine.trans b3.nine).trans (by rw [zj_st_n (by omega), zj_st_s])
        refine ⟨zj_st m5 90 9 (nI o), ?_, c2.o _, zq_fo h9 (b3.trans c3)⟩
        simp -implicitDefEqProofs (disch := first | omega | assumption | decide +kernel | exact Nat.le_of_ble_eq_true rfl) only [↓zx_push, ↓zx_ild0, ↓zx_ald0, ↓zx_lld0, ↓zx_ist0, ↓zx_ast0, ↓zx_inc0, ↓zx_ild1, ↓zx_ald1, ↓zx_lld1, ↓zx_ist1i, ↓zx_ist1r, ↓zx_ist1n, ↓zx_ast1i, ↓zx_ast1r, ↓zx_ast1n, ↓zx_inc1i, ↓zx_inc1r, ↓zx_inc1n, ↓zx_ild2, ↓zx_ald2, ↓zx_lld2, ↓zx_ist2i, ↓zx_ist2r, ↓zx_ist2n, ↓zx_ast2i, ↓zx_ast2r, ↓zx_ast2n, ↓zx_inc2i, ↓zx_inc2r, ↓zx_inc2n, ↓zx_ild3, ↓zx_ald3, ↓zx_lld3, ↓zx_ist3i, ↓zx_ist3r, ↓zx_ist3n, ↓zx_ast3i, ↓zx_ast3r, ↓zx_ast3n, ↓zx_inc3i, ↓zx_inc3r, ↓zx_inc3n, ↓zx_ild4, ↓zx_ald4, ↓zx_lld4, ↓zx_ist4i, ↓zx_ist4r, ↓zx_ist4n, ↓zx_ast4i, ↓zx_ast4r, ↓zx_ast4n, ↓zx_inc4i, ↓zx_inc4r, ↓zx_inc4n, ↓zx_ild5, ↓zx_ald5, ↓zx_lld5, ↓zx_ist5i, ↓zx_ist5r, ↓zx_ist5n, ↓zx_ast5i, ↓zx_ast5r, ↓zx_ast5n, ↓zx_inc5i, ↓zx_inc5r, ↓zx_inc5n, ↓zx_ild6, ↓zx_ald6, ↓zx_lld6, ↓zx_ist6i, ↓zx_ist6r, ↓zx_ist6n, ↓zx_ast6i, ↓zx_ast6r, ↓zx_ast6n, ↓zx_inc6i, ↓zx_inc6r, ↓zx_inc6n, ↓zx_ild7, ↓zx_ald7, ↓zx_lld7, ↓zx_ist7i, ↓zx_ist7r, ↓zx_ist7n, ↓zx_ast7i, ↓zx_ast7r, ↓zx_ast7n, ↓zx_inc7i, ↓zx_inc7r, ↓zx_inc7n, ↓zx_ild8, ↓zx_ald8, ↓zx_lld8, ↓zx_ist8i, ↓zx_ist8r, ↓zx_ist8n, ↓zx_ast8i, ↓zx_ast8r, ↓zx_ast8n, ↓zx_inc8i, ↓zx_inc8r, ↓zx_inc8n, ↓zx_ild9, ↓zx_ald9, ↓zx_lld9, ↓zx_ist9i, ↓zx_ist9r, ↓zx_ist9n, ↓zx_ast9i, ↓zx_ast9r, ↓zx_ast9n, ↓zx_inc9i, ↓zx_inc9r, ↓zx_inc9n, ↓zx_ild10, ↓zx_ald10, ↓zx_lld10, ↓zx_ist10i, ↓zx_ist10r, ↓zx_ist10n, ↓zx_ast10i, ↓zx_ast10r, ↓zx_ast10n, ↓zx_inc10i, ↓zx_inc10r, ↓zx_inc10n, ↓zx_b, ↓zx_u, ↓zx_i2l, ↓zx_lb, ↓zx_lu, ↓zx_lcmp, ↓zx_dupi, ↓zx_dupr, ↓zx_dup2, ↓zx_pop, zx_ceq_t, zx_ceq_f, zx_clt_t, zx_clt_f, zx_cle_t, zx_cle_f, zx_eq_t, zx_eq_f, zx_lt_t, zx_lt_f, zx_le_t, zx_le_f, zx_eq_b, zx_rem, zx_div, zx_go0, zx_go1, ↓zx_call0, ↓zx_call1, ↓zx_call2, ↓zx_call3, ↓zx_call4, ↓zx_call5, ↓zx_call6, ↓zx_call7, ↓zx_vc0, ↓zx_vn0, ↓zx_vc1, ↓zx_vn1, ↓zx_vc2, ↓zx_vn2, ↓zx_vc3, ↓zx_vn3, ↓zx_vc4, ↓zx_vn4, ↓zx_vc5, ↓zx_vn5, ↓zx_vc6, ↓zx_vn6, ↓zx_sc0, ↓zx_sc1, ↓zx_sc2, ↓zx_mmin, ↓zx_mmax, zx_ret0, zx_reti, zx_retl, zx_reta, zx_retz, zx_retz0, zx_retz1, zj_run, zj_e0, zj_E0, List.length_cons, List.length_nil, List.cons_append, List.nil_append, List.reduceReplicate, Nat.reduceLeDiff, Nat.reduceAdd, Nat.reduceSub, Nat.zero_add, Nat.zero_le, Nat.le_refl, reduceIte, ↓zb_X12_factor_0, ↓zb_X12_factor_25, ↓zb_X12_factor_39, ↓zb_X12_factor_69, ↓zb_X12_factor_101, ↓G, zl_c, r8, r6, h9, eH, b1, c1, e9, e6, Bool.toNat_false, nI_add, zj_st_s, zj_st_n]
      · rw [if_neg q2]
        exact zq_test h hb q q2
theorem zg_fa0 (F : Nat → zj_F) : zg_X12_factor F 0 = zj_run 5 (zb_X12_factor_0 F) := rfl
theorem zg_fa1 (F : Nat → zj_F) : zg_X12_factor F 1 = zj_run 1 (zb_X12_every_0 F) := rfl
theorem zg_fa2 (F : Nat → zj_F) : zg_X12_factor F 2 = zj_run 1 (zb_X12_some_0 F) := rfl
theorem zq_rec_part {R : Nat → Nat → zj_F} (r0 : ∀ n, R (n + 1) 0 = zj_run 5 (zb_X12_factor_0 (R n))) (r1 : ∀ n, R (n + 1) 1 = zj_run 1 (zb_X12_every_0 (R n))) (r2 : ∀ n, R (n + 1) 2 = zj_run 1 (zb_X12_some_0 (R n))) (hT : T.length ≤ 100) : ∀ b, b ≤ 5 → ∀ n, 3 * b + 4 ≤ n → zq_X a T (R n 0) (5 - b) (zp_part T b) := by
  intro b
  induction b with
  | zero =>
    intro _ n hn
    obtain ⟨k, rfl⟩ : ∃ k, n = k + 1 + 1 + 1 + 1 := ⟨n - 4, by omega⟩
    have y0 : ∀ n, zq_Y a T (R (n + 1) 0) := fun n => by rw [r0]; exact zq_Y.factor
    have y2 : zq_Y a T (R (k + 1 + 1 + 1) 2) := by
      rw [r2]
      refine zq_Y.some ?_
      rw [r1]
      exact zq_Y.every (y0 k)
    rw [r0]
    exact zq_factor0 (y0 _) y2
  | succ b ih0 =>
    intro hb n hn
    obtain ⟨k, rfl⟩ : ∃ k, n = k + 1 + 1 + 1 + 1 := ⟨n - 4, by omega⟩
    have ih := ih0 (by omega)
    have eo : 5 - (b + 1) + 1 = 5 - b := by omega
    have hE := zp_E.part hT b
    have h0 : zq_X a T (R (k + 1 + 1 + 1) 0) (5 - (b + 1) + 1) (zp_part T b) := by rw [eo]; exact ih (k + 1 + 1 + 1) (by omega)
    have h00 : zq_X a T (R (k + 1) 0) (5 - (b + 1) + 1) (zp_part T b) := by rw [eo]; exact ih (k + 1) (by omega)
    have h1 : zq_X a T (R (k + 1 + 1) 1) (5 - (b + 1) + 1) (zp_both T (zp_part T b)) := by rw [r1]; exact zq_every h00 hE
    have h2 : zq_X a T (R (k + 1 + 1 + 1) 2) (5 - (b + 1) + 1) (zp_either T (zp_part T b)) := by rw [r2]; exact zq_some h1 (hE.both hT)
    rw [r0]
    exact zq_factorS (by omega) h0 h2 hE rfl
theorem zq_X12_some (hT : T.length ≤ 100) : zq_X a T zf_X12_some 0 (zp_either T (zp_part T 5)) := by
  have r0 : ∀ n, zj_rec zg_X12_factor (n + 1) 0 = zj_run 5 (zb_X12_factor_0 (zj_rec zg_X12_factor n)) := fun n => (zj_rec_s _ n 0).trans (zg_fa0 _)
  have r1 : ∀ n, zj_rec zg_X12_factor (n + 1) 1 = zj_run 1 (zb_X12_every_0 (zj_rec zg_X12_factor n)) := fun n => (zj_rec_s _ n 1).trans (zg_fa1 _)
  have r2 : ∀ n, zj_rec zg_X12_factor (n + 1) 2 = zj_run 1 (zb_X12_some_0 (zj_rec zg_X12_factor n)) := fun n => (zj_rec_s _ n 2).trans (zg_fa2 _)
  have e : zf_X12_some = zj_rec zg_X12_factor (39 + 1) 2 := rfl
  have h0 := zq_rec_part (a := a) (T := T) r0 r1 r2 hT 5 (by omega) 38 (by omega)
  generalize zj_rec zg_X12_factor = R at r0 r1 r2 e h0
  have h0 : zq_X a T (R 38 0) 0 (zp_part T 5) := h0
  have h1 : zq_X a T (R (38 + 1) 1) 0 (zp_both T (zp_part T 5)) := by rw [r1]; exact zq_every h0 (zp_E.part hT 5)
  rw [e, r2]
  exact zq_some h1 ((zp_E.part hT 5).both hT)
end ZQ
