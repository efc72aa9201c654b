/-! a walker more -/
theorem za_R.many {r : Nat} {m : zj_M} {B : za_A} (h : za_R r m B) {x : Nat} : za_R r (zj_st m r 7 (nI x)) (za_up B 0 0 x) := by
  obtain ⟨⟨n1, n2, n3⟩, ⟨aw, e1, e2, e3⟩, r1, r2, r3, r4, r5, r6, r7⟩ := h
  refine ⟨⟨?_, ?_, ?_⟩, ⟨aw, ?_, e2, fun j hj => ?_⟩, fun j hj => ?_, fun j hj => ?_, fun j hj => ?_, fun j hj => ?_, fun j hj => ?_, fun j hj => ?_, fun j hj => ?_⟩
  · rw [zj_st_s, za_up_s]
  · rw [zj_st_n (by omega), za_up_n (by omega)]; exact n2
  · rw [zj_st_n (by omega), za_up_n (by omega)]; exact n3
  · rw [zj_st_n (by omega)]; exact e1
  · rw [za_up_n (by omega)]; exact e3 j hj
  · rw [zj_st_n (by omega), za_up_n (by omega)]; exact r1 j hj
  · rw [zj_st_n (by omega), za_up_n (by omega)]; exact r2 j hj
  · rw [zj_st_n (by omega), za_up_n (by omega)]; exact r3 j hj
  · rw [zj_st_n (by omega), za_up_n (by omega)]; exact r4 j hj
  · rw [zj_st_n (by omega), za_up_n (by omega)]; exact r5 j hj
  · rw [zj_st_n (by omega), za_up_n (by omega)]; exact r6 j hj
  · rw [zj_st_n (by omega), za_up_n (by omega)]; exact r7 j hj
def za_add5 (A : za_A) (kd v c mu : Nat) : za_A := za_up (za_up (za_up (za_up (za_up A 2 (A 0 0) kd) 3 (A 0 0) v) 4 (A 0 0) c) 5 (A 0 0) mu) 7 (A 0 0) 0
def za_rows0 (B : za_A) (w : Nat) : za_A := za_up (za_up (za_up (za_up B 8 (w * 4 + 0) 0) 8 (w * 4 + 1) 0) 8 (w * 4 + 2) 0) 8 (w * 4 + 3) 0
def za_add (A : za_A) (kd v c mu : Nat) : za_A := za_up (za_up (za_rows0 (za_add5 A kd v c mu) (A 0 0)) 6 (A 0 0) 0) 0 0 (A 0 0 + 1)
section ZQ
variable {r pk : Nat} {m : zj_M} {A : za_A}
theorem zt_X4_add (hl : za_lay r pk) (hR : za_R r m A) {kd v c mu : Nat} (hw : A 0 0 < 6) : ∃ m', zf_X4_add [.ref r, .int (nI kd), .int (nI v), .int (nI c), .int (nI mu)] m = some ([.int (nI (A 0 0))], m') ∧ za_R r m' (za_add A kd v c mu) ∧ ∀ u j, (u < r ∨ r + 7 < u ∨ u = r + 1 ∨ (u = r ∧ j ≠ 7 ∧ j ≠ 10)) → m' u j = m u j := by
  have Gr := hl.g
  have a := hl.a
  have hcl := hl.o.1.1
  have n1 := hR.1.1
  generalize hW : A 0 0 = w at *
  have h1 : za_R r (zj_st m (r + 2) w (nI kd)) (za_up A 2 w kd) := hR.put (by omega)
  have h2 : za_R r (zj_st (zj_st m (r + 2) w (nI kd)) (r + 3) w (nI v)) (za_up (za_up A 2 w kd) 3 w v) := h1.put (by omega)
  have h3 : za_R r (zj_st (zj_st (zj_st m (r + 2) w (nI kd)) (r + 3) w (nI v)) (r + 4) w (nI c)) (za_up (za_up (za_up A 2 w kd) 3 w v) 4 w c) := h2.put (by omega)
  have h4 : za_R r (zj_st (zj_st (zj_st (zj_st m (r + 2) w (nI kd)) (r + 3) w (nI v)) (r + 4) w (nI c)) (r + 5) w (nI mu)) (za_up (za_up (za_up (za_up A 2 w kd) 3 w v) 4 w c) 5 w mu) := h3.put (by omega)
  have h5 : za_R r (zj_st (zj_st (zj_st (zj_st (zj_st m (r + 2) w (nI kd)) (r + 3) w (nI v)) (r + 4) w (nI c)) (r + 5) w (nI mu)) (r + 6) w (nI 0)) (za_add5 A kd v c mu) := by
    unfold za_add5
    rw [hW]
    exact h4.put (by omega)
  generalize hm5 : zj_st (zj_st (zj_st (zj_st (zj_st m (r + 2) w (nI kd)) (r + 3) w (nI v)) (r + 4) w (nI c)) (r + 5) w (nI mu)) (r + 6) w (nI 0) = m5 at h5
  have f5 : ∀ u j, (u < r + 2 ∨ r + 6 < u) → m5 u j = m u j := fun u j hu => by
    rw [← hm5, zj_st_n (by omega), zj_st_n (by omega), zj_st_n (by omega), zj_st_n (by omega), zj_st_n (by omega)]
  have h6 : za_R r (zj_st (zj_st (zj_st (zj_st m5 (r + 7) (w * 4 + 0) (nI 0)) (r + 7) (w * 4 + 1) (nI 0)) (r + 7) (w * 4 + 2) (nI 0)) (r + 7) (w * 4 + 3) (nI 0)) (za_rows0 (za_add5 A kd v c mu) w) := by
    unfold za_rows0
    exact (((h5.put (f := 8) (o := 7) (by omega)).put (f := 8) (o := 7) (by omega)).put (f := 8) (o := 7) (by omega)).put (f := 8) (o := 7) (by omega)
  generalize hm6 : zj_st (zj_st (zj_st (zj_st m5 (r + 7) (w * 4 + 0) (nI 0)) (r + 7) (w * 4 + 1) (nI 0)) (r + 7) (w * 4 + 2) (nI 0)) (r + 7) (w * 4 + 3) (nI 0) = m6 at h6
  have f6 : ∀ u j, u ≠ r + 7 → m6 u j = m5 u j := fun u j hu => by
    rw [← hm6, zj_st_n (by omega), zj_st_n (by omega), zj_st_n (by omega), zj_st_n (by omega)]
  obtain ⟨m7, p1, p2, p3⟩ := zt_X4_putAway hl h6 (w := w) (b := 0) hw (by omega)
  have n7 : m7 r 7 = nI w := by rw [p3 _ _ (by omega), f6 _ _ (by omega), f5 _ _ (by omega)]; exact n1
  refine ⟨zj_st m7 r 7 (nI (w + 1)), ?_, ?_, fun u j hu => ?_⟩
  · have eL : zj_lp zb_X4_add_50 zj_fu = zb_X4_add_50 (zb_X4_add_50 (zb_X4_add_50 (zb_X4_add_50 (zb_X4_add_50 (zj_lp zb_X4_add_50 4995))))) := rfl
    simp (disch := first | omega | assumption | decide +kernel | exact Nat.le_of_ble_eq_true rfl) only [↓zx_push, ↓zx_ild0, ↓zx_ald0, ↓zx_lld0, ↓zx_ist0, ↓zx_ast0, ↓zx_inc0, ↓zx_ild1, ↓zx_ald1, ↓zx_lld1, ↓zx_ist1i, ↓zx_ist1r, ↓zx_ist1n, ↓zx_ast1i, ↓zx_ast1r, ↓zx_ast1n, ↓zx_inc1i, ↓zx_inc1r, ↓zx_inc1n, ↓zx_ild2, ↓zx_ald2, ↓zx_lld2, ↓zx_ist2i, ↓zx_ist2r, ↓zx_ist2n, ↓zx_ast2i, ↓zx_ast2r, ↓zx_ast2n, ↓zx_inc2i, ↓zx_inc2r, ↓zx_inc2n, ↓zx_ild3, ↓zx_ald3, ↓zx_lld3, ↓zx_ist3i, ↓zx_ist3r, ↓zx_ist3n, ↓zx_ast3i, ↓zx_ast3r, ↓zx_ast3n, ↓zx_inc3i, ↓zx_inc3r, ↓zx_inc3n, ↓zx_ild4, ↓zx_ald4, ↓zx_lld4, ↓zx_ist4i, ↓zx_ist4r, ↓zx_ist4n, ↓zx_ast4i, ↓zx_ast4r, ↓zx_ast4n, ↓zx_inc4i, ↓zx_inc4r, ↓zx_inc4n, ↓zx_ild5, ↓zx_ald5, ↓zx_lld5, ↓zx_ist5i, ↓zx_ist5r, ↓zx_ist5n, ↓zx_ast5i, ↓zx_ast5r, ↓zx_ast5n, ↓zx_inc5i, ↓zx_inc5r, ↓zx_inc5n, ↓zx_ild6, ↓zx_ald6, ↓zx_lld6, ↓zx_ist6i, ↓zx_ist6r, ↓zx_ist6n, ↓zx_ast6i, ↓zx_ast6r, ↓zx_ast6n, ↓zx_inc6i, ↓zx_inc6r, ↓zx_inc6n, ↓zx_ild7, ↓zx_ald7, ↓zx_lld7, ↓zx_ist7i, ↓zx_ist7r, ↓zx_ist7n, ↓zx_ast7i, ↓zx_ast7r, ↓zx_ast7n, ↓zx_inc7i, ↓zx_inc7r, ↓zx_inc7n, ↓zx_ild8, ↓zx_ald8, ↓zx_lld8, ↓zx_ist8i, ↓zx_ist8r, ↓zx_ist8n, ↓zx_ast8i, ↓zx_ast8r, ↓zx_ast8n, ↓zx_inc8i, ↓zx_inc8r, ↓zx_inc8n, ↓zx_ild9, ↓zx_ald9, ↓zx_lld9, ↓zx_ist9i, ↓zx_ist9r, ↓zx_ist9n, ↓zx_ast9i, ↓zx_ast9r, ↓zx_ast9n, ↓zx_inc9i, ↓zx_inc9r, ↓zx_inc9n, ↓zx_ild10, ↓zx_ald10, ↓zx_lld10, ↓zx_ist10i, ↓zx_ist10r, ↓zx_ist10n, ↓zx_ast10i, ↓zx_ast10r, ↓zx_ast10n, ↓zx_inc10i, ↓zx_inc10r, ↓zx_inc10n, ↓zx_b, ↓zx_u, ↓zx_i2l, ↓zx_lb, ↓zx_lu, ↓zx_lcmp, ↓zx_dupi, ↓zx_dupr, ↓zx_dup2, ↓zx_pop, zx_ceq_t, zx_ceq_f, zx_clt_t, zx_clt_f, zx_cle_t, zx_cle_f, zx_eq_t, zx_eq_f, zx_lt_t, zx_lt_f, zx_le_t, zx_le_f, zx_eq_b, zx_rem, zx_div, zx_go0, zx_go1, ↓zx_call0, ↓zx_call1, ↓zx_call2, ↓zx_call3, ↓zx_call4, ↓zx_call5, ↓zx_call6, ↓zx_call7, ↓zx_vc0, ↓zx_vn0, ↓zx_vc1, ↓zx_vn1, ↓zx_vc2, ↓zx_vn2, ↓zx_vc3, ↓zx_vn3, ↓zx_vc4, ↓zx_vn4, ↓zx_vc5, ↓zx_vn5, ↓zx_vc6, ↓zx_vn6, ↓zx_sc0, ↓zx_sc1, ↓zx_sc2, ↓zx_mmin, ↓zx_mmax, zx_ret0, zx_reti, zx_retl, zx_reta, zx_retz, zx_retz0, zx_retz1, zj_run, zj_e0, zj_E0, List.length_cons, List.length_nil, List.cons_append, List.nil_append, List.reduceReplicate, Nat.reduceLeDiff, Nat.reduceAdd, Nat.reduceSub, Nat.zero_add, Nat.zero_le, Nat.le_refl, reduceIte, ↓zf_X4_add, ↓zb_X4_add_0, eL, ↓zb_X4_add_50, ↓Gr, a, zl_c, n1, hm5, pk_mul, nI_add, hm6, p1, n7]
  · unfold za_add
    rw [hW]
    exact p2.many
  · rw [zj_st_n (by omega), p3 _ _ (by omega), f6 _ _ (by omega), f5 _ _ (by omega)]
end ZQ
