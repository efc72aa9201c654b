/-! SUM with what is remembered -/
def za_f (w kd v c mu s : Nat) (x : Nat) : Nat := if x = 0 then w else if x = 1 then kd else if x = 2 then v else if x = 3 then c else if x = 4 then mu else s
def za_cache (m : zj_M) (G : Nat → List (Nat × Nat)) (N : Nat) : Prop := N ≤ 600 ∧ (∀ e, 1 ≤ e → e ≤ N → za_wf (G e) 0 10 = true) ∧ ∀ w s c mu, w < 6 → s < 10 → c < 16 → mu < 4 → ∃ key val, m 13 (((w * 10 + s) * 16 + c) * 4 + mu) = nI (key * 2048 + val) ∧ key < (N + 1) * 70 ∧ val < 2048 ∧ ∀ e kd v, 1 ≤ e → e ≤ N → kd < 7 → v < 10 → key = (e * 7 + kd) * 10 + v → (val : Int) = za_ev (za_f w kd v c mu s) (G e) [] 0 + 1024
theorem iI_nsub (a b : Nat) : nI a - nI b = iI (a - b) := by
  have : nI a = iI a := rfl
  rw [this, iI_sub]
theorem iI_nat {s : Int} {v : Nat} (h : s = v) : iI s = nI v := by subst h; rfl
theorem za_or11 {a b : Nat} (h : b < 2048) : a * 2 ^ 11 ||| b = a * 2048 + b := by
  have := Nat.two_pow_add_eq_or_of_lt (i := 11) (b := b) (by omega) a
  rw [Nat.mul_comm a, ← this]
section ZQ
variable {q : Nat} {m : zj_M} {P : List (Nat × Nat)} {G : Nat → List (Nat × Nat)} {N ed w kd v c mu s : Nat}
theorem zt_X2_sumOf (hl : za_pl q) (hq : q ≠ 13 ∧ q + 1 ≠ 13 ∧ q + 2 ≠ 13 ∧ q + 3 ≠ 13) (hC : za_C q m P) (he : m q 1 = nI ed) (hP : P ≠ [] → 1 ≤ ed ∧ ed ≤ N ∧ G ed = P) (hX : za_cache m G N) (hw : w < 6) (hk : kd < 7) (hv : v < 10) (hc : c < 16) (hmu : mu < 4) (hs : s < 10) :
    ∃ m', zf_X2_sumOf [.ref q, .int (nI w), .int (nI kd), .int (nI v), .int (nI c), .int (nI mu), .int (nI s)] m = some ([.int (iI (za_ev (za_f w kd v c mu s) P [] 0))], m') ∧ za_cache m' G N ∧ ∀ u j, u ≠ 13 → u ≠ q + 3 → m' u j = m u j := by
  have G' := hl.g
  have a := hl.a
  have hcl := hl.c
  obtain ⟨c1, c2, c3⟩ := id hC
  cases P with
  | nil =>
    refine ⟨m, ?_, hX, fun _ _ _ _ => rfl⟩
    simp (disch := first | omega | assumption | decide +kernel | exact Nat.le_of_ble_eq_true rfl) only [↓zx_push, ↓zx_ild0, ↓zx_ald0, ↓zx_lld0, ↓zx_ist0, ↓zx_ast0, ↓zx_inc0, ↓zx_ild1, ↓zx_ald1, ↓zx_lld1, ↓zx_ist1i, ↓zx_ist1r, ↓zx_ist1n, ↓zx_ast1i, ↓zx_ast1r, ↓zx_ast1n, ↓zx_inc1i, ↓zx_inc1r, ↓zx_inc1n, ↓zx_ild2, ↓zx_ald2, ↓zx_lld2, ↓zx_ist2i, ↓zx_ist2r, ↓zx_ist2n, ↓zx_ast2i, ↓zx_ast2r, ↓zx_ast2n, ↓zx_inc2i, ↓zx_inc2r, ↓zx_inc2n, ↓zx_ild3, ↓zx_ald3, ↓zx_lld3, ↓zx_ist3i, ↓zx_ist3r, ↓zx_ist3n, ↓zx_ast3i, ↓zx_ast3r, ↓zx_ast3n, ↓zx_inc3i, ↓zx_inc3r, ↓zx_inc3n, ↓zx_ild4, ↓zx_ald4, ↓zx_lld4, ↓zx_ist4i, ↓zx_ist4r, ↓zx_ist4n, ↓zx_ast4i, ↓zx_ast4r, ↓zx_ast4n, ↓zx_inc4i, ↓zx_inc4r, ↓zx_inc4n, ↓zx_ild5, ↓zx_ald5, ↓zx_lld5, ↓zx_ist5i, ↓zx_ist5r, ↓zx_ist5n, ↓zx_ast5i, ↓zx_ast5r, ↓zx_ast5n, ↓zx_inc5i, ↓zx_inc5r, ↓zx_inc5n, ↓zx_ild6, ↓zx_ald6, ↓zx_lld6, ↓zx_ist6i, ↓zx_ist6r, ↓zx_ist6n, ↓zx_ast6i, ↓zx_ast6r, ↓zx_ast6n, ↓zx_inc6i, ↓zx_inc6r, ↓zx_inc6n, ↓zx_ild7, ↓zx_ald7, ↓zx_lld7, ↓zx_ist7i, ↓zx_ist7r, ↓zx_ist7n, ↓zx_ast7i, ↓zx_ast7r, ↓zx_ast7n, ↓zx_inc7i, ↓zx_inc7r, ↓zx_inc7n, ↓zx_ild8, ↓zx_ald8, ↓zx_lld8, ↓zx_ist8i, ↓zx_ist8r, ↓zx_ist8n, ↓zx_ast8i, ↓zx_ast8r, ↓zx_ast8n, ↓zx_inc8i, ↓zx_inc8r, ↓zx_inc8n, ↓zx_ild9, ↓zx_ald9, ↓zx_lld9, ↓zx_ist9i, ↓zx_ist9r, ↓zx_ist9n, ↓zx_ast9i, ↓zx_ast9r, ↓zx_ast9n, ↓zx_inc9i, ↓zx_inc9r, ↓zx_inc9n, ↓zx_ild10, ↓zx_ald10, ↓zx_lld10, ↓zx_ist10i, ↓zx_ist10r, ↓zx_ist10n, ↓zx_ast10i, ↓zx_ast10r, ↓zx_ast10n, ↓zx_inc10i, ↓zx_inc10r, ↓zx_inc10n, ↓zx_b, ↓zx_u, ↓zx_i2l, ↓zx_lb, ↓zx_lu, ↓zx_lcmp, ↓zx_dupi, ↓zx_dupr, ↓zx_dup2, ↓zx_pop, zx_ceq_t, zx_ceq_f, zx_clt_t, zx_clt_f, zx_cle_t, zx_cle_f, zx_eq_t, zx_eq_f, zx_lt_t, zx_lt_f, zx_le_t, zx_le_f, zx_eq_b, zx_rem, zx_div, zx_go0, zx_go1, ↓zx_call0, ↓zx_call1, ↓zx_call2, ↓zx_call3, ↓zx_call4, ↓zx_call5, ↓zx_call6, ↓zx_call7, ↓zx_vc0, ↓zx_vn0, ↓zx_vc1, ↓zx_vn1, ↓zx_vc2, ↓zx_vn2, ↓zx_vc3, ↓zx_vn3, ↓zx_vc4, ↓zx_vn4, ↓zx_vc5, ↓zx_vn5, ↓zx_vc6, ↓zx_vn6, ↓zx_sc0, ↓zx_sc1, ↓zx_sc2, ↓zx_mmin, ↓zx_mmax, zx_ret0, zx_reti, zx_retl, zx_reta, zx_retz, zx_retz0, zx_retz1, zj_run, zj_e0, zj_E0, List.length_cons, List.length_nil, List.cons_append, List.nil_append, List.reduceReplicate, Nat.reduceLeDiff, Nat.reduceAdd, Nat.reduceSub, Nat.zero_add, Nat.zero_le, Nat.le_refl, reduceIte, ↓zf_X2_sumOf, ↓zb_X2_sumOf_0, ↓G', a, c1, zl_c]
    rfl
  | cons e0 P0 =>
    obtain ⟨p1, p2, p3⟩ := hP (by simp)
    obtain ⟨x1, x2, x3⟩ := id hX
    obtain ⟨key, val, y1, y2, y3, y4⟩ := x3 w s c mu hw hs hc hmu
    have hsl : ((w * 10 + s) * 16 + c) * 4 + mu < 3840 := by omega
    have hlen : ¬ (e0 :: P0).length = 0 := by simp
    have hlen2 : (e0 :: P0).length < 2 ^ 31 := by omega
    have hkey : (ed * 7 + kd) * 10 + v < 43000 := by omega
    generalize hPe : e0 :: P0 = P at *
    have hwf := x2 ed p1 p2
    rw [p3] at hwf
    have hb := za_ev_bound (za_f w kd v c mu s) P [] 0 10 0 hwf (by omega)
    by_cases hkk : key = (ed * 7 + kd) * 10 + v
    · have y5 := y4 ed kd v p1 p2 hk hv hkk
      rw [p3] at y5
      refine ⟨m, ?_, hX, fun _ _ _ _ => rfl⟩
      have e1 : nI (key * 2048 + val) >>> (nI 11 &&& nI 31) = nI ((ed * 7 + kd) * 10 + v) := by
        rw [zl_shr (by omega) (by omega)]
        congr 1
        omega
      have e2 : nI (key * 2048 + val) &&& nI 2047 = nI val := by
        rw [pk_andN (by omega) 11 (by decide)]
        congr 1
        omega
      have e3 : nI val - nI 1024 = iI (za_ev (za_f w kd v c mu s) P [] 0) := by
        rw [iI_nsub]
        congr 1
        omega
      simp (disch := first | omega | assumption | decide +kernel | exact Nat.le_of_ble_eq_true rfl) only [↓zx_push, ↓zx_ild0, ↓zx_ald0, ↓zx_lld0, ↓zx_ist0, ↓zx_ast0, ↓zx_inc0, ↓zx_ild1, ↓zx_ald1, ↓zx_lld1, ↓zx_ist1i, ↓zx_ist1r, ↓zx_ist1n, ↓zx_ast1i, ↓zx_ast1r, ↓zx_ast1n, ↓zx_inc1i, ↓zx_inc1r, ↓zx_inc1n, ↓zx_ild2, ↓zx_ald2, ↓zx_lld2, ↓zx_ist2i, ↓zx_ist2r, ↓zx_ist2n, ↓zx_ast2i, ↓zx_ast2r, ↓zx_ast2n, ↓zx_inc2i, ↓zx_inc2r, ↓zx_inc2n, ↓zx_ild3, ↓zx_ald3, ↓zx_lld3, ↓zx_ist3i, ↓zx_ist3r, ↓zx_ist3n, ↓zx_ast3i, ↓zx_ast3r, ↓zx_ast3n, ↓zx_inc3i, ↓zx_inc3r, ↓zx_inc3n, ↓zx_ild4, ↓zx_ald4, ↓zx_lld4, ↓zx_ist4i, ↓zx_ist4r, ↓zx_ist4n, ↓zx_ast4i, ↓zx_ast4r, ↓zx_ast4n, ↓zx_inc4i, ↓zx_inc4r, ↓zx_inc4n, ↓zx_ild5, ↓zx_ald5, ↓zx_lld5, ↓zx_ist5i, ↓zx_ist5r, ↓zx_ist5n, ↓zx_ast5i, ↓zx_ast5r, ↓zx_ast5n, ↓zx_inc5i, ↓zx_inc5r, ↓zx_inc5n, ↓zx_ild6, ↓zx_ald6, ↓zx_lld6, ↓zx_ist6i, ↓zx_ist6r, ↓zx_ist6n, ↓zx_ast6i, ↓zx_ast6r, ↓zx_ast6n, ↓zx_inc6i, ↓zx_inc6r, ↓zx_inc6n, ↓zx_ild7, ↓zx_ald7, ↓zx_lld7, ↓zx_ist7i, ↓zx_ist7r, ↓zx_ist7n, ↓zx_ast7i, ↓zx_ast7r, ↓zx_ast7n, ↓zx_inc7i, ↓zx_inc7r, ↓zx_inc7n, ↓zx_ild8, ↓zx_ald8, ↓zx_lld8, ↓zx_ist8i, ↓zx_ist8r, ↓zx_ist8n, ↓zx_ast8i, ↓zx_ast8r, ↓zx_ast8n, ↓zx_inc8i, ↓zx_inc8r, ↓zx_inc8n, ↓zx_ild9, ↓zx_ald9, ↓zx_lld9, ↓zx_ist9i, ↓zx_ist9r, ↓zx_ist9n, ↓zx_ast9i, ↓zx_ast9r, ↓zx_ast9n, ↓zx_inc9i, ↓zx_inc9r, ↓zx_inc9n, ↓zx_ild10, ↓zx_ald10, ↓zx_lld10, ↓zx_ist10i, ↓zx_ist10r, ↓zx_ist10n, ↓zx_ast10i, ↓zx_ast10r, ↓zx_ast10n, ↓zx_inc10i, ↓zx_inc10r, ↓zx_inc10n, ↓zx_b, ↓zx_u, ↓zx_i2l, ↓zx_lb, ↓zx_lu, ↓zx_lcmp, ↓zx_dupi, ↓zx_dupr, ↓zx_dup2, ↓zx_pop, zx_ceq_t, zx_ceq_f, zx_clt_t, zx_clt_f, zx_cle_t, zx_cle_f, zx_eq_t, zx_eq_f, zx_lt_t, zx_lt_f, zx_le_t, zx_le_f, zx_eq_b, zx_rem, zx_div, zx_go0, zx_go1, ↓zx_call0, ↓zx_call1, ↓zx_call2, ↓zx_call3, ↓zx_call4, ↓zx_call5, ↓zx_call6, ↓zx_call7, ↓zx_vc0, ↓zx_vn0, ↓zx_vc1, ↓zx_vn1, ↓zx_vc2, ↓zx_vn2, ↓zx_vc3, ↓zx_vn3, ↓zx_vc4, ↓zx_vn4, ↓zx_vc5, ↓zx_vn5, ↓zx_vc6, ↓zx_vn6, ↓zx_sc0, ↓zx_sc1, ↓zx_sc2, ↓zx_mmin, ↓zx_mmax, zx_ret0, zx_reti, zx_retl, zx_reta, zx_retz, zx_retz0, zx_retz1, zj_run, zj_e0, zj_E0, List.length_cons, List.length_nil, List.cons_append, List.nil_append, List.reduceReplicate, Nat.reduceLeDiff, Nat.reduceAdd, Nat.reduceSub, Nat.zero_add, Nat.zero_le, Nat.le_refl, reduceIte, ↓zf_X2_sumOf, ↓zb_X2_sumOf_0, ↓zb_X2_sumOf_126, ↓G', a, c1, zl_c, pk_mul, nI_add, he, za_sums, y1, e1, e2, e3]
    · obtain ⟨V, hV⟩ : ∃ V : Nat, za_ev (za_f w kd v c mu s) P [] 0 + 1024 = V := ⟨(za_ev (za_f w kd v c mu s) P [] 0 + 1024).toNat, by omega⟩
      have hV2 : V < 2048 := by omega
      have e1 : nI (key * 2048 + val) >>> (nI 11 &&& nI 31) = nI key := by
        rw [zl_shr (by omega) (by omega)]
        congr 1
        omega
      let m6 := zj_st (zj_st (zj_st (zj_st (zj_st (zj_st m (q + 3) 0 (nI w)) (q + 3) 1 (nI kd)) (q + 3) 2 (nI v)) (q + 3) 3 (nI c)) (q + 3) 4 (nI mu)) (q + 3) 5 (nI s)
      have h6 : ∀ u j, u ≠ q + 3 → m6 u j = m u j := fun u j hu => by
        show zj_st _ _ _ _ u j = _
        rw [zj_st_n (by omega), zj_st_n (by omega), zj_st_n (by omega), zj_st_n (by omega), zj_st_n (by omega), zj_st_n (by omega)]
      have hF : ∀ x, x < 6 → m6 (q + 3) x = nI (za_f w kd v c mu s x) := by
        intro x hx
        rcases (show x = 0 ∨ x = 1 ∨ x = 2 ∨ x = 3 ∨ x = 4 ∨ x = 5 by omega) with rfl | rfl | rfl | rfl | rfl | rfl <;> simp [m6, zj_st, za_f]
      have hC6 : za_C q m6 P := ⟨by rw [h6 _ _ (by omega)]; exact c1, c2, fun j hj => by rw [h6 _ _ (by omega), h6 _ _ (by omega)]; exact c3 j hj⟩
      have hfb : ∀ x, x < 6 → za_f w kd v c mu s x < 100 := by
        intro x hx
        rcases (show x = 0 ∨ x = 1 ∨ x = 2 ∨ x = 3 ∨ x = 4 ∨ x = 5 by omega) with rfl | rfl | rfl | rfl | rfl | rfl <;> simp [za_f] <;> omega
      have eS := zt_X2_sumOfFacts hl hfb hC6 hF hwf
      have e4 : iI (za_ev (za_f w kd v c mu s) P [] 0) + nI 1024 = nI V := by rw [iI_add]; exact iI_nat (by omega)
      have e5 : nI ((ed * 7 + kd) * 10 + v) <<< (nI 11 &&& nI 31) = nI (((ed * 7 + kd) * 10 + v) * 2 ^ 11) := zl_shl (by omega) (by omega)
      have e6 : nI (((ed * 7 + kd) * 10 + v) * 2 ^ 11) ||| nI V = nI (((ed * 7 + kd) * 10 + v) * 2048 + V) := by rw [zl_or, za_or11 hV2]
      have e2 : nI (((ed * 7 + kd) * 10 + v) * 2048 + V) &&& nI 2047 = nI V := by
        rw [pk_andN (by omega) 11 (by decide)]
        congr 1
        omega
      have e3 : nI V - nI 1024 = iI (za_ev (za_f w kd v c mu s) P [] 0) := by
        rw [iI_nsub]
        congr 1
        omega
      refine ⟨zj_st m6 13 (((w * 10 + s) * 16 + c) * 4 + mu) (nI (((ed * 7 + kd) * 10 + v) * 2048 + V)), ?_, ⟨x1, x2, ?_⟩, fun u j h1 h2 => ?_⟩
      · have y6 : zj_st m6 13 (((w * 10 + s) * 16 + c) * 4 + mu) (nI (((ed * 7 + kd) * 10 + v) * 2048 + V)) 13 (((w * 10 + s) * 16 + c) * 4 + mu) = nI (((ed * 7 + kd) * 10 + v) * 2048 + V) := zj_st_s _ _ _ _
        simp only [m6] at eS y6
        simp (disch := first | omega | assumption | decide +kernel | exact Nat.le_of_ble_eq_true rfl) only [↓zx_push, ↓zx_ild0, ↓zx_ald0, ↓zx_lld0, ↓zx_ist0, ↓zx_ast0, ↓zx_inc0, ↓zx_ild1, ↓zx_ald1, ↓zx_lld1, ↓zx_ist1i, ↓zx_ist1r, ↓zx_ist1n, ↓zx_ast1i, ↓zx_ast1r, ↓zx_ast1n, ↓zx_inc1i, ↓zx_inc1r, ↓zx_inc1n, ↓zx_ild2, ↓zx_ald2, ↓zx_lld2, ↓zx_ist2i, ↓zx_ist2r, ↓zx_ist2n, ↓zx_ast2i, ↓zx_ast2r, ↓zx_ast2n, ↓zx_inc2i, ↓zx_inc2r, ↓zx_inc2n, ↓zx_ild3, ↓zx_ald3, ↓zx_lld3, ↓zx_ist3i, ↓zx_ist3r, ↓zx_ist3n, ↓zx_ast3i, ↓zx_ast3r, ↓zx_ast3n, ↓zx_inc3i, ↓zx_inc3r, ↓zx_inc3n, ↓zx_ild4, ↓zx_ald4, ↓zx_lld4, ↓zx_ist4i, ↓zx_ist4r, ↓zx_ist4n, ↓zx_ast4i, ↓zx_ast4r, ↓zx_ast4n, ↓zx_inc4i, ↓zx_inc4r, ↓zx_inc4n, ↓zx_ild5, ↓zx_ald5, ↓zx_lld5, ↓zx_ist5i, ↓zx_ist5r, ↓zx_ist5n, ↓zx_ast5i, ↓zx_ast5r, ↓zx_ast5n, ↓zx_inc5i, ↓zx_inc5r, ↓zx_inc5n, ↓zx_ild6, ↓zx_ald6, ↓zx_lld6, ↓zx_ist6i, ↓zx_ist6r, ↓zx_ist6n, ↓zx_ast6i, ↓zx_ast6r, ↓zx_ast6n, ↓zx_inc6i, ↓zx_inc6r, ↓zx_inc6n, ↓zx_ild7, ↓zx_ald7, ↓zx_lld7, ↓zx_ist7i, ↓zx_ist7r, ↓zx_ist7n, ↓zx_ast7i, ↓zx_ast7r, ↓zx_ast7n, ↓zx_inc7i, ↓zx_inc7r, ↓zx_inc7n, ↓zx_ild8, ↓zx_ald8, ↓zx_lld8, ↓zx_ist8i, ↓zx_ist8r, ↓zx_ist8n, ↓zx_ast8i, ↓zx_ast8r, ↓zx_ast8n, ↓zx_inc8i, ↓zx_inc8r, ↓zx_inc8n, ↓zx_ild9, ↓zx_ald9, ↓zx_lld9, ↓zx_ist9i, ↓zx_ist9r, ↓zx_ist9n, ↓zx_ast9i, ↓zx_ast9r, ↓zx_ast9n, ↓zx_inc9i, ↓zx_inc9r, ↓zx_inc9n, ↓zx_ild10, ↓zx_ald10, ↓zx_lld10, ↓zx_ist10i, ↓zx_ist10r, ↓zx_ist10n, ↓zx_ast10i, ↓zx_ast10r, ↓zx_ast10n, ↓zx_inc10i, ↓zx_inc10r, ↓zx_inc10n, ↓zx_b, ↓zx_u, ↓zx_i2l, ↓zx_lb, ↓zx_lu, ↓zx_lcmp, ↓zx_dupi, ↓zx_dupr, ↓zx_dup2, ↓zx_pop, zx_ceq_t, zx_ceq_f, zx_clt_t, zx_clt_f, zx_cle_t, zx_cle_f, zx_eq_t, zx_eq_f, zx_lt_t, zx_lt_f, zx_le_t, zx_le_f, zx_eq_b, zx_rem, zx_div, zx_go0, zx_go1, ↓zx_call0, ↓zx_call1, ↓zx_call2, ↓zx_call3, ↓zx_call4, ↓zx_call5, ↓zx_call6, ↓zx_call7, ↓zx_vc0, ↓zx_vn0, ↓zx_vc1, ↓zx_vn1, ↓zx_vc2, ↓zx_vn2, ↓zx_vc3, ↓zx_vn3, ↓zx_vc4, ↓zx_vn4, ↓zx_vc5, ↓zx_vn5, ↓zx_vc6, ↓zx_vn6, ↓zx_sc0, ↓zx_sc1, ↓zx_sc2, ↓zx_mmin, ↓zx_mmax, zx_ret0, zx_reti, zx_retl, zx_reta, zx_retz, zx_retz0, zx_retz1, zj_run, zj_e0, zj_E0, List.length_cons, List.length_nil, List.cons_append, List.nil_append, List.reduceReplicate, Nat.reduceLeDiff, Nat.reduceAdd, Nat.reduceSub, Nat.zero_add, Nat.zero_le, Nat.le_refl, reduceIte, ↓zf_X2_sumOf, ↓zb_X2_sumOf_0, ↓zb_X2_sumOf_126, ↓G', a, c1, zl_c, pk_mul, nI_add, he, za_sums, za_sumsW, y1, e1, e2, e3, e4, e5, e6, eS, y6, m6]
      · intro w' s' c' mu' hw' hs' hc' hmu'
        by_cases hsame : ((w' * 10 + s') * 16 + c') * 4 + mu' = ((w * 10 + s) * 16 + c) * 4 + mu
        · have i1 : w' = w ∧ s' = s ∧ c' = c ∧ mu' = mu := by omega
          obtain ⟨rfl, rfl, rfl, rfl⟩ := i1
          refine ⟨(ed * 7 + kd) * 10 + v, V, zj_st_s _ _ _ _, by omega, hV2, fun e kd' v' g1 g2 g3 g4 g5 => ?_⟩
          have i2 : e = ed ∧ kd' = kd ∧ v' = v := by omega
          obtain ⟨rfl, rfl, rfl⟩ := i2
          rw [p3]
          exact hV.symm
        · rw [zj_st_n (by omega), h6 _ _ (by omega)]
          exact x3 w' s' c' mu' hw' hs' hc' hmu'
      · rw [zj_st_n (by omega), h6 _ _ h2]
end ZQ
