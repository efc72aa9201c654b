/-! park: the class; what it keeps -/
section ZQ
variable {m m' : zj_M} {A : za_A} {P : List (Nat × Nat)} {ra np : Nat} {T : List Nat} {S : List (Nat × Nat × Nat)} {L : List (Nat × Int32)} {K : List (Nat × Nat)} {kp : Option ze_B} {tr : List Nat} {c : Nat} {G G' : Nat → List (Nat × Nat)} {N : Nat} {B : ze_B}
/-- what is remembered, when another park comes -/
theorem za_cache.grow (h : za_cache m G N) (hN : N + 1 ≤ 600) (hG : ∀ e, 1 ≤ e → e ≤ N → G' e = G e) (hW : za_wf (G' (N + 1)) 0 10 = true) : za_cache m G' (N + 1) := by
  obtain ⟨h1, h2, h3⟩ := h
  refine ⟨hN, fun e e1 e2 => ?_, fun w s c mu hw hs hc hmu => ?_⟩
  · by_cases q : e = N + 1
    · rw [q]; exact hW
    · rw [hG e e1 (by omega)]; exact h2 e e1 (by omega)
  · obtain ⟨key, val, y1, y2, y3, y4⟩ := h3 w s c mu hw hs hc hmu
    have y5 : key < (N + 1 + 1) * 70 := Nat.lt_of_lt_of_le y2 (Nat.mul_le_mul_right 70 (Nat.le_succ _))
    have y6 : ∀ e kd v, 1 ≤ e → e ≤ N + 1 → kd < 7 → v < 10 → key = (e * 7 + kd) * 10 + v → (val : Int) = za_ev (za_f w kd v c mu s) (G' e) [] 0 + 1024 := by
      intro e kd v e1 e2 hk hv hkey
      have el : e ≤ N := by
        rcases Nat.lt_or_ge N e with q | q
        · exfalso
          clear y1 y3 y4 hW hG h2 h3
          omega
        · exact q
      rw [hG e e1 el]
      exact y4 e kd v e1 el hk hv hkey
    exact ⟨key, val, y1, y5, y3, y6⟩
theorem zc_V.grow {b pk : Nat} (h : zc_V b pk m G N B) (hX : za_cache m G' (N + 1)) (hG : ∀ e, 1 ≤ e → e ≤ N → G' e = G e) : zc_V b pk m G' (N + 1) B := by
  obtain ⟨A, P, ra, np, T, S, L, K⟩ := B
  obtain ⟨⟨w1, ⟨k1, ⟨ed, k2, k3⟩, k4, -⟩, w3⟩, w4, w5⟩ := h
  exact ⟨⟨w1, ⟨k1, ⟨ed, k2, fun hP => ⟨(k3 hP).1, by have := (k3 hP).2.1; omega, (hG ed (k3 hP).1 (k3 hP).2.1).trans (k3 hP).2.2⟩⟩, k4, hX⟩, w3⟩, w4, w5⟩
/-- the park that is read is no one's -/
theorem zc_R.fresh (h : zc_R c m B kp tr G N) (hm : zp_f m m') : zc_R c m' B kp tr G N := by
  have hX : za_cache m' G N := h.cache.keep fun j => hm _ _ (by omega)
  obtain ⟨h1, ⟨h2, h3⟩, h4, ⟨h5, h6⟩, h7, h8⟩ := h
  refine ⟨h1.keep hX fun u j hu => hm u j (by omega), ⟨(hm _ _ (by omega)).trans h2, h3⟩, ?_, ⟨h5.keep fun u j hu => hm u j (by omega), h6⟩, (hm _ _ (by omega)).trans h7, (hm _ _ (by omega)).trans h8⟩
  rcases h4 with ⟨h4, h9⟩ | ⟨B2, h4, h9, h10⟩
  · exact Or.inl ⟨h4, (hm _ _ (by omega)).trans h9⟩
  · exact Or.inr ⟨B2, h4, (hm _ _ (by omega)).trans h9, h10.keep hX fun u j hu => hm u j (by omega)⟩
theorem zp_T.of (h : za_Rw 37 m (zc_t T)) (hT : T.length ≤ 100) (hb : ∀ j, j < T.length → T.getD j 0 < 128) : zp_T m T := by
  have e : (zc_t T).length = T.length := by simp [zc_t]
  refine ⟨⟨by rw [← e]; exact h.1, hT⟩, fun j hj => ⟨?_, hb j hj⟩⟩
  have := (h.2 j (by rw [e]; exact hj)).1
  refine this.trans ?_
  unfold zc_t
  rw [List.getD_eq_getElem?_getD, List.getElem?_map, List.getElem?_eq_getElem hj, List.getD_eq_getElem?_getD, List.getElem?_eq_getElem hj]
  rfl
theorem zk_park (hQ : zc_Q c m (A, P, ra, np, T, S, L, K) kp tr) (hok : ze_ok (A, P, ra, np, T, S, L, K)) (hc : c < 600) : ∃ m', zf_X11_park [.ref 0] m = some ([.int (zs_park (A, P, ra, np, T, S, L, K)).1], m') ∧ zc_Q (c + 1) m' (zs_park (A, P, ra, np, T, S, L, K)).2 kp tr ∧ ∀ u j, 90 ≤ u → m' u j = m u j := by
  obtain ⟨G, N, h⟩ := hQ
  have G0 := zg_0
  have G26 := za_wl26.g
  have hw := za_wl26.2.2.1
  have Gw := hw.g
  have hcw := hw.c
  have G18 := za_pl18.g
  have hc18 := za_pl18.c
  have hc14 := za_pl14.c
  obtain ⟨hnp, hT, hTb⟩ := hok.2.2.1
  have hT0 := zp_T.of h.parts.2.1 hT hTb
  have p6 := h.parts.1.2.2
  have c0 : ∀ {m'}, zc_R c m' (A, P, ra, np, T, S, L, K) kp tr G N → zc_R (c + 1) m' (A, P, ra, np, T, S, L, K) kp tr G N := fun h => ⟨h.1, ⟨h.2.1.1, by have := h.2.1.2; omega⟩, h.2.2⟩
  unfold zs_park
  simp only
  by_cases q5 : np = 5
  · rw [if_pos q5]
    rw [q5] at p6
    refine ⟨m, ?_, ⟨G, N, c0 h⟩, fun _ _ _ => rfl⟩
    simp -implicitDefEqProofs (disch := first | omega | assumption | decide +kernel | exact Nat.le_of_ble_eq_true rfl) only [↓zx_push, ↓zx_ild0, ↓zx_ald0, ↓zx_lld0, ↓zx_ist0, ↓zx_ast0, ↓zx_inc0, ↓zx_ild1, ↓zx_ald1, ↓zx_lld1, ↓zx_ist1i, ↓zx_ist1r, ↓zx_ist1n, ↓zx_ast1i, ↓zx_ast1r, ↓zx_ast1n, ↓zx_inc1i, ↓zx_inc1r, ↓zx_inc1n, ↓zx_ild2, ↓zx_ald2, ↓zx_lld2, ↓zx_ist2i, ↓zx_ist2r, ↓zx_ist2n, ↓zx_ast2i, ↓zx_ast2r, ↓zx_ast2n, ↓zx_inc2i, ↓zx_inc2r, ↓zx_inc2n, ↓zx_ild3, ↓zx_ald3, ↓zx_lld3, ↓zx_ist3i, ↓zx_ist3r, ↓zx_ist3n, ↓zx_ast3i, ↓zx_ast3r, ↓zx_ast3n, ↓zx_inc3i, ↓zx_inc3r, ↓zx_inc3n, ↓zx_ild4, ↓zx_ald4, ↓zx_lld4, ↓zx_ist4i, ↓zx_ist4r, ↓zx_ist4n, ↓zx_ast4i, ↓zx_ast4r, ↓zx_ast4n, ↓zx_inc4i, ↓zx_inc4r, ↓zx_inc4n, ↓zx_ild5, ↓zx_ald5, ↓zx_lld5, ↓zx_ist5i, ↓zx_ist5r, ↓zx_ist5n, ↓zx_ast5i, ↓zx_ast5r, ↓zx_ast5n, ↓zx_inc5i, ↓zx_inc5r, ↓zx_inc5n, ↓zx_ild6, ↓zx_ald6, ↓zx_lld6, ↓zx_ist6i, ↓zx_ist6r, ↓zx_ist6n, ↓zx_ast6i, ↓zx_ast6r, ↓zx_ast6n, ↓zx_inc6i, ↓zx_inc6r, ↓zx_inc6n, ↓zx_ild7, ↓zx_ald7, ↓zx_lld7, ↓zx_ist7i, ↓zx_ist7r, ↓zx_ist7n, ↓zx_ast7i, ↓zx_ast7r, ↓zx_ast7n, ↓zx_inc7i, ↓zx_inc7r, ↓zx_inc7n, ↓zx_ild8, ↓zx_ald8, ↓zx_lld8, ↓zx_ist8i, ↓zx_ist8r, ↓zx_ist8n, ↓zx_ast8i, ↓zx_ast8r, ↓zx_ast8n, ↓zx_inc8i, ↓zx_inc8r, ↓zx_inc8n, ↓zx_ild9, ↓zx_ald9, ↓zx_lld9, ↓zx_ist9i, ↓zx_ist9r, ↓zx_ist9n, ↓zx_ast9i, ↓zx_ast9r, ↓zx_ast9n, ↓zx_inc9i, ↓zx_inc9r, ↓zx_inc9n, ↓zx_ild10, ↓zx_ald10, ↓zx_lld10, ↓zx_ist10i, ↓zx_ist10r, ↓zx_ist10n, ↓zx_ast10i, ↓zx_ast10r, ↓zx_ast10n, ↓zx_inc10i, ↓zx_inc10r, ↓zx_inc10n, ↓zx_b, ↓zx_u, ↓zx_i2l, ↓zx_lb, ↓zx_lu, ↓zx_lcmp, ↓zx_dupi, ↓zx_dupr, ↓zx_dup2, ↓zx_pop, zx_ceq_t, zx_ceq_f, zx_clt_t, zx_clt_f, zx_cle_t, zx_cle_f, zx_eq_t, zx_eq_f, zx_lt_t, zx_lt_f, zx_le_t, zx_le_f, zx_eq_b, zx_rem, zx_div, zx_go0, zx_go1, ↓zx_call0, ↓zx_call1, ↓zx_call2, ↓zx_call3, ↓zx_call4, ↓zx_call5, ↓zx_call6, ↓zx_call7, ↓zx_vc0, ↓zx_vn0, ↓zx_vc1, ↓zx_vn1, ↓zx_vc2, ↓zx_vn2, ↓zx_vc3, ↓zx_vn3, ↓zx_vc4, ↓zx_vn4, ↓zx_vc5, ↓zx_vn5, ↓zx_vc6, ↓zx_vn6, ↓zx_sc0, ↓zx_sc1, ↓zx_sc2, ↓zx_mmin, ↓zx_mmax, zx_ret0, zx_reti, zx_retl, zx_reta, zx_retz, zx_retz0, zx_retz1, zj_run, zj_e0, zj_E0, List.length_cons, List.length_nil, List.cons_append, List.nil_append, List.reduceReplicate, Nat.reduceLeDiff, Nat.reduceAdd, Nat.reduceSub, Nat.zero_add, Nat.zero_le, Nat.le_refl, reduceIte, ↓zf_X11_park, ↓zb_X11_park_0, ↓G0, ↓G26, zl_c, p6]
  · rw [if_neg q5]
    obtain ⟨m1, a1, a2, a3⟩ := zt_X2_read hT0
    have h1 := h.fresh a3
    obtain ⟨p4, p5, p7, p8⟩ := h1.parts.2
    have e2 : zf_X5_clear [.ref 37] m1 = some ([], zj_st m1 37 3 (nI 0)) := zt_X5_clear hw
    have h2 : zc_R c (zj_st m1 37 3 (nI 0)) (A, P, ra, np, [], S, L, K) kp tr G N :=
      h1.rows (za_Rw.none 37 m1) (p5.keep fun u j q1 q2 => zj_st_n (by omega)) (p7.keep fun u j q1 q2 => zj_st_n (by omega)) (p8.keep fun u j q1 q2 => zj_st_n (by omega)) ⟨Nat.zero_le _, h1.len.2.2⟩ fun u j hu => by rw [zj_st_n (by omega)]
    have hr := zp_reads_ok hT 10 zp_s0 (Nat.zero_le _) (Nat.zero_le _) (by decide)
    generalize hgen : zp_reads T 10 zp_s0 = r at a1 a2 hr ⊢
    obtain ⟨⟨r2, r9, r10, r7, r0, r8⟩, ⟨hWl, hp⟩, rW⟩ := id a2
    cases hr2 : r.2 with
    | false =>
      rw [hr2] at a1
      rw [if_neg (by decide)]
      refine ⟨zj_st m1 37 3 (nI 0), ?_, ⟨G, N, h2.1, ⟨h2.2.1.1, by have := h2.2.1.2; omega⟩, h2.2.2⟩, fun u j hu => by rw [zj_st_n (by omega)]; exact a3 u j (by omega)⟩
      simp -implicitDefEqProofs (disch := first | omega | assumption | decide +kernel | exact Nat.le_of_ble_eq_true rfl) only [↓zx_push, ↓zx_ild0, ↓zx_ald0, ↓zx_lld0, ↓zx_ist0, ↓zx_ast0, ↓zx_inc0, ↓zx_ild1, ↓zx_ald1, ↓zx_lld1, ↓zx_ist1i, ↓zx_ist1r, ↓zx_ist1n, ↓zx_ast1i, ↓zx_ast1r, ↓zx_ast1n, ↓zx_inc1i, ↓zx_inc1r, ↓zx_inc1n, ↓zx_ild2, ↓zx_ald2, ↓zx_lld2, ↓zx_ist2i, ↓zx_ist2r, ↓zx_ist2n, ↓zx_ast2i, ↓zx_ast2r, ↓zx_ast2n, ↓zx_inc2i, ↓zx_inc2r, ↓zx_inc2n, ↓zx_ild3, ↓zx_ald3, ↓zx_lld3, ↓zx_ist3i, ↓zx_ist3r, ↓zx_ist3n, ↓zx_ast3i, ↓zx_ast3r, ↓zx_ast3n, ↓zx_inc3i, ↓zx_inc3r, ↓zx_inc3n, ↓zx_ild4, ↓zx_ald4, ↓zx_lld4, ↓zx_ist4i, ↓zx_ist4r, ↓zx_ist4n, ↓zx_ast4i, ↓zx_ast4r, ↓zx_ast4n, ↓zx_inc4i, ↓zx_inc4r, ↓zx_inc4n, ↓zx_ild5, ↓zx_ald5, ↓zx_lld5, ↓zx_ist5i, ↓zx_ist5r, ↓zx_ist5n, ↓zx_ast5i, ↓zx_ast5r, ↓zx_ast5n, ↓zx_inc5i, ↓zx_inc5r, ↓zx_inc5n, ↓zx_ild6, ↓zx_ald6, ↓zx_lld6, ↓zx_ist6i, ↓zx_ist6r, ↓zx_ist6n, ↓zx_ast6i, ↓zx_ast6r, ↓zx_ast6n, ↓zx_inc6i, ↓zx_inc6r, ↓zx_inc6n, ↓zx_ild7, ↓zx_ald7, ↓zx_lld7, ↓zx_ist7i, ↓zx_ist7r, ↓zx_ist7n, ↓zx_ast7i, ↓zx_ast7r, ↓zx_ast7n, ↓zx_inc7i, ↓zx_inc7r, ↓zx_inc7n, ↓zx_ild8, ↓zx_ald8, ↓zx_lld8, ↓zx_ist8i, ↓zx_ist8r, ↓zx_ist8n, ↓zx_ast8i, ↓zx_ast8r, ↓zx_ast8n, ↓zx_inc8i, ↓zx_inc8r, ↓zx_inc8n, ↓zx_ild9, ↓zx_ald9, ↓zx_lld9, ↓zx_ist9i, ↓zx_ist9r, ↓zx_ist9n, ↓zx_ast9i, ↓zx_ast9r, ↓zx_ast9n, ↓zx_inc9i, ↓zx_inc9r, ↓zx_inc9n, ↓zx_ild10, ↓zx_ald10, ↓zx_lld10, ↓zx_ist10i, ↓zx_ist10r, ↓zx_ist10n, ↓zx_ast10i, ↓zx_ast10r, ↓zx_ast10n, ↓zx_inc10i, ↓zx_inc10r, ↓zx_inc10n, ↓zx_b, ↓zx_u, ↓zx_i2l, ↓zx_lb, ↓zx_lu, ↓zx_lcmp, ↓zx_dupi, ↓zx_dupr, ↓zx_dup2, ↓zx_pop, zx_ceq_t, zx_ceq_f, zx_clt_t, zx_clt_f, zx_cle_t, zx_cle_f, zx_eq_t, zx_eq_f, zx_lt_t, zx_lt_f, zx_le_t, zx_le_f, zx_eq_b, zx_rem, zx_div, zx_go0, zx_go1, ↓zx_call0, ↓zx_call1, ↓zx_call2, ↓zx_call3, ↓zx_call4, ↓zx_call5, ↓zx_call6, ↓zx_call7, ↓zx_vc0, ↓zx_vn0, ↓zx_vc1, ↓zx_vn1, ↓zx_vc2, ↓zx_vn2, ↓zx_vc3, ↓zx_vn3, ↓zx_vc4, ↓zx_vn4, ↓zx_vc5, ↓zx_vn5, ↓zx_vc6, ↓zx_vn6, ↓zx_sc0, ↓zx_sc1, ↓zx_sc2, ↓zx_mmin, ↓zx_mmax, zx_ret0, zx_reti, zx_retl, zx_reta, zx_retz, zx_retz0, zx_retz1, zj_run, zj_e0, zj_E0, List.length_cons, List.length_nil, List.cons_append, List.nil_append, List.reduceReplicate, Nat.reduceLeDiff, Nat.reduceAdd, Nat.reduceSub, Nat.zero_add, Nat.zero_le, Nat.le_refl, reduceIte, ↓zf_X11_park, ↓zb_X11_park_0, ↓G0, ↓G26, ↓G18, zl_c, p6, a1, e2, r2, Bool.toNat_false, zj_st_s, zj_st_n]
    | true =>
      rw [hr2] at a1
      rw [if_pos rfl]
      obtain ⟨x1, x2, W, x3, x4⟩ := hr hr2
      have x3 : r.1.W = W := x3
      have hN := h.2.1.2
      have e07 := h2.2.1.1
      obtain ⟨m4, hm4⟩ : ∃ m4, zj_st (zj_st (zj_st m1 37 3 (nI 0)) 0 7 (nI (N + 1))) 18 1 (nI (N + 1)) = m4 := ⟨_, rfl⟩
      have f4 : ∀ u j, ¬ (u = 0 ∧ j = 7) → ¬ (u = 18 ∧ j = 1) → m4 u j = zj_st m1 37 3 (nI 0) u j := fun u j q1 q2 => by rw [← hm4, zj_st_n (by omega), zj_st_n (by omega)]
      obtain ⟨m5, k1, k2, ⟨k3, k4⟩, k5⟩ := zt_X2_copyFrom za_pl14 za_pl18 (by omega) m4
      have hC : za_C 14 m5 W := by
        refine k2 W ⟨?_, by rw [← x3]; exact x2, fun j hj => ?_⟩
        · rw [f4 _ _ (by omega) (by omega), zj_st_n (by omega), ← x3]; exact r7
        · rw [← x3] at hj ⊢
          have := rW j hj
          rw [f4 _ _ (by omega) (by omega), f4 _ _ (by omega) (by omega), zj_st_n (by omega), zj_st_n (by omega)]
          exact this
      have e140 : m5 14 0 = nI r.1.ra := by rw [k3, f4 _ _ (by omega) (by omega), zj_st_n (by omega)]; exact r0
      have e141 : m5 14 1 = nI (N + 1) := by rw [k4, ← hm4, zj_st_s]
      have f5 : ∀ u j, ¬ (u = 0 ∧ j = 7) → (u < 14 ∨ 18 < u) → m5 u j = zj_st m1 37 3 (nI 0) u j := fun u j q1 q2 => by rw [k5 u j (by omega), f4 u j q1 (by omega)]
      have e266 : m5 26 6 = nI np := by rw [f5 _ _ (by omega) (by omega)]; exact h2.parts.1.2.2
      have f6 : ∀ u j, ¬ (u = 0 ∧ j = 7) → ¬ (u = 26 ∧ j = 6) → (u < 14 ∨ 18 < u) → zj_st m5 26 6 (nI (np + 1)) u j = zj_st m1 37 3 (nI 0) u j := fun u j q1 q2 q3 => by rw [zj_st_n q2, f5 u j q1 q3]
      obtain ⟨G', hG'⟩ : ∃ G' : Nat → List (Nat × Nat), G' = fun e => if e = N + 1 then W else G e := ⟨_, rfl⟩
      have g1 : ∀ e, 1 ≤ e → e ≤ N → G' e = G e := fun e _ q => by rw [hG']; simp only; rw [if_neg (by omega)]
      have g2 : G' (N + 1) = W := by rw [hG']; simp only; rw [if_pos trivial]
      have hX2 : za_cache (zj_st m1 37 3 (nI 0)) G' (N + 1) := h2.cache.grow (by omega) g1 (by rw [g2]; exact x4)
      have hX6 : za_cache (zj_st m5 26 6 (nI (np + 1))) G' (N + 1) := hX2.keep fun j => f6 _ _ (by omega) (by omega) (by omega)
      obtain ⟨⟨w1, w2, w3⟩, ⟨w4, w5, w6, w7⟩, w8⟩ := h2.1
      refine ⟨zj_st m5 26 6 (nI (np + 1)), ?_, ⟨G', N + 1, ⟨⟨w1.keep fun u j q1 q2 q3 => f6 u j (by omega) (by omega) (by omega), ⟨?_, ⟨N + 1, ?_, fun _ => ⟨by omega, Nat.le_refl _, by rw [x3]; exact g2⟩⟩, ⟨?_, x1⟩, hX6⟩, zj_st_s _ _ _ _⟩, ⟨w4.keep fun u j q1 q2 => f6 u j (by omega) (by omega) (by omega), w5.keep fun u j q1 q2 => f6 u j (by omega) (by omega) (by omega), w6.keep fun u j q1 q2 => f6 u j (by omega) (by omega) (by omega), w7.keep fun u j q1 q2 => f6 u j (by omega) (by omega) (by omega)⟩, w8⟩, ⟨?_, by omega⟩, ?_, ⟨?_, h2.2.2.2.1.2⟩, ?_, ?_⟩, fun u j hu => ?_⟩
      · have e5 : nI (np + 1) - nI 1 = nI np := by rw [pk_sub (by omega)]; exact congrArg nI (by omega)
        rw [← hm4] at k1
        simp -implicitDefEqProofs (disch := first | omega | assumption | decide +kernel | exact Nat.le_of_ble_eq_true rfl) only [↓zx_push, ↓zx_ild0, ↓zx_ald0, ↓zx_lld0, ↓zx_ist0, ↓zx_ast0, ↓zx_inc0, ↓zx_ild1, ↓zx_ald1, ↓zx_lld1, ↓zx_ist1i, ↓zx_ist1r, ↓zx_ist1n, ↓zx_ast1i, ↓zx_ast1r, ↓zx_ast1n, ↓zx_inc1i, ↓zx_inc1r, ↓zx_inc1n, ↓zx_ild2, ↓zx_ald2, ↓zx_lld2, ↓zx_ist2i, ↓zx_ist2r, ↓zx_ist2n, ↓zx_ast2i, ↓zx_ast2r, ↓zx_ast2n, ↓zx_inc2i, ↓zx_inc2r, ↓zx_inc2n, ↓zx_ild3, ↓zx_ald3, ↓zx_lld3, ↓zx_ist3i, ↓zx_ist3r, ↓zx_ist3n, ↓zx_ast3i, ↓zx_ast3r, ↓zx_ast3n, ↓zx_inc3i, ↓zx_inc3r, ↓zx_inc3n, ↓zx_ild4, ↓zx_ald4, ↓zx_lld4, ↓zx_ist4i, ↓zx_ist4r, ↓zx_ist4n, ↓zx_ast4i, ↓zx_ast4r, ↓zx_ast4n, ↓zx_inc4i, ↓zx_inc4r, ↓zx_inc4n, ↓zx_ild5, ↓zx_ald5, ↓zx_lld5, ↓zx_ist5i, ↓zx_ist5r, ↓zx_ist5n, ↓zx_ast5i, ↓zx_ast5r, ↓zx_ast5n, ↓zx_inc5i, ↓zx_inc5r, ↓zx_inc5n, ↓zx_ild6, ↓zx_ald6, ↓zx_lld6, ↓zx_ist6i, ↓zx_ist6r, ↓zx_ist6n, ↓zx_ast6i, ↓zx_ast6r, ↓zx_ast6n, ↓zx_inc6i, ↓zx_inc6r, ↓zx_inc6n, ↓zx_ild7, ↓zx_ald7, ↓zx_lld7, ↓zx_ist7i, ↓zx_ist7r, ↓zx_ist7n, ↓zx_ast7i, ↓zx_ast7r, ↓zx_ast7n, ↓zx_inc7i, ↓zx_inc7r, ↓zx_inc7n, ↓zx_ild8, ↓zx_ald8, ↓zx_lld8, ↓zx_ist8i, ↓zx_ist8r, ↓zx_ist8n, ↓zx_ast8i, ↓zx_ast8r, ↓zx_ast8n, ↓zx_inc8i, ↓zx_inc8r, ↓zx_inc8n, ↓zx_ild9, ↓zx_ald9, ↓zx_lld9, ↓zx_ist9i, ↓zx_ist9r, ↓zx_ist9n, ↓zx_ast9i, ↓zx_ast9r, ↓zx_ast9n, ↓zx_inc9i, ↓zx_inc9r, ↓zx_inc9n, ↓zx_ild10, ↓zx_ald10, ↓zx_lld10, ↓zx_ist10i, ↓zx_ist10r, ↓zx_ist10n, ↓zx_ast10i, ↓zx_ast10r, ↓zx_ast10n, ↓zx_inc10i, ↓zx_inc10r, ↓zx_inc10n, ↓zx_b, ↓zx_u, ↓zx_i2l, ↓zx_lb, ↓zx_lu, ↓zx_lcmp, ↓zx_dupi, ↓zx_dupr, ↓zx_dup2, ↓zx_pop, zx_ceq_t, zx_ceq_f, zx_clt_t, zx_clt_f, zx_cle_t, zx_cle_f, zx_eq_t, zx_eq_f, zx_lt_t, zx_lt_f, zx_le_t, zx_le_f, zx_eq_b, zx_rem, zx_div, zx_go0, zx_go1, ↓zx_call0, ↓zx_call1, ↓zx_call2, ↓zx_call3, ↓zx_call4, ↓zx_call5, ↓zx_call6, ↓zx_call7, ↓zx_vc0, ↓zx_vn0, ↓zx_vc1, ↓zx_vn1, ↓zx_vc2, ↓zx_vn2, ↓zx_vc3, ↓zx_vn3, ↓zx_vc4, ↓zx_vn4, ↓zx_vc5, ↓zx_vn5, ↓zx_vc6, ↓zx_vn6, ↓zx_sc0, ↓zx_sc1, ↓zx_sc2, ↓zx_mmin, ↓zx_mmax, zx_ret0, zx_reti, zx_retl, zx_reta, zx_retz, zx_retz0, zx_retz1, zj_run, zj_e0, zj_E0, List.length_cons, List.length_nil, List.cons_append, List.nil_append, List.reduceReplicate, Nat.reduceLeDiff, Nat.reduceAdd, Nat.reduceSub, Nat.zero_add, Nat.zero_le, Nat.le_refl, reduceIte, ↓zf_X11_park, ↓zb_X11_park_0, ↓G0, ↓G26, ↓G18, zl_c, p6, a1, e2, e07, k1, e266, e5, nI_add, Bool.toNat_true, zj_st_s, zj_st_n]
      · rw [x3]
        exact ⟨by rw [zj_st_n (by omega)]; exact hC.1, hC.2.1, fun j hj => by rw [zj_st_n (by omega), zj_st_n (by omega)]; exact hC.2.2 j hj⟩
      · rw [zj_st_n (by omega)]; exact e141
      · rw [zj_st_n (by omega)]; exact e140
      · rw [zj_st_n (by omega), k5 _ _ (by omega), ← hm4, zj_st_n (by omega), zj_st_s]
      · rcases h2.2.2.1 with ⟨y1, y2⟩ | ⟨B2, y1, y2, y3⟩
        · exact Or.inl ⟨y1, (f6 _ _ (by omega) (by omega) (by omega)).trans y2⟩
        · exact Or.inr ⟨B2, y1, (f6 _ _ (by omega) (by omega) (by omega)).trans y2, (y3.grow hX2 g1).keep hX6 fun u j hu => f6 u j (by omega) (by omega) (by omega)⟩
      · exact h2.2.2.2.1.1.keep fun u j hu => f6 u j (by omega) (by omega) (by omega)
      · exact (f6 _ _ (by omega) (by omega) (by omega)).trans h2.2.2.2.2.1
      · exact (f6 _ _ (by omega) (by omega) (by omega)).trans h2.2.2.2.2.2
      · rw [f6 u j (by omega) (by omega) (by omega), zj_st_n (by omega)]
        exact a3 u j (by omega)
theorem zo_park (hok : ze_ok (A, P, ra, np, T, S, L, K)) : ze_ok (zs_park (A, P, ra, np, T, S, L, K)).2 := by
  obtain ⟨g0, g1, ⟨g2, g3, g4⟩, g5⟩ := hok
  have hr := zp_reads_ok g3 10 zp_s0 (Nat.zero_le _) (Nat.zero_le _) (by decide)
  unfold zs_park
  simp only
  split
  · exact ⟨g0, g1, ⟨g2, g3, g4⟩, g5⟩
  · split
    · rename_i q1 q2
      obtain ⟨x1, x2, W, x3, x4⟩ := hr q2
      have x3 : (zp_reads T 10 zp_s0).1.W = W := x3
      exact ⟨g0, ⟨x1, by rw [x3]; exact x4⟩, ⟨by omega, Nat.zero_le _, fun j hj => absurd hj (Nat.not_lt_zero j)⟩, g5⟩
    · exact ⟨g0, g1, ⟨g2, Nat.zero_le _, fun j hj => absurd hj (Nat.not_lt_zero j)⟩, g5⟩
end ZQ
