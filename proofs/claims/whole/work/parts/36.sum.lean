/-! SUM: the park's program, run -/
theorem zx_tsw_lo {lo : Int} {ks : List zj_K} {kd : zj_K} {E : zj_E} {st : List Value} {m : zj_M} {d : Nat} (hd : d < 2 ^ 31) (h : (d : Int) < lo) : zi_tsw lo ks kd E (.int (nI d) :: st) m = kd E st m := by
  simp only [zi_tsw]
  rw [nI_toInt hd, if_pos h]
theorem zx_tsw_at {lo : Int} {ks : List zj_K} {kd k0 : zj_K} {E : zj_E} {st : List Value} {m : zj_M} {d : Nat} (j : Nat) (hd : d < 2 ^ 31) (h : (d : Int) = lo + j) (hk : ks[j]? = some k0) : zi_tsw lo ks kd E (.int (nI d) :: st) m = k0 E st m := by
  simp only [zi_tsw]
  rw [nI_toInt hd, if_neg (by omega), show ((d : Int) - lo).toNat = j by omega, hk]
theorem zx_tsw_0 {lo : Int} {ks : List zj_K} {kd k0 : zj_K} {E : zj_E} {st : List Value} {m : zj_M} {d : Nat} (h : (d : Int) = lo + 0) (hd : d < 2 ^ 31) : zi_tsw lo (k0 :: ks) kd E (.int (nI d) :: st) m = k0 E st m := zx_tsw_at 0 hd h rfl
theorem zx_tsw_1 {lo : Int} {ks : List zj_K} {kd k0 k1 : zj_K} {E : zj_E} {st : List Value} {m : zj_M} {d : Nat} (h : (d : Int) = lo + 1) (hd : d < 2 ^ 31) : zi_tsw lo (k0 :: k1 :: ks) kd E (.int (nI d) :: st) m = k1 E st m := zx_tsw_at 1 hd h rfl
theorem zx_tsw_2 {lo : Int} {ks : List zj_K} {kd k0 k1 k2 : zj_K} {E : zj_E} {st : List Value} {m : zj_M} {d : Nat} (h : (d : Int) = lo + 2) (hd : d < 2 ^ 31) : zi_tsw lo (k0 :: k1 :: k2 :: ks) kd E (.int (nI d) :: st) m = k2 E st m := zx_tsw_at 2 hd h rfl
theorem zx_tsw_3 {lo : Int} {ks : List zj_K} {kd k0 k1 k2 k3 : zj_K} {E : zj_E} {st : List Value} {m : zj_M} {d : Nat} (h : (d : Int) = lo + 3) (hd : d < 2 ^ 31) : zi_tsw lo (k0 :: k1 :: k2 :: k3 :: ks) kd E (.int (nI d) :: st) m = k3 E st m := zx_tsw_at 3 hd h rfl
theorem zx_tsw_4 {lo : Int} {ks : List zj_K} {kd k0 k1 k2 k3 k4 : zj_K} {E : zj_E} {st : List Value} {m : zj_M} {d : Nat} (h : (d : Int) = lo + 4) (hd : d < 2 ^ 31) : zi_tsw lo (k0 :: k1 :: k2 :: k3 :: k4 :: ks) kd E (.int (nI d) :: st) m = k4 E st m := zx_tsw_at 4 hd h rfl
theorem zx_tsw_5 {lo : Int} {ks : List zj_K} {kd k0 k1 k2 k3 k4 k5 : zj_K} {E : zj_E} {st : List Value} {m : zj_M} {d : Nat} (h : (d : Int) = lo + 5) (hd : d < 2 ^ 31) : zi_tsw lo (k0 :: k1 :: k2 :: k3 :: k4 :: k5 :: ks) kd E (.int (nI d) :: st) m = k5 E st m := zx_tsw_at 5 hd h rfl
theorem zx_tsw_6 {lo : Int} {ks : List zj_K} {kd k0 k1 k2 k3 k4 k5 k6 : zj_K} {E : zj_E} {st : List Value} {m : zj_M} {d : Nat} (h : (d : Int) = lo + 6) (hd : d < 2 ^ 31) : zi_tsw lo (k0 :: k1 :: k2 :: k3 :: k4 :: k5 :: k6 :: ks) kd E (.int (nI d) :: st) m = k6 E st m := zx_tsw_at 6 hd h rfl
theorem zx_tsw_7 {lo : Int} {ks : List zj_K} {kd k0 k1 k2 k3 k4 k5 k6 k7 : zj_K} {E : zj_E} {st : List Value} {m : zj_M} {d : Nat} (h : (d : Int) = lo + 7) (hd : d < 2 ^ 31) : zi_tsw lo (k0 :: k1 :: k2 :: k3 :: k4 :: k5 :: k6 :: k7 :: ks) kd E (.int (nI d) :: st) m = k7 E st m := zx_tsw_at 7 hd h rfl
theorem zx_tsw_8 {lo : Int} {ks : List zj_K} {kd k0 k1 k2 k3 k4 k5 k6 k7 k8 : zj_K} {E : zj_E} {st : List Value} {m : zj_M} {d : Nat} (h : (d : Int) = lo + 8) (hd : d < 2 ^ 31) : zi_tsw lo (k0 :: k1 :: k2 :: k3 :: k4 :: k5 :: k6 :: k7 :: k8 :: ks) kd E (.int (nI d) :: st) m = k8 E st m := zx_tsw_at 8 hd h rfl
theorem zx_tsw_9 {lo : Int} {ks : List zj_K} {kd k0 k1 k2 k3 k4 k5 k6 k7 k8 k9 : zj_K} {E : zj_E} {st : List Value} {m : zj_M} {d : Nat} (h : (d : Int) = lo + 9) (hd : d < 2 ^ 31) : zi_tsw lo (k0 :: k1 :: k2 :: k3 :: k4 :: k5 :: k6 :: k7 :: k8 :: k9 :: ks) kd E (.int (nI d) :: st) m = k9 E st m := zx_tsw_at 9 hd h rfl
theorem zx_tsw_hi {lo : Int} {ks : List zj_K} {kd : zj_K} {E : zj_E} {st : List Value} {m : zj_M} {d : Nat} (hd : d < 2 ^ 31) (h : lo + ks.length ≤ d) : zi_tsw lo ks kd E (.int (nI d) :: st) m = kd E st m := by
  simp only [zi_tsw]
  rw [nI_toInt hd, if_neg (by omega), List.getElem?_eq_none (by omega)]
def iI (s : Int) : Int32 := Int32.ofInt s
theorem iI_add (s : Int) (n : Nat) : iI s + nI n = iI (s + n) := by
  unfold iI nI
  rw [Int32.ofInt_add]
  congr 1
theorem iI_sub (s : Int) (n : Nat) : iI s - nI n = iI (s - n) := by
  unfold iI nI
  rw [Int32.ofInt_sub]
  congr 1
theorem iI_0 : nI 0 = iI 0 := rfl
/-- the park at q holds the program P -/
def za_C (q : Nat) (m : zj_M) (P : List (Nat × Nat)) : Prop := m q 7 = nI P.length ∧ P.length ≤ 100 ∧ ∀ j, j < P.length → m (q + 1) j = nI (P.getD j (0, 0)).1 ∧ m (q + 2) j = nI (P.getD j (0, 0)).2
section ZQ
variable {q : Nat} {f : Nat → Nat} {P : List (Nat × Nat)}
theorem zt_sum_loop (hl : za_pl q) (hfb : ∀ x, x < 6 → f x < 100) : ∀ (c : List (Nat × Nat)) (i fuel : Nat) (x : Option Value) (m : zj_M) (S : Int32) (s : Int) (st : List Bool) (b : Nat), P.drop i = c → i + c.length = P.length → c.length < fuel → za_C q m P → (∀ x, x < 6 → m (q + 3) x = nI (f x)) → za_wf c st.length b = true → st.length ≤ 30 → za_bits S st →
    zj_lp zb_X2_sumOfFacts_6 fuel [some (.ref q), some (.int (iI s)), some (.int S), some (.int (nI i)), x] [] m = some ([.int (iI (za_ev f c st s))], m) := by
  have G := hl.g
  have a := hl.a
  have hcl := hl.c
  intro c
  induction c with
  | nil =>
    intro i fuel x m S s st b hc hi hf hC hF hw hlen hb
    obtain ⟨fu, rfl⟩ : ∃ fu, fuel = fu + 1 := ⟨fuel - 1, by omega⟩
    obtain ⟨c1, c2, c3⟩ := hC
    have ei : i = P.length := by simpa using hi
    subst ei
    rw [zj_lp_s]
    simp (disch := first | omega | assumption | decide +kernel | exact Nat.le_of_ble_eq_true rfl) only [↓zx_push, ↓zx_ild0, ↓zx_ald0, ↓zx_lld0, ↓zx_ist0, ↓zx_ast0, ↓zx_inc0, ↓zx_ild1, ↓zx_ald1, ↓zx_lld1, ↓zx_ist1i, ↓zx_ist1r, ↓zx_ist1n, ↓zx_ast1i, ↓zx_ast1r, ↓zx_ast1n, ↓zx_inc1i, ↓zx_inc1r, ↓zx_inc1n, ↓zx_ild2, ↓zx_ald2, ↓zx_lld2, ↓zx_ist2i, ↓zx_ist2r, ↓zx_ist2n, ↓zx_ast2i, ↓zx_ast2r, ↓zx_ast2n, ↓zx_inc2i, ↓zx_inc2r, ↓zx_inc2n, ↓zx_ild3, ↓zx_ald3, ↓zx_lld3, ↓zx_ist3i, ↓zx_ist3r, ↓zx_ist3n, ↓zx_ast3i, ↓zx_ast3r, ↓zx_ast3n, ↓zx_inc3i, ↓zx_inc3r, ↓zx_inc3n, ↓zx_ild4, ↓zx_ald4, ↓zx_lld4, ↓zx_ist4i, ↓zx_ist4r, ↓zx_ist4n, ↓zx_ast4i, ↓zx_ast4r, ↓zx_ast4n, ↓zx_inc4i, ↓zx_inc4r, ↓zx_inc4n, ↓zx_ild5, ↓zx_ald5, ↓zx_lld5, ↓zx_ist5i, ↓zx_ist5r, ↓zx_ist5n, ↓zx_ast5i, ↓zx_ast5r, ↓zx_ast5n, ↓zx_inc5i, ↓zx_inc5r, ↓zx_inc5n, ↓zx_ild6, ↓zx_ald6, ↓zx_lld6, ↓zx_ist6i, ↓zx_ist6r, ↓zx_ist6n, ↓zx_ast6i, ↓zx_ast6r, ↓zx_ast6n, ↓zx_inc6i, ↓zx_inc6r, ↓zx_inc6n, ↓zx_ild7, ↓zx_ald7, ↓zx_lld7, ↓zx_ist7i, ↓zx_ist7r, ↓zx_ist7n, ↓zx_ast7i, ↓zx_ast7r, ↓zx_ast7n, ↓zx_inc7i, ↓zx_inc7r, ↓zx_inc7n, ↓zx_ild8, ↓zx_ald8, ↓zx_lld8, ↓zx_ist8i, ↓zx_ist8r, ↓zx_ist8n, ↓zx_ast8i, ↓zx_ast8r, ↓zx_ast8n, ↓zx_inc8i, ↓zx_inc8r, ↓zx_inc8n, ↓zx_ild9, ↓zx_ald9, ↓zx_lld9, ↓zx_ist9i, ↓zx_ist9r, ↓zx_ist9n, ↓zx_ast9i, ↓zx_ast9r, ↓zx_ast9n, ↓zx_inc9i, ↓zx_inc9r, ↓zx_inc9n, ↓zx_ild10, ↓zx_ald10, ↓zx_lld10, ↓zx_ist10i, ↓zx_ist10r, ↓zx_ist10n, ↓zx_ast10i, ↓zx_ast10r, ↓zx_ast10n, ↓zx_inc10i, ↓zx_inc10r, ↓zx_inc10n, ↓zx_b, ↓zx_u, ↓zx_i2l, ↓zx_lb, ↓zx_lu, ↓zx_lcmp, ↓zx_dupi, ↓zx_dupr, ↓zx_dup2, ↓zx_pop, zx_ceq_t, zx_ceq_f, zx_clt_t, zx_clt_f, zx_cle_t, zx_cle_f, zx_eq_t, zx_eq_f, zx_lt_t, zx_lt_f, zx_le_t, zx_le_f, zx_eq_b, zx_rem, zx_div, zx_go0, zx_go1, ↓zx_call0, ↓zx_call1, ↓zx_call2, ↓zx_call3, ↓zx_call4, ↓zx_call5, ↓zx_call6, ↓zx_call7, ↓zx_vc0, ↓zx_vn0, ↓zx_vc1, ↓zx_vn1, ↓zx_vc2, ↓zx_vn2, ↓zx_vc3, ↓zx_vn3, ↓zx_vc4, ↓zx_vn4, ↓zx_vc5, ↓zx_vn5, ↓zx_vc6, ↓zx_vn6, ↓zx_sc0, ↓zx_sc1, ↓zx_sc2, ↓zx_mmin, ↓zx_mmax, zx_ret0, zx_reti, zx_retl, zx_reta, zx_retz, zx_retz0, zx_retz1, zj_run, zj_e0, zj_E0, List.length_cons, List.length_nil, List.cons_append, List.nil_append, List.reduceReplicate, Nat.reduceLeDiff, Nat.reduceAdd, Nat.reduceSub, Nat.zero_add, Nat.zero_le, Nat.le_refl, reduceIte, ↓zb_X2_sumOfFacts_6, ↓G, a, c1, za_ev]
  | cons e c ih =>
    intro i fuel x m S s st b hc hi hf hC hF hw hlen hb
    obtain ⟨fu, rfl⟩ : ∃ fu, fuel = fu + 1 := ⟨fuel - 1, by omega⟩
    obtain ⟨d, n⟩ := e
    have hil : i < P.length := by simp at hi; omega
    obtain ⟨c1, c2, c3⟩ := id hC
    have hPi : P.getD i (0, 0) = (d, n) := by
      have : P[i]? = some (d, n) := by
        have h1 : (P.drop i)[0]? = some (d, n) := by rw [hc]; rfl
        simpa using h1
      rw [List.getD_eq_getElem?_getD, this]
      rfl
    obtain ⟨c4, c5⟩ := c3 i hil
    rw [hPi] at c4 c5
    have hc' : P.drop (i + 1) = c := by
      have := congrArg (List.drop 1) hc
      simpa [List.drop_drop, Nat.add_comm] using this
    have hi' : i + 1 + c.length = P.length := by simp at hi; omega
    have hf' : c.length < fu := by simp at hf; omega
    have hi100 : i < 100 := by omega
    have J : ∀ (x' : Option Value) (S' : Int32) (s' : Int) (st' : List Bool) (b' : Nat), za_wf c st'.length b' = true → st'.length ≤ 30 → za_bits S' st' → zj_lp zb_X2_sumOfFacts_6 fu [some (.ref q), some (.int (iI s')), some (.int S'), some (.int (nI (i + 1))), x'] [] m = some ([.int (iI (za_ev f c st' s'))], m) := fun x' S' s' st' b' hw' hl' hb' => ih (i + 1) fu x' m S' s' st' b' hc' hi' hf' hC hF hw' hl' hb'
    simp only [za_wf, Bool.and_eq_true, decide_eq_true_eq] at hw
    obtain ⟨hn, hw⟩ := hw
    rw [zj_lp_s]
    by_cases h18 : d < 18
    · rw [if_pos h18] at hw
      simp only [Bool.and_eq_true, decide_eq_true_eq] at hw
      have eh := zt_X2_holds (m := m) (f := f) hl h18 hn (hF (d / 3) (by omega)) (hfb (d / 3) (by omega))
      have eb := zt_bit (m := m) (za_test f d n)
      have hJ := J (some (.int (S &&& nI 1))) ((S <<< (nI 1 &&& nI 31)) ||| nI (za_test f d n).toNat) s (za_test f d n :: st) b (by simpa using hw.2) (by simp; omega) (hb.push (by omega) _)
      rw [za_ev, if_pos h18, ← hJ]
      simp (disch := first | omega | assumption | decide +kernel | exact Nat.le_of_ble_eq_true rfl) only [↓zx_push, ↓zx_ild0, ↓zx_ald0, ↓zx_lld0, ↓zx_ist0, ↓zx_ast0, ↓zx_inc0, ↓zx_ild1, ↓zx_ald1, ↓zx_lld1, ↓zx_ist1i, ↓zx_ist1r, ↓zx_ist1n, ↓zx_ast1i, ↓zx_ast1r, ↓zx_ast1n, ↓zx_inc1i, ↓zx_inc1r, ↓zx_inc1n, ↓zx_ild2, ↓zx_ald2, ↓zx_lld2, ↓zx_ist2i, ↓zx_ist2r, ↓zx_ist2n, ↓zx_ast2i, ↓zx_ast2r, ↓zx_ast2n, ↓zx_inc2i, ↓zx_inc2r, ↓zx_inc2n, ↓zx_ild3, ↓zx_ald3, ↓zx_lld3, ↓zx_ist3i, ↓zx_ist3r, ↓zx_ist3n, ↓zx_ast3i, ↓zx_ast3r, ↓zx_ast3n, ↓zx_inc3i, ↓zx_inc3r, ↓zx_inc3n, ↓zx_ild4, ↓zx_ald4, ↓zx_lld4, ↓zx_ist4i, ↓zx_ist4r, ↓zx_ist4n, ↓zx_ast4i, ↓zx_ast4r, ↓zx_ast4n, ↓zx_inc4i, ↓zx_inc4r, ↓zx_inc4n, ↓zx_ild5, ↓zx_ald5, ↓zx_lld5, ↓zx_ist5i, ↓zx_ist5r, ↓zx_ist5n, ↓zx_ast5i, ↓zx_ast5r, ↓zx_ast5n, ↓zx_inc5i, ↓zx_inc5r, ↓zx_inc5n, ↓zx_ild6, ↓zx_ald6, ↓zx_lld6, ↓zx_ist6i, ↓zx_ist6r, ↓zx_ist6n, ↓zx_ast6i, ↓zx_ast6r, ↓zx_ast6n, ↓zx_inc6i, ↓zx_inc6r, ↓zx_inc6n, ↓zx_ild7, ↓zx_ald7, ↓zx_lld7, ↓zx_ist7i, ↓zx_ist7r, ↓zx_ist7n, ↓zx_ast7i, ↓zx_ast7r, ↓zx_ast7n, ↓zx_inc7i, ↓zx_inc7r, ↓zx_inc7n, ↓zx_ild8, ↓zx_ald8, ↓zx_lld8, ↓zx_ist8i, ↓zx_ist8r, ↓zx_ist8n, ↓zx_ast8i, ↓zx_ast8r, ↓zx_ast8n, ↓zx_inc8i, ↓zx_inc8r, ↓zx_inc8n, ↓zx_ild9, ↓zx_ald9, ↓zx_lld9, ↓zx_ist9i, ↓zx_ist9r, ↓zx_ist9n, ↓zx_ast9i, ↓zx_ast9r, ↓zx_ast9n, ↓zx_inc9i, ↓zx_inc9r, ↓zx_inc9n, ↓zx_ild10, ↓zx_ald10, ↓zx_lld10, ↓zx_ist10i, ↓zx_ist10r, ↓zx_ist10n, ↓zx_ast10i, ↓zx_ast10r, ↓zx_ast10n, ↓zx_inc10i, ↓zx_inc10r, ↓zx_inc10n, ↓zx_b, ↓zx_u, ↓zx_i2l, ↓zx_lb, ↓zx_lu, ↓zx_lcmp, ↓zx_dupi, ↓zx_dupr, ↓zx_dup2, ↓zx_pop, zx_ceq_t, zx_ceq_f, zx_clt_t, zx_clt_f, zx_cle_t, zx_cle_f, zx_eq_t, zx_eq_f, zx_lt_t, zx_lt_f, zx_le_t, zx_le_f, zx_eq_b, zx_rem, zx_div, zx_go0, zx_go1, ↓zx_call0, ↓zx_call1, ↓zx_call2, ↓zx_call3, ↓zx_call4, ↓zx_call5, ↓zx_call6, ↓zx_call7, ↓zx_vc0, ↓zx_vn0, ↓zx_vc1, ↓zx_vn1, ↓zx_vc2, ↓zx_vn2, ↓zx_vc3, ↓zx_vn3, ↓zx_vc4, ↓zx_vn4, ↓zx_vc5, ↓zx_vn5, ↓zx_vc6, ↓zx_vn6, ↓zx_sc0, ↓zx_sc1, ↓zx_sc2, ↓zx_mmin, ↓zx_mmax, zx_ret0, zx_reti, zx_retl, zx_reta, zx_retz, zx_retz0, zx_retz1, zj_run, zj_e0, zj_E0, List.length_cons, List.length_nil, List.cons_append, List.nil_append, List.reduceReplicate, Nat.reduceLeDiff, Nat.reduceAdd, Nat.reduceSub, Nat.zero_add, Nat.zero_le, Nat.le_refl, reduceIte, ↓zb_X2_sumOfFacts_6, ↓zb_X2_sumOfFacts_124, ↓zb_X2_sumOfFacts_148, ↓G, a, c1, c4, c5, zl_c, zx_tsw_lo, eh, eb, nI_add]
    · rw [if_neg h18] at hw
      by_cases e18 : d = 18
      · subst e18
        simp only [if_true, Bool.and_eq_true, decide_eq_true_eq] at hw
        match st, hw, hlen, hb, J with
        | b0 :: a0 :: r, hw, hlen, hb, J =>
          simp only [List.length_cons] at hlen hw
          have hJ := J (some (.int (nI b0.toNat))) _ s ((a0 && b0) :: r) b (by simpa using hw.2) (by simp; omega) (hb.and (by omega))
          have ht := hb.top
          rw [za_ev, if_neg (by omega), if_pos rfl]
          refine Eq.trans ?_ hJ
          simp (disch := first | omega | assumption | decide +kernel | exact Nat.le_of_ble_eq_true rfl) only [↓zx_push, ↓zx_ild0, ↓zx_ald0, ↓zx_lld0, ↓zx_ist0, ↓zx_ast0, ↓zx_inc0, ↓zx_ild1, ↓zx_ald1, ↓zx_lld1, ↓zx_ist1i, ↓zx_ist1r, ↓zx_ist1n, ↓zx_ast1i, ↓zx_ast1r, ↓zx_ast1n, ↓zx_inc1i, ↓zx_inc1r, ↓zx_inc1n, ↓zx_ild2, ↓zx_ald2, ↓zx_lld2, ↓zx_ist2i, ↓zx_ist2r, ↓zx_ist2n, ↓zx_ast2i, ↓zx_ast2r, ↓zx_ast2n, ↓zx_inc2i, ↓zx_inc2r, ↓zx_inc2n, ↓zx_ild3, ↓zx_ald3, ↓zx_lld3, ↓zx_ist3i, ↓zx_ist3r, ↓zx_ist3n, ↓zx_ast3i, ↓zx_ast3r, ↓zx_ast3n, ↓zx_inc3i, ↓zx_inc3r, ↓zx_inc3n, ↓zx_ild4, ↓zx_ald4, ↓zx_lld4, ↓zx_ist4i, ↓zx_ist4r, ↓zx_ist4n, ↓zx_ast4i, ↓zx_ast4r, ↓zx_ast4n, ↓zx_inc4i, ↓zx_inc4r, ↓zx_inc4n, ↓zx_ild5, ↓zx_ald5, ↓zx_lld5, ↓zx_ist5i, ↓zx_ist5r, ↓zx_ist5n, ↓zx_ast5i, ↓zx_ast5r, ↓zx_ast5n, ↓zx_inc5i, ↓zx_inc5r, ↓zx_inc5n, ↓zx_ild6, ↓zx_ald6, ↓zx_lld6, ↓zx_ist6i, ↓zx_ist6r, ↓zx_ist6n, ↓zx_ast6i, ↓zx_ast6r, ↓zx_ast6n, ↓zx_inc6i, ↓zx_inc6r, ↓zx_inc6n, ↓zx_ild7, ↓zx_ald7, ↓zx_lld7, ↓zx_ist7i, ↓zx_ist7r, ↓zx_ist7n, ↓zx_ast7i, ↓zx_ast7r, ↓zx_ast7n, ↓zx_inc7i, ↓zx_inc7r, ↓zx_inc7n, ↓zx_ild8, ↓zx_ald8, ↓zx_lld8, ↓zx_ist8i, ↓zx_ist8r, ↓zx_ist8n, ↓zx_ast8i, ↓zx_ast8r, ↓zx_ast8n, ↓zx_inc8i, ↓zx_inc8r, ↓zx_inc8n, ↓zx_ild9, ↓zx_ald9, ↓zx_lld9, ↓zx_ist9i, ↓zx_ist9r, ↓zx_ist9n, ↓zx_ast9i, ↓zx_ast9r, ↓zx_ast9n, ↓zx_inc9i, ↓zx_inc9r, ↓zx_inc9n, ↓zx_ild10, ↓zx_ald10, ↓zx_lld10, ↓zx_ist10i, ↓zx_ist10r, ↓zx_ist10n, ↓zx_ast10i, ↓zx_ast10r, ↓zx_ast10n, ↓zx_inc10i, ↓zx_inc10r, ↓zx_inc10n, ↓zx_b, ↓zx_u, ↓zx_i2l, ↓zx_lb, ↓zx_lu, ↓zx_lcmp, ↓zx_dupi, ↓zx_dupr, ↓zx_dup2, ↓zx_pop, zx_ceq_t, zx_ceq_f, zx_clt_t, zx_clt_f, zx_cle_t, zx_cle_f, zx_eq_t, zx_eq_f, zx_lt_t, zx_lt_f, zx_le_t, zx_le_f, zx_eq_b, zx_rem, zx_div, zx_go0, zx_go1, ↓zx_call0, ↓zx_call1, ↓zx_call2, ↓zx_call3, ↓zx_call4, ↓zx_call5, ↓zx_call6, ↓zx_call7, ↓zx_vc0, ↓zx_vn0, ↓zx_vc1, ↓zx_vn1, ↓zx_vc2, ↓zx_vn2, ↓zx_vc3, ↓zx_vn3, ↓zx_vc4, ↓zx_vn4, ↓zx_vc5, ↓zx_vn5, ↓zx_vc6, ↓zx_vn6, ↓zx_sc0, ↓zx_sc1, ↓zx_sc2, ↓zx_mmin, ↓zx_mmax, zx_ret0, zx_reti, zx_retl, zx_reta, zx_retz, zx_retz0, zx_retz1, zj_run, zj_e0, zj_E0, List.length_cons, List.length_nil, List.cons_append, List.nil_append, List.reduceReplicate, Nat.reduceLeDiff, Nat.reduceAdd, Nat.reduceSub, Nat.zero_add, Nat.zero_le, Nat.le_refl, reduceIte, ↓zb_X2_sumOfFacts_6, ↓zb_X2_sumOfFacts_60, ↓zb_X2_sumOfFacts_148, ↓G, a, c1, c4, c5, zl_c, zx_tsw_0, ht, nI_add]
      rw [if_neg e18] at hw
      by_cases e19 : d = 19
      · subst e19
        simp only [if_true, Bool.and_eq_true, decide_eq_true_eq] at hw
        match st, hw, hlen, hb, J with
        | b0 :: a0 :: r, hw, hlen, hb, J =>
          simp only [List.length_cons] at hlen hw
          have hJ := J (some (.int (nI b0.toNat))) _ s ((a0 || b0) :: r) b (by simpa using hw.2) (by simp; omega) (hb.or (by omega))
          have ht := hb.top
          rw [za_ev, if_neg (by omega), if_neg (by omega), if_pos rfl]
          refine Eq.trans ?_ hJ
          simp (disch := first | omega | assumption | decide +kernel | exact Nat.le_of_ble_eq_true rfl) only [↓zx_push, ↓zx_ild0, ↓zx_ald0, ↓zx_lld0, ↓zx_ist0, ↓zx_ast0, ↓zx_inc0, ↓zx_ild1, ↓zx_ald1, ↓zx_lld1, ↓zx_ist1i, ↓zx_ist1r, ↓zx_ist1n, ↓zx_ast1i, ↓zx_ast1r, ↓zx_ast1n, ↓zx_inc1i, ↓zx_inc1r, ↓zx_inc1n, ↓zx_ild2, ↓zx_ald2, ↓zx_lld2, ↓zx_ist2i, ↓zx_ist2r, ↓zx_ist2n, ↓zx_ast2i, ↓zx_ast2r, ↓zx_ast2n, ↓zx_inc2i, ↓zx_inc2r, ↓zx_inc2n, ↓zx_ild3, ↓zx_ald3, ↓zx_lld3, ↓zx_ist3i, ↓zx_ist3r, ↓zx_ist3n, ↓zx_ast3i, ↓zx_ast3r, ↓zx_ast3n, ↓zx_inc3i, ↓zx_inc3r, ↓zx_inc3n, ↓zx_ild4, ↓zx_ald4, ↓zx_lld4, ↓zx_ist4i, ↓zx_ist4r, ↓zx_ist4n, ↓zx_ast4i, ↓zx_ast4r, ↓zx_ast4n, ↓zx_inc4i, ↓zx_inc4r, ↓zx_inc4n, ↓zx_ild5, ↓zx_ald5, ↓zx_lld5, ↓zx_ist5i, ↓zx_ist5r, ↓zx_ist5n, ↓zx_ast5i, ↓zx_ast5r, ↓zx_ast5n, ↓zx_inc5i, ↓zx_inc5r, ↓zx_inc5n, ↓zx_ild6, ↓zx_ald6, ↓zx_lld6, ↓zx_ist6i, ↓zx_ist6r, ↓zx_ist6n, ↓zx_ast6i, ↓zx_ast6r, ↓zx_ast6n, ↓zx_inc6i, ↓zx_inc6r, ↓zx_inc6n, ↓zx_ild7, ↓zx_ald7, ↓zx_lld7, ↓zx_ist7i, ↓zx_ist7r, ↓zx_ist7n, ↓zx_ast7i, ↓zx_ast7r, ↓zx_ast7n, ↓zx_inc7i, ↓zx_inc7r, ↓zx_inc7n, ↓zx_ild8, ↓zx_ald8, ↓zx_lld8, ↓zx_ist8i, ↓zx_ist8r, ↓zx_ist8n, ↓zx_ast8i, ↓zx_ast8r, ↓zx_ast8n, ↓zx_inc8i, ↓zx_inc8r, ↓zx_inc8n, ↓zx_ild9, ↓zx_ald9, ↓zx_lld9, ↓zx_ist9i, ↓zx_ist9r, ↓zx_ist9n, ↓zx_ast9i, ↓zx_ast9r, ↓zx_ast9n, ↓zx_inc9i, ↓zx_inc9r, ↓zx_inc9n, ↓zx_ild10, ↓zx_ald10, ↓zx_lld10, ↓zx_ist10i, ↓zx_ist10r, ↓zx_ist10n, ↓zx_ast10i, ↓zx_ast10r, ↓zx_ast10n, ↓zx_inc10i, ↓zx_inc10r, ↓zx_inc10n, ↓zx_b, ↓zx_u, ↓zx_i2l, ↓zx_lb, ↓zx_lu, ↓zx_lcmp, ↓zx_dupi, ↓zx_dupr, ↓zx_dup2, ↓zx_pop, zx_ceq_t, zx_ceq_f, zx_clt_t, zx_clt_f, zx_cle_t, zx_cle_f, zx_eq_t, zx_eq_f, zx_lt_t, zx_lt_f, zx_le_t, zx_le_f, zx_eq_b, zx_rem, zx_div, zx_go0, zx_go1, ↓zx_call0, ↓zx_call1, ↓zx_call2, ↓zx_call3, ↓zx_call4, ↓zx_call5, ↓zx_call6, ↓zx_call7, ↓zx_vc0, ↓zx_vn0, ↓zx_vc1, ↓zx_vn1, ↓zx_vc2, ↓zx_vn2, ↓zx_vc3, ↓zx_vn3, ↓zx_vc4, ↓zx_vn4, ↓zx_vc5, ↓zx_vn5, ↓zx_vc6, ↓zx_vn6, ↓zx_sc0, ↓zx_sc1, ↓zx_sc2, ↓zx_mmin, ↓zx_mmax, zx_ret0, zx_reti, zx_retl, zx_reta, zx_retz, zx_retz0, zx_retz1, zj_run, zj_e0, zj_E0, List.length_cons, List.length_nil, List.cons_append, List.nil_append, List.reduceReplicate, Nat.reduceLeDiff, Nat.reduceAdd, Nat.reduceSub, Nat.zero_add, Nat.zero_le, Nat.le_refl, reduceIte, ↓zb_X2_sumOfFacts_6, ↓zb_X2_sumOfFacts_73, ↓zb_X2_sumOfFacts_148, ↓G, a, c1, c4, c5, zl_c, zx_tsw_1, ht, nI_add]
      rw [if_neg e19] at hw
      by_cases e20 : d = 20
      · subst e20
        simp only [if_true, Bool.and_eq_true, decide_eq_true_eq] at hw
        match st, hw, hlen, hb, J with
        | b0 :: r, hw, hlen, hb, J =>
          simp only [List.length_cons] at hlen hw
          have hJ := J (some (.int (nI b0.toNat))) _ s ((!b0) :: r) b (by simpa using hw.2) (by simp; omega) hb.not
          have ht := hb.top
          rw [za_ev, if_neg (by omega), if_neg (by omega), if_neg (by omega), if_pos rfl]
          refine Eq.trans ?_ hJ
          simp (disch := first | omega | assumption | decide +kernel | exact Nat.le_of_ble_eq_true rfl) only [↓zx_push, ↓zx_ild0, ↓zx_ald0, ↓zx_lld0, ↓zx_ist0, ↓zx_ast0, ↓zx_inc0, ↓zx_ild1, ↓zx_ald1, ↓zx_lld1, ↓zx_ist1i, ↓zx_ist1r, ↓zx_ist1n, ↓zx_ast1i, ↓zx_ast1r, ↓zx_ast1n, ↓zx_inc1i, ↓zx_inc1r, ↓zx_inc1n, ↓zx_ild2, ↓zx_ald2, ↓zx_lld2, ↓zx_ist2i, ↓zx_ist2r, ↓zx_ist2n, ↓zx_ast2i, ↓zx_ast2r, ↓zx_ast2n, ↓zx_inc2i, ↓zx_inc2r, ↓zx_inc2n, ↓zx_ild3, ↓zx_ald3, ↓zx_lld3, ↓zx_ist3i, ↓zx_ist3r, ↓zx_ist3n, ↓zx_ast3i, ↓zx_ast3r, ↓zx_ast3n, ↓zx_inc3i, ↓zx_inc3r, ↓zx_inc3n, ↓zx_ild4, ↓zx_ald4, ↓zx_lld4, ↓zx_ist4i, ↓zx_ist4r, ↓zx_ist4n, ↓zx_ast4i, ↓zx_ast4r, ↓zx_ast4n, ↓zx_inc4i, ↓zx_inc4r, ↓zx_inc4n, ↓zx_ild5, ↓zx_ald5, ↓zx_lld5, ↓zx_ist5i, ↓zx_ist5r, ↓zx_ist5n, ↓zx_ast5i, ↓zx_ast5r, ↓zx_ast5n, ↓zx_inc5i, ↓zx_inc5r, ↓zx_inc5n, ↓zx_ild6, ↓zx_ald6, ↓zx_lld6, ↓zx_ist6i, ↓zx_ist6r, ↓zx_ist6n, ↓zx_ast6i, ↓zx_ast6r, ↓zx_ast6n, ↓zx_inc6i, ↓zx_inc6r, ↓zx_inc6n, ↓zx_ild7, ↓zx_ald7, ↓zx_lld7, ↓zx_ist7i, ↓zx_ist7r, ↓zx_ist7n, ↓zx_ast7i, ↓zx_ast7r, ↓zx_ast7n, ↓zx_inc7i, ↓zx_inc7r, ↓zx_inc7n, ↓zx_ild8, ↓zx_ald8, ↓zx_lld8, ↓zx_ist8i, ↓zx_ist8r, ↓zx_ist8n, ↓zx_ast8i, ↓zx_ast8r, ↓zx_ast8n, ↓zx_inc8i, ↓zx_inc8r, ↓zx_inc8n, ↓zx_ild9, ↓zx_ald9, ↓zx_lld9, ↓zx_ist9i, ↓zx_ist9r, ↓zx_ist9n, ↓zx_ast9i, ↓zx_ast9r, ↓zx_ast9n, ↓zx_inc9i, ↓zx_inc9r, ↓zx_inc9n, ↓zx_ild10, ↓zx_ald10, ↓zx_lld10, ↓zx_ist10i, ↓zx_ist10r, ↓zx_ist10n, ↓zx_ast10i, ↓zx_ast10r, ↓zx_ast10n, ↓zx_inc10i, ↓zx_inc10r, ↓zx_inc10n, ↓zx_b, ↓zx_u, ↓zx_i2l, ↓zx_lb, ↓zx_lu, ↓zx_lcmp, ↓zx_dupi, ↓zx_dupr, ↓zx_dup2, ↓zx_pop, zx_ceq_t, zx_ceq_f, zx_clt_t, zx_clt_f, zx_cle_t, zx_cle_f, zx_eq_t, zx_eq_f, zx_lt_t, zx_lt_f, zx_le_t, zx_le_f, zx_eq_b, zx_rem, zx_div, zx_go0, zx_go1, ↓zx_call0, ↓zx_call1, ↓zx_call2, ↓zx_call3, ↓zx_call4, ↓zx_call5, ↓zx_call6, ↓zx_call7, ↓zx_vc0, ↓zx_vn0, ↓zx_vc1, ↓zx_vn1, ↓zx_vc2, ↓zx_vn2, ↓zx_vc3, ↓zx_vn3, ↓zx_vc4, ↓zx_vn4, ↓zx_vc5, ↓zx_vn5, ↓zx_vc6, ↓zx_vn6, ↓zx_sc0, ↓zx_sc1, ↓zx_sc2, ↓zx_mmin, ↓zx_mmax, zx_ret0, zx_reti, zx_retl, zx_reta, zx_retz, zx_retz0, zx_retz1, zj_run, zj_e0, zj_E0, List.length_cons, List.length_nil, List.cons_append, List.nil_append, List.reduceReplicate, Nat.reduceLeDiff, Nat.reduceAdd, Nat.reduceSub, Nat.zero_add, Nat.zero_le, Nat.le_refl, reduceIte, ↓zb_X2_sumOfFacts_6, ↓zb_X2_sumOfFacts_83, ↓zb_X2_sumOfFacts_148, ↓G, a, c1, c4, c5, zl_c, zx_tsw_2, ht, nI_add]
      rw [if_neg e20] at hw
      simp only [Bool.and_eq_true, decide_eq_true_eq] at hw
      obtain ⟨w1, w2, w3, w4⟩ := hw
      match st, w2, hlen, hb, J with
      | [b0], w2, hlen, hb, J =>
        have ht := hb.top
        by_cases e21 : d = 21
        · subst e21
          have hJ := J (some (.int (nI b0.toNat))) (nI 0) (s + (b0.toNat * n : Nat)) [] (b - 1) w4 (by simp) (za_bits.nil _)
          rw [za_ev, if_neg (by omega), if_neg (by omega), if_neg (by omega), if_neg (by omega), if_pos rfl]
          have e9 : (if [b0].getD 0 false = true then (n : Int) else 0) = (b0.toNat * n : Nat) := by cases b0 <;> simp
          rw [e9]
          refine Eq.trans ?_ hJ
          simp (disch := first | omega | assumption | decide +kernel | exact Nat.le_of_ble_eq_true rfl) only [↓zx_push, ↓zx_ild0, ↓zx_ald0, ↓zx_lld0, ↓zx_ist0, ↓zx_ast0, ↓zx_inc0, ↓zx_ild1, ↓zx_ald1, ↓zx_lld1, ↓zx_ist1i, ↓zx_ist1r, ↓zx_ist1n, ↓zx_ast1i, ↓zx_ast1r, ↓zx_ast1n, ↓zx_inc1i, ↓zx_inc1r, ↓zx_inc1n, ↓zx_ild2, ↓zx_ald2, ↓zx_lld2, ↓zx_ist2i, ↓zx_ist2r, ↓zx_ist2n, ↓zx_ast2i, ↓zx_ast2r, ↓zx_ast2n, ↓zx_inc2i, ↓zx_inc2r, ↓zx_inc2n, ↓zx_ild3, ↓zx_ald3, ↓zx_lld3, ↓zx_ist3i, ↓zx_ist3r, ↓zx_ist3n, ↓zx_ast3i, ↓zx_ast3r, ↓zx_ast3n, ↓zx_inc3i, ↓zx_inc3r, ↓zx_inc3n, ↓zx_ild4, ↓zx_ald4, ↓zx_lld4, ↓zx_ist4i, ↓zx_ist4r, ↓zx_ist4n, ↓zx_ast4i, ↓zx_ast4r, ↓zx_ast4n, ↓zx_inc4i, ↓zx_inc4r, ↓zx_inc4n, ↓zx_ild5, ↓zx_ald5, ↓zx_lld5, ↓zx_ist5i, ↓zx_ist5r, ↓zx_ist5n, ↓zx_ast5i, ↓zx_ast5r, ↓zx_ast5n, ↓zx_inc5i, ↓zx_inc5r, ↓zx_inc5n, ↓zx_ild6, ↓zx_ald6, ↓zx_lld6, ↓zx_ist6i, ↓zx_ist6r, ↓zx_ist6n, ↓zx_ast6i, ↓zx_ast6r, ↓zx_ast6n, ↓zx_inc6i, ↓zx_inc6r, ↓zx_inc6n, ↓zx_ild7, ↓zx_ald7, ↓zx_lld7, ↓zx_ist7i, ↓zx_ist7r, ↓zx_ist7n, ↓zx_ast7i, ↓zx_ast7r, ↓zx_ast7n, ↓zx_inc7i, ↓zx_inc7r, ↓zx_inc7n, ↓zx_ild8, ↓zx_ald8, ↓zx_lld8, ↓zx_ist8i, ↓zx_ist8r, ↓zx_ist8n, ↓zx_ast8i, ↓zx_ast8r, ↓zx_ast8n, ↓zx_inc8i, ↓zx_inc8r, ↓zx_inc8n, ↓zx_ild9, ↓zx_ald9, ↓zx_lld9, ↓zx_ist9i, ↓zx_ist9r, ↓zx_ist9n, ↓zx_ast9i, ↓zx_ast9r, ↓zx_ast9n, ↓zx_inc9i, ↓zx_inc9r, ↓zx_inc9n, ↓zx_ild10, ↓zx_ald10, ↓zx_lld10, ↓zx_ist10i, ↓zx_ist10r, ↓zx_ist10n, ↓zx_ast10i, ↓zx_ast10r, ↓zx_ast10n, ↓zx_inc10i, ↓zx_inc10r, ↓zx_inc10n, ↓zx_b, ↓zx_u, ↓zx_i2l, ↓zx_lb, ↓zx_lu, ↓zx_lcmp, ↓zx_dupi, ↓zx_dupr, ↓zx_dup2, ↓zx_pop, zx_ceq_t, zx_ceq_f, zx_clt_t, zx_clt_f, zx_cle_t, zx_cle_f, zx_eq_t, zx_eq_f, zx_lt_t, zx_lt_f, zx_le_t, zx_le_f, zx_eq_b, zx_rem, zx_div, zx_go0, zx_go1, ↓zx_call0, ↓zx_call1, ↓zx_call2, ↓zx_call3, ↓zx_call4, ↓zx_call5, ↓zx_call6, ↓zx_call7, ↓zx_vc0, ↓zx_vn0, ↓zx_vc1, ↓zx_vn1, ↓zx_vc2, ↓zx_vn2, ↓zx_vc3, ↓zx_vn3, ↓zx_vc4, ↓zx_vn4, ↓zx_vc5, ↓zx_vn5, ↓zx_vc6, ↓zx_vn6, ↓zx_sc0, ↓zx_sc1, ↓zx_sc2, ↓zx_mmin, ↓zx_mmax, zx_ret0, zx_reti, zx_retl, zx_reta, zx_retz, zx_retz0, zx_retz1, zj_run, zj_e0, zj_E0, List.length_cons, List.length_nil, List.cons_append, List.nil_append, List.reduceReplicate, Nat.reduceLeDiff, Nat.reduceAdd, Nat.reduceSub, Nat.zero_add, Nat.zero_le, Nat.le_refl, reduceIte, ↓zb_X2_sumOfFacts_6, ↓zb_X2_sumOfFacts_90, ↓zb_X2_sumOfFacts_148, ↓G, a, c1, c4, c5, zl_c, zx_tsw_3, ht, nI_add, pk_mul, iI_add]
        · have e22 : d = 22 := by omega
          subst e22
          have hJ := J (some (.int (nI b0.toNat))) (nI 0) (s - (b0.toNat * n : Nat)) [] (b - 1) w4 (by simp) (za_bits.nil _)
          rw [za_ev, if_neg (by omega), if_neg (by omega), if_neg (by omega), if_neg (by omega), if_neg (by omega)]
          have e9 : (if [b0].getD 0 false = true then (n : Int) else 0) = (b0.toNat * n : Nat) := by cases b0 <;> simp
          rw [e9]
          refine Eq.trans ?_ hJ
          simp (disch := first | omega | assumption | decide +kernel | exact Nat.le_of_ble_eq_true rfl) only [↓zx_push, ↓zx_ild0, ↓zx_ald0, ↓zx_lld0, ↓zx_ist0, ↓zx_ast0, ↓zx_inc0, ↓zx_ild1, ↓zx_ald1, ↓zx_lld1, ↓zx_ist1i, ↓zx_ist1r, ↓zx_ist1n, ↓zx_ast1i, ↓zx_ast1r, ↓zx_ast1n, ↓zx_inc1i, ↓zx_inc1r, ↓zx_inc1n, ↓zx_ild2, ↓zx_ald2, ↓zx_lld2, ↓zx_ist2i, ↓zx_ist2r, ↓zx_ist2n, ↓zx_ast2i, ↓zx_ast2r, ↓zx_ast2n, ↓zx_inc2i, ↓zx_inc2r, ↓zx_inc2n, ↓zx_ild3, ↓zx_ald3, ↓zx_lld3, ↓zx_ist3i, ↓zx_ist3r, ↓zx_ist3n, ↓zx_ast3i, ↓zx_ast3r, ↓zx_ast3n, ↓zx_inc3i, ↓zx_inc3r, ↓zx_inc3n, ↓zx_ild4, ↓zx_ald4, ↓zx_lld4, ↓zx_ist4i, ↓zx_ist4r, ↓zx_ist4n, ↓zx_ast4i, ↓zx_ast4r, ↓zx_ast4n, ↓zx_inc4i, ↓zx_inc4r, ↓zx_inc4n, ↓zx_ild5, ↓zx_ald5, ↓zx_lld5, ↓zx_ist5i, ↓zx_ist5r, ↓zx_ist5n, ↓zx_ast5i, ↓zx_ast5r, ↓zx_ast5n, ↓zx_inc5i, ↓zx_inc5r, ↓zx_inc5n, ↓zx_ild6, ↓zx_ald6, ↓zx_lld6, ↓zx_ist6i, ↓zx_ist6r, ↓zx_ist6n, ↓zx_ast6i, ↓zx_ast6r, ↓zx_ast6n, ↓zx_inc6i, ↓zx_inc6r, ↓zx_inc6n, ↓zx_ild7, ↓zx_ald7, ↓zx_lld7, ↓zx_ist7i, ↓zx_ist7r, ↓zx_ist7n, ↓zx_ast7i, ↓zx_ast7r, ↓zx_ast7n, ↓zx_inc7i, ↓zx_inc7r, ↓zx_inc7n, ↓zx_ild8, ↓zx_ald8, ↓zx_lld8, ↓zx_ist8i, ↓zx_ist8r, ↓zx_ist8n, ↓zx_ast8i, ↓zx_ast8r, ↓zx_ast8n, ↓zx_inc8i, ↓zx_inc8r, ↓zx_inc8n, ↓zx_ild9, ↓zx_ald9, ↓zx_lld9, ↓zx_ist9i, ↓zx_ist9r, ↓zx_ist9n, ↓zx_ast9i, ↓zx_ast9r, ↓zx_ast9n, ↓zx_inc9i, ↓zx_inc9r, ↓zx_inc9n, ↓zx_ild10, ↓zx_ald10, ↓zx_lld10, ↓zx_ist10i, ↓zx_ist10r, ↓zx_ist10n, ↓zx_ast10i, ↓zx_ast10r, ↓zx_ast10n, ↓zx_inc10i, ↓zx_inc10r, ↓zx_inc10n, ↓zx_b, ↓zx_u, ↓zx_i2l, ↓zx_lb, ↓zx_lu, ↓zx_lcmp, ↓zx_dupi, ↓zx_dupr, ↓zx_dup2, ↓zx_pop, zx_ceq_t, zx_ceq_f, zx_clt_t, zx_clt_f, zx_cle_t, zx_cle_f, zx_eq_t, zx_eq_f, zx_lt_t, zx_lt_f, zx_le_t, zx_le_f, zx_eq_b, zx_rem, zx_div, zx_go0, zx_go1, ↓zx_call0, ↓zx_call1, ↓zx_call2, ↓zx_call3, ↓zx_call4, ↓zx_call5, ↓zx_call6, ↓zx_call7, ↓zx_vc0, ↓zx_vn0, ↓zx_vc1, ↓zx_vn1, ↓zx_vc2, ↓zx_vn2, ↓zx_vc3, ↓zx_vn3, ↓zx_vc4, ↓zx_vn4, ↓zx_vc5, ↓zx_vn5, ↓zx_vc6, ↓zx_vn6, ↓zx_sc0, ↓zx_sc1, ↓zx_sc2, ↓zx_mmin, ↓zx_mmax, zx_ret0, zx_reti, zx_retl, zx_reta, zx_retz, zx_retz0, zx_retz1, zj_run, zj_e0, zj_E0, List.length_cons, List.length_nil, List.cons_append, List.nil_append, List.reduceReplicate, Nat.reduceLeDiff, Nat.reduceAdd, Nat.reduceSub, Nat.zero_add, Nat.zero_le, Nat.le_refl, reduceIte, ↓zb_X2_sumOfFacts_6, ↓zb_X2_sumOfFacts_107, ↓zb_X2_sumOfFacts_148, ↓G, a, c1, c4, c5, zl_c, zx_tsw_4, ht, nI_add, pk_mul, iI_sub]
theorem zt_X2_sumOfFacts {m : zj_M} (hl : za_pl q) (hfb : ∀ x, x < 6 → f x < 100) (hC : za_C q m P) (hF : ∀ x, x < 6 → m (q + 3) x = nI (f x)) {b : Nat} (hw : za_wf P 0 b = true) : zf_X2_sumOfFacts [.ref q] m = some ([.int (iI (za_ev f P [] 0))], m) := by
  have h := zt_sum_loop hl hfb P 0 zj_fu none m (nI 0) 0 [] b rfl (by simp) (by have := hC.2.1; unfold zj_fu; omega) hC hF hw (by simp) (za_bits.nil _)
  refine Eq.trans ?_ h
  simp (disch := first | omega | assumption | decide +kernel | exact Nat.le_of_ble_eq_true rfl) only [↓zx_push, ↓zx_ild0, ↓zx_ald0, ↓zx_lld0, ↓zx_ist0, ↓zx_ast0, ↓zx_inc0, ↓zx_ild1, ↓zx_ald1, ↓zx_lld1, ↓zx_ist1i, ↓zx_ist1r, ↓zx_ist1n, ↓zx_ast1i, ↓zx_ast1r, ↓zx_ast1n, ↓zx_inc1i, ↓zx_inc1r, ↓zx_inc1n, ↓zx_ild2, ↓zx_ald2, ↓zx_lld2, ↓zx_ist2i, ↓zx_ist2r, ↓zx_ist2n, ↓zx_ast2i, ↓zx_ast2r, ↓zx_ast2n, ↓zx_inc2i, ↓zx_inc2r, ↓zx_inc2n, ↓zx_ild3, ↓zx_ald3, ↓zx_lld3, ↓zx_ist3i, ↓zx_ist3r, ↓zx_ist3n, ↓zx_ast3i, ↓zx_ast3r, ↓zx_ast3n, ↓zx_inc3i, ↓zx_inc3r, ↓zx_inc3n, ↓zx_ild4, ↓zx_ald4, ↓zx_lld4, ↓zx_ist4i, ↓zx_ist4r, ↓zx_ist4n, ↓zx_ast4i, ↓zx_ast4r, ↓zx_ast4n, ↓zx_inc4i, ↓zx_inc4r, ↓zx_inc4n, ↓zx_ild5, ↓zx_ald5, ↓zx_lld5, ↓zx_ist5i, ↓zx_ist5r, ↓zx_ist5n, ↓zx_ast5i, ↓zx_ast5r, ↓zx_ast5n, ↓zx_inc5i, ↓zx_inc5r, ↓zx_inc5n, ↓zx_ild6, ↓zx_ald6, ↓zx_lld6, ↓zx_ist6i, ↓zx_ist6r, ↓zx_ist6n, ↓zx_ast6i, ↓zx_ast6r, ↓zx_ast6n, ↓zx_inc6i, ↓zx_inc6r, ↓zx_inc6n, ↓zx_ild7, ↓zx_ald7, ↓zx_lld7, ↓zx_ist7i, ↓zx_ist7r, ↓zx_ist7n, ↓zx_ast7i, ↓zx_ast7r, ↓zx_ast7n, ↓zx_inc7i, ↓zx_inc7r, ↓zx_inc7n, ↓zx_ild8, ↓zx_ald8, ↓zx_lld8, ↓zx_ist8i, ↓zx_ist8r, ↓zx_ist8n, ↓zx_ast8i, ↓zx_ast8r, ↓zx_ast8n, ↓zx_inc8i, ↓zx_inc8r, ↓zx_inc8n, ↓zx_ild9, ↓zx_ald9, ↓zx_lld9, ↓zx_ist9i, ↓zx_ist9r, ↓zx_ist9n, ↓zx_ast9i, ↓zx_ast9r, ↓zx_ast9n, ↓zx_inc9i, ↓zx_inc9r, ↓zx_inc9n, ↓zx_ild10, ↓zx_ald10, ↓zx_lld10, ↓zx_ist10i, ↓zx_ist10r, ↓zx_ist10n, ↓zx_ast10i, ↓zx_ast10r, ↓zx_ast10n, ↓zx_inc10i, ↓zx_inc10r, ↓zx_inc10n, ↓zx_b, ↓zx_u, ↓zx_i2l, ↓zx_lb, ↓zx_lu, ↓zx_lcmp, ↓zx_dupi, ↓zx_dupr, ↓zx_dup2, ↓zx_pop, zx_ceq_t, zx_ceq_f, zx_clt_t, zx_clt_f, zx_cle_t, zx_cle_f, zx_eq_t, zx_eq_f, zx_lt_t, zx_lt_f, zx_le_t, zx_le_f, zx_eq_b, zx_rem, zx_div, zx_go0, zx_go1, ↓zx_call0, ↓zx_call1, ↓zx_call2, ↓zx_call3, ↓zx_call4, ↓zx_call5, ↓zx_call6, ↓zx_call7, ↓zx_vc0, ↓zx_vn0, ↓zx_vc1, ↓zx_vn1, ↓zx_vc2, ↓zx_vn2, ↓zx_vc3, ↓zx_vn3, ↓zx_vc4, ↓zx_vn4, ↓zx_vc5, ↓zx_vn5, ↓zx_vc6, ↓zx_vn6, ↓zx_sc0, ↓zx_sc1, ↓zx_sc2, ↓zx_mmin, ↓zx_mmax, zx_ret0, zx_reti, zx_retl, zx_reta, zx_retz, zx_retz0, zx_retz1, zj_run, zj_e0, zj_E0, List.length_cons, List.length_nil, List.cons_append, List.nil_append, List.reduceReplicate, Nat.reduceLeDiff, Nat.reduceAdd, Nat.reduceSub, Nat.zero_add, Nat.zero_le, Nat.le_refl, reduceIte, ↓zf_X2_sumOfFacts, ↓zb_X2_sumOfFacts_0, zl_c]
  rfl
/-- bounds of a SUM -/
theorem za_ev_bound (f : Nat → Nat) : ∀ (c : List (Nat × Nat)) (st : List Bool) (s : Int) (b : Nat) (N : Nat), za_wf c st.length b = true → (s ≤ N ∧ -(N : Int) ≤ s) → (za_ev f c st s ≤ (N + 99 * b : Nat) ∧ -((N + 99 * b : Nat) : Int) ≤ za_ev f c st s) := by
  intro c
  induction c with
  | nil =>
    intro st s b N hw hs
    unfold za_ev
    omega
  | cons e c ih =>
    intro st s b N hw hs
    obtain ⟨d, n⟩ := e
    simp only [za_wf, Bool.and_eq_true, decide_eq_true_eq] at hw
    obtain ⟨hn, hw⟩ := hw
    unfold za_ev
    by_cases h18 : d < 18
    · rw [if_pos h18] at hw ⊢
      simp only [Bool.and_eq_true, decide_eq_true_eq] at hw
      exact ih _ s b N (by simpa using hw.2) hs
    rw [if_neg h18] at hw ⊢
    by_cases e18 : d = 18
    · rw [if_pos e18] at hw ⊢
      simp only [Bool.and_eq_true, decide_eq_true_eq] at hw
      refine ih _ s b N ?_ hs
      rw [List.length_cons, List.length_drop, show st.length - 2 + 1 = st.length - 1 by omega]
      exact hw.2
    rw [if_neg e18] at hw ⊢
    by_cases e19 : d = 19
    · rw [if_pos e19] at hw ⊢
      simp only [Bool.and_eq_true, decide_eq_true_eq] at hw
      refine ih _ s b N ?_ hs
      rw [List.length_cons, List.length_drop, show st.length - 2 + 1 = st.length - 1 by omega]
      exact hw.2
    rw [if_neg e19] at hw ⊢
    by_cases e20 : d = 20
    · rw [if_pos e20] at hw ⊢
      simp only [Bool.and_eq_true, decide_eq_true_eq] at hw
      refine ih _ s b N ?_ hs
      rw [List.length_cons, List.length_drop, show st.length - 1 + 1 = st.length by omega]
      exact hw.2
    rw [if_neg e20] at hw ⊢
    simp only [Bool.and_eq_true, decide_eq_true_eq] at hw
    obtain ⟨w1, w2, w3, w4⟩ := hw
    by_cases e21 : d = 21
    · rw [if_pos e21]
      have := ih [] (s + if st.getD 0 false = true then (n : Int) else 0) (b - 1) (N + 99) (by simpa using w4) (by split <;> omega)
      omega
    · rw [if_neg e21]
      have := ih [] (s - if st.getD 0 false = true then (n : Int) else 0) (b - 1) (N + 99) (by simpa using w4) (by split <;> omega)
      omega
end ZQ
