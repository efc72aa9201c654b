/-! one STEP of the ring -/
def za_nc (ra : Nat) (A : za_A) (w : Nat) : Nat := (A 4 w + za_pace ra A w) % 16
def za_nm (P : List (Nat × Nat)) (A : za_A) (w : Nat) : Nat := (nI (A 5 w) + za_sway P A w).toBitVec.toNat % 4
def za_seq (P : List (Nat × Nat)) (ra : Nat) (A : za_A) : Nat → za_A
  | 0 => A
  | i + 1 => if A 6 i = 0 then za_ho (za_up (za_up (za_seq P ra A i) 4 i (za_nc ra A i)) 5 i (za_nm P A i)) i else za_seq P ra A i
def za_next (P : List (Nat × Nat)) (ra : Nat) (A : za_A) : za_A := za_up (za_seq P ra A (A 0 0)) 0 1 (A 0 1 + 1)
theorem za_ho_n {B : za_A} {w f j : Nat} (h : ¬ ((f = 5 ∨ f = 7) ∧ j = w)) : za_ho B w f j = B f j := by
  unfold za_ho
  split
  · rw [za_up_n (by omega), za_up_n (by omega)]
  · rfl
theorem za_seq_n {P : List (Nat × Nat)} {ra : Nat} {A : za_A} {f : Nat} (hf : f ≠ 4 ∧ f ≠ 5 ∧ f ≠ 7) (j : Nat) : ∀ i, za_seq P ra A i f j = A f j
  | 0 => rfl
  | i + 1 => by
    rw [za_seq]
    split
    · rw [za_ho_n (by omega), za_up_n (by omega), za_up_n (by omega), za_seq_n hf j i]
    · exact za_seq_n hf j i
theorem za_seq_ge {P : List (Nat × Nat)} {ra : Nat} {A : za_A} (f j : Nat) : ∀ i, i ≤ j → za_seq P ra A i f j = A f j
  | 0, _ => rfl
  | i + 1, h => by
    rw [za_seq]
    split
    · rw [za_ho_n (by omega), za_up_n (by omega), za_up_n (by omega), za_seq_ge f j i (by omega)]
    · exact za_seq_ge f j i (by omega)
theorem za_lm_lt {B : za_A} {c own : Nat} (h : own < 4) : za_lm B c own < 4 := by
  unfold za_lm
  repeat' split
  all_goals omega
theorem za_ok.up {B : za_A} (h : za_ok B) {f j x : Nat} (hx : (f = 4 ∧ x < 16) ∨ (f = 5 ∧ x < 4) ∨ (f = 7 ∧ x ≤ 30000)) : za_ok (za_up B f j x) := by
  obtain ⟨h0, h1, h2, h3⟩ := h
  refine ⟨by rw [za_up_n (by omega), za_up_n (by omega), za_up_n (by omega)]; exact h0, fun i hi => by rw [za_up_n (by omega)]; exact h1 i hi, fun i hi => ?_, fun i hi => by rw [za_up_n (by omega)]; exact h3 i hi⟩
  obtain ⟨⟨g2, g3, g4, g5⟩, g6, g7⟩ := h2 i hi
  rw [za_up_n (f' := 2) (by omega), za_up_n (f' := 3) (by omega), za_up_n (f' := 6) (by omega)]
  have K : ∀ g, (za_up B f j x g i = B g i) ∨ (g = f ∧ za_up B f j x g i = x) := fun g => by
    by_cases z : g = f ∧ i = j
    · right
      obtain ⟨rfl, rfl⟩ := z
      exact ⟨rfl, za_up_s _ _ _ _⟩
    · left; exact za_up_n z
  have k4 := K 4
  have k5 := K 5
  have k7 := K 7
  refine ⟨⟨g2, g3, ?_, ?_⟩, g6, ?_⟩ <;> omega
theorem za_ok.ho {B : za_A} (h : za_ok B) {w : Nat} (hw : w < 6) (h7 : B 7 w < 30000) : za_ok (za_ho B w) := by
  unfold za_ho
  split
  · have h5 := (h.2.2.1 w hw).1.2.2.2
    exact (h.up (Or.inr (Or.inr ⟨rfl, by omega⟩))).up (Or.inr (Or.inl ⟨rfl, za_lm_lt h5⟩))
  · exact h
theorem za_seq_ok {P : List (Nat × Nat)} {ra : Nat} {A : za_A} (hA : za_ok A) (hmv : ∀ j, j < 6 → A 7 j ≤ A 0 1) : ∀ i, i ≤ 6 → za_ok (za_seq P ra A i)
  | 0, _ => hA
  | i + 1, h => by
    have ih := za_seq_ok (P := P) (ra := ra) hA hmv i (by omega)
    have a2 := hA.1.2.1
    have a7 := hmv i (by omega)
    rw [za_seq]
    split
    · refine ((ih.up (Or.inl ⟨rfl, Nat.mod_lt _ (by omega)⟩)).up (Or.inr (Or.inl ⟨rfl, Nat.mod_lt _ (by omega)⟩))).ho (by omega) ?_
      rw [za_up_n (by omega), za_up_n (by omega), za_seq_ge 7 i i (Nat.le_refl _)]
      omega
    · exact ih
theorem za_pcK_le {A : za_A} {w k : Nat} : za_pcK A w k ≤ 15 := by
  unfold za_pcK
  repeat' split
  all_goals omega
theorem za_pace_le {ra : Nat} {A : za_A} {w : Nat} : za_pace ra A w ≤ 15 := by
  unfold za_pace
  split
  · omega
  · exact za_pcK_le
theorem zl_a15 {n : Nat} (h : n < 100000) : nI n &&& nI 15 = nI (n % 16) := pk_andN (by omega) 4 (by decide)
theorem zl_a3 (x : Int32) : x &&& nI 3 = nI (x.toBitVec.toNat % 4) := pk_and x 2 (by decide)
section ZQ
variable {r pk : Nat} {A : za_A} {P : List (Nat × Nat)} {ra : Nat} {G : Nat → List (Nat × Nat)} {N : Nat}
theorem zt_step_loop1 (hl : za_lay r pk) (hp : za_pl pk) (hs : za_sep r pk) (hA : za_ok A) : ∀ (k i fuel : Nat) (m : zj_M), k + i = A 0 0 → k < fuel → za_R r m A → za_LA r m A → za_K pk m P ra G N → (∀ j, j < i → A 6 j = 0 → m (r + 8) j = nI (za_nc ra A j) ∧ m (r + 9) j = nI (za_nm P A j)) →
    ∃ m1, zj_lp zb_X4_goOneStep_6 fuel [some (.ref r), some (.int (nI i))] [] m = zj_lp zb_X4_goOneStep_71 zj_fu [some (.ref r), some (.int (nI 0))] [] m1 ∧ za_R r m1 A ∧ za_K pk m1 P ra G N ∧ (∀ j, j < A 0 0 → A 6 j = 0 → m1 (r + 8) j = nI (za_nc ra A j) ∧ m1 (r + 9) j = nI (za_nm P A j)) ∧ ∀ u j, u ≠ 13 → u ≠ pk + 3 → u ≠ r + 8 → u ≠ r + 9 → m1 u j = m u j := by
  have Gr := hl.g
  have a := hl.a
  have hc := hl.o.1.1
  have a1 := hA.1.1
  obtain ⟨s1, s2⟩ := id hs
  intro k
  induction k with
  | zero =>
    intro i fuel m hk hf hR hLA hK hN
    obtain ⟨f, rfl⟩ : ∃ f, fuel = f + 1 := ⟨fuel - 1, by omega⟩
    have ei : i = A 0 0 := by omega
    subst ei
    have n1 := hR.1.1
    refine ⟨m, ?_, hR, hK, hN, fun _ _ _ _ _ _ => rfl⟩
    rw [zj_lp_s]
    simp (disch := first | omega | assumption | decide +kernel | exact Nat.le_of_ble_eq_true rfl) only [↓zx_push, ↓zx_ild0, ↓zx_ald0, ↓zx_lld0, ↓zx_ist0, ↓zx_ast0, ↓zx_inc0, ↓zx_ild1, ↓zx_ald1, ↓zx_lld1, ↓zx_ist1i, ↓zx_ist1r, ↓zx_ist1n, ↓zx_ast1i, ↓zx_ast1r, ↓zx_ast1n, ↓zx_inc1i, ↓zx_inc1r, ↓zx_inc1n, ↓zx_ild2, ↓zx_ald2, ↓zx_lld2, ↓zx_ist2i, ↓zx_ist2r, ↓zx_ist2n, ↓zx_ast2i, ↓zx_ast2r, ↓zx_ast2n, ↓zx_inc2i, ↓zx_inc2r, ↓zx_inc2n, ↓zx_ild3, ↓zx_ald3, ↓zx_lld3, ↓zx_ist3i, ↓zx_ist3r, ↓zx_ist3n, ↓zx_ast3i, ↓zx_ast3r, ↓zx_ast3n, ↓zx_inc3i, ↓zx_inc3r, ↓zx_inc3n, ↓zx_ild4, ↓zx_ald4, ↓zx_lld4, ↓zx_ist4i, ↓zx_ist4r, ↓zx_ist4n, ↓zx_ast4i, ↓zx_ast4r, ↓zx_ast4n, ↓zx_inc4i, ↓zx_inc4r, ↓zx_inc4n, ↓zx_ild5, ↓zx_ald5, ↓zx_lld5, ↓zx_ist5i, ↓zx_ist5r, ↓zx_ist5n, ↓zx_ast5i, ↓zx_ast5r, ↓zx_ast5n, ↓zx_inc5i, ↓zx_inc5r, ↓zx_inc5n, ↓zx_ild6, ↓zx_ald6, ↓zx_lld6, ↓zx_ist6i, ↓zx_ist6r, ↓zx_ist6n, ↓zx_ast6i, ↓zx_ast6r, ↓zx_ast6n, ↓zx_inc6i, ↓zx_inc6r, ↓zx_inc6n, ↓zx_ild7, ↓zx_ald7, ↓zx_lld7, ↓zx_ist7i, ↓zx_ist7r, ↓zx_ist7n, ↓zx_ast7i, ↓zx_ast7r, ↓zx_ast7n, ↓zx_inc7i, ↓zx_inc7r, ↓zx_inc7n, ↓zx_ild8, ↓zx_ald8, ↓zx_lld8, ↓zx_ist8i, ↓zx_ist8r, ↓zx_ist8n, ↓zx_ast8i, ↓zx_ast8r, ↓zx_ast8n, ↓zx_inc8i, ↓zx_inc8r, ↓zx_inc8n, ↓zx_ild9, ↓zx_ald9, ↓zx_lld9, ↓zx_ist9i, ↓zx_ist9r, ↓zx_ist9n, ↓zx_ast9i, ↓zx_ast9r, ↓zx_ast9n, ↓zx_inc9i, ↓zx_inc9r, ↓zx_inc9n, ↓zx_ild10, ↓zx_ald10, ↓zx_lld10, ↓zx_ist10i, ↓zx_ist10r, ↓zx_ist10n, ↓zx_ast10i, ↓zx_ast10r, ↓zx_ast10n, ↓zx_inc10i, ↓zx_inc10r, ↓zx_inc10n, ↓zx_b, ↓zx_u, ↓zx_i2l, ↓zx_lb, ↓zx_lu, ↓zx_lcmp, ↓zx_dupi, ↓zx_dupr, ↓zx_dup2, ↓zx_pop, zx_ceq_t, zx_ceq_f, zx_clt_t, zx_clt_f, zx_cle_t, zx_cle_f, zx_eq_t, zx_eq_f, zx_lt_t, zx_lt_f, zx_le_t, zx_le_f, zx_eq_b, zx_rem, zx_div, zx_go0, zx_go1, ↓zx_call0, ↓zx_call1, ↓zx_call2, ↓zx_call3, ↓zx_call4, ↓zx_call5, ↓zx_call6, ↓zx_call7, ↓zx_vc0, ↓zx_vn0, ↓zx_vc1, ↓zx_vn1, ↓zx_vc2, ↓zx_vn2, ↓zx_vc3, ↓zx_vn3, ↓zx_vc4, ↓zx_vn4, ↓zx_vc5, ↓zx_vn5, ↓zx_vc6, ↓zx_vn6, ↓zx_sc0, ↓zx_sc1, ↓zx_sc2, ↓zx_mmin, ↓zx_mmax, zx_ret0, zx_reti, zx_retl, zx_reta, zx_retz, zx_retz0, zx_retz1, zj_run, zj_e0, zj_E0, List.length_cons, List.length_nil, List.cons_append, List.nil_append, List.reduceReplicate, Nat.reduceLeDiff, Nat.reduceAdd, Nat.reduceSub, Nat.zero_add, Nat.zero_le, Nat.le_refl, reduceIte, ↓zb_X4_goOneStep_6, ↓Gr, a, n1, zl_c]
  | succ k ih =>
    intro i fuel m hk hf hR hLA hK hN
    obtain ⟨f, rfl⟩ : ∃ f, fuel = f + 1 := ⟨fuel - 1, by omega⟩
    have n1 := hR.1.1
    have hi6 : i < 6 := by omega
    have hin : i < A 0 0 := by omega
    obtain ⟨⟨h2, h3, h4, h5⟩, h6, h7⟩ := hA.2.2.1 i hi6
    have eaw := zt_X4_isAway hl hA hR hi6
    rw [zj_lp_s]
    by_cases hw : A 6 i = 0
    · rw [hw] at eaw
      have t4 := hR.2.2.2.2.2.1 i hi6
      have t5 := hR.2.2.2.2.2.2.1 i hi6
      have epc := zt_X4_paceOf hl hp hA hR hLA hK.2.2.1.2 hK.2.2.1.1 hin
      have hpl := za_pace_le (ra := ra) (A := A) (w := i)
      have hR2 : za_R r (zj_st m (r + 8) i (nI (za_nc ra A i))) A := hR.keep fun u j g1 g2 _ => by rw [zj_st_n (by omega)]
      have hLA2 : za_LA r (zj_st m (r + 8) i (nI (za_nc ra A i))) A := hLA.keep fun j _ => by rw [zj_st_n (by omega)]
      have hK2 : za_K pk (zj_st m (r + 8) i (nI (za_nc ra A i))) P ra G N := hK.keep (hK.2.2.2.keep fun j => by rw [zj_st_n (by omega)]) (fun u j g1 g2 => by rw [zj_st_n (by omega)])
      obtain ⟨m', e1, e2, e3⟩ := zt_X4_swayOf hl hp hs hA hR2 hLA2 hK2 hin
      have t5' : zj_st m (r + 8) i (nI (za_nc ra A i)) (r + 5) i = nI (A 5 i) := by rw [zj_st_n (by omega)]; exact t5
      have ec : nI (A 4 i + za_pace ra A i) &&& nI 15 = nI (za_nc ra A i) := zl_a15 (by omega)
      have em : (nI (A 5 i) + za_sway P A i) &&& nI 3 = nI (za_nm P A i) := zl_a3 _
      have hR3 : za_R r (zj_st m' (r + 9) i (nI (za_nm P A i))) A := hR2.keep fun u j g1 g2 _ => by rw [zj_st_n (by omega)]; exact e3 u j (by omega) (by omega)
      have hLA3 : za_LA r (zj_st m' (r + 9) i (nI (za_nm P A i))) A := hLA2.keep fun j _ => by rw [zj_st_n (by omega)]; exact e3 r j (by omega) (by omega)
      have hK3 : za_K pk (zj_st m' (r + 9) i (nI (za_nm P A i))) P ra G N := e2.keep (e2.2.2.2.keep fun j => by rw [zj_st_n (by omega)]) (fun u j g1 g2 => by rw [zj_st_n (by omega)])
      obtain ⟨m1, g1, g2, g3, g4, g5⟩ := ih (i + 1) f (zj_st m' (r + 9) i (nI (za_nm P A i))) (by omega) (by omega) hR3 hLA3 hK3 (fun j hj hz => by
        by_cases q : j = i
        · subst q
          exact ⟨by rw [zj_st_n (by omega), e3 _ _ (by omega) (by omega), zj_st_s], zj_st_s _ _ _ _⟩
        · obtain ⟨y1, y2⟩ := hN j (by omega) hz
          exact ⟨by rw [zj_st_n (by omega), e3 _ _ (by omega) (by omega), zj_st_n (by omega)]; exact y1, by rw [zj_st_n (by omega), e3 _ _ (by omega) (by omega), zj_st_n (by omega)]; exact y2⟩)
      refine ⟨m1, ?_, g2, g3, g4, fun u j q1 q2 q3 q4 => by rw [g5 u j q1 q2 q3 q4, zj_st_n (by omega), e3 u j q1 q2, zj_st_n (by omega)]⟩
      rw [← g1]
      simp (disch := first | omega | assumption | decide +kernel | exact Nat.le_of_ble_eq_true rfl) only [↓zx_push, ↓zx_ild0, ↓zx_ald0, ↓zx_lld0, ↓zx_ist0, ↓zx_ast0, ↓zx_inc0, ↓zx_ild1, ↓zx_ald1, ↓zx_lld1, ↓zx_ist1i, ↓zx_ist1r, ↓zx_ist1n, ↓zx_ast1i, ↓zx_ast1r, ↓zx_ast1n, ↓zx_inc1i, ↓zx_inc1r, ↓zx_inc1n, ↓zx_ild2, ↓zx_ald2, ↓zx_lld2, ↓zx_ist2i, ↓zx_ist2r, ↓zx_ist2n, ↓zx_ast2i, ↓zx_ast2r, ↓zx_ast2n, ↓zx_inc2i, ↓zx_inc2r, ↓zx_inc2n, ↓zx_ild3, ↓zx_ald3, ↓zx_lld3, ↓zx_ist3i, ↓zx_ist3r, ↓zx_ist3n, ↓zx_ast3i, ↓zx_ast3r, ↓zx_ast3n, ↓zx_inc3i, ↓zx_inc3r, ↓zx_inc3n, ↓zx_ild4, ↓zx_ald4, ↓zx_lld4, ↓zx_ist4i, ↓zx_ist4r, ↓zx_ist4n, ↓zx_ast4i, ↓zx_ast4r, ↓zx_ast4n, ↓zx_inc4i, ↓zx_inc4r, ↓zx_inc4n, ↓zx_ild5, ↓zx_ald5, ↓zx_lld5, ↓zx_ist5i, ↓zx_ist5r, ↓zx_ist5n, ↓zx_ast5i, ↓zx_ast5r, ↓zx_ast5n, ↓zx_inc5i, ↓zx_inc5r, ↓zx_inc5n, ↓zx_ild6, ↓zx_ald6, ↓zx_lld6, ↓zx_ist6i, ↓zx_ist6r, ↓zx_ist6n, ↓zx_ast6i, ↓zx_ast6r, ↓zx_ast6n, ↓zx_inc6i, ↓zx_inc6r, ↓zx_inc6n, ↓zx_ild7, ↓zx_ald7, ↓zx_lld7, ↓zx_ist7i, ↓zx_ist7r, ↓zx_ist7n, ↓zx_ast7i, ↓zx_ast7r, ↓zx_ast7n, ↓zx_inc7i, ↓zx_inc7r, ↓zx_inc7n, ↓zx_ild8, ↓zx_ald8, ↓zx_lld8, ↓zx_ist8i, ↓zx_ist8r, ↓zx_ist8n, ↓zx_ast8i, ↓zx_ast8r, ↓zx_ast8n, ↓zx_inc8i, ↓zx_inc8r, ↓zx_inc8n, ↓zx_ild9, ↓zx_ald9, ↓zx_lld9, ↓zx_ist9i, ↓zx_ist9r, ↓zx_ist9n, ↓zx_ast9i, ↓zx_ast9r, ↓zx_ast9n, ↓zx_inc9i, ↓zx_inc9r, ↓zx_inc9n, ↓zx_ild10, ↓zx_ald10, ↓zx_lld10, ↓zx_ist10i, ↓zx_ist10r, ↓zx_ist10n, ↓zx_ast10i, ↓zx_ast10r, ↓zx_ast10n, ↓zx_inc10i, ↓zx_inc10r, ↓zx_inc10n, ↓zx_b, ↓zx_u, ↓zx_i2l, ↓zx_lb, ↓zx_lu, ↓zx_lcmp, ↓zx_dupi, ↓zx_dupr, ↓zx_dup2, ↓zx_pop, zx_ceq_t, zx_ceq_f, zx_clt_t, zx_clt_f, zx_cle_t, zx_cle_f, zx_eq_t, zx_eq_f, zx_lt_t, zx_lt_f, zx_le_t, zx_le_f, zx_eq_b, zx_rem, zx_div, zx_go0, zx_go1, ↓zx_call0, ↓zx_call1, ↓zx_call2, ↓zx_call3, ↓zx_call4, ↓zx_call5, ↓zx_call6, ↓zx_call7, ↓zx_vc0, ↓zx_vn0, ↓zx_vc1, ↓zx_vn1, ↓zx_vc2, ↓zx_vn2, ↓zx_vc3, ↓zx_vn3, ↓zx_vc4, ↓zx_vn4, ↓zx_vc5, ↓zx_vn5, ↓zx_vc6, ↓zx_vn6, ↓zx_sc0, ↓zx_sc1, ↓zx_sc2, ↓zx_mmin, ↓zx_mmax, zx_ret0, zx_reti, zx_retl, zx_reta, zx_retz, zx_retz0, zx_retz1, zj_run, zj_e0, zj_E0, List.length_cons, List.length_nil, List.cons_append, List.nil_append, List.reduceReplicate, Nat.reduceLeDiff, Nat.reduceAdd, Nat.reduceSub, Nat.zero_add, Nat.zero_le, Nat.le_refl, reduceIte, ↓zb_X4_goOneStep_6, ↓zb_X4_goOneStep_63, ↓Gr, a, n1, zl_c, eaw, t4, epc, nI_add, ec, t5', e1, em]
    · obtain ⟨m1, g1, g2, g3, g4, g5⟩ := ih (i + 1) f m (by omega) (by omega) hR hLA hK (fun j hj hz => by
        rcases Nat.lt_or_ge j i with q | q
        · exact hN j q hz
        · rw [show j = i by omega] at hz
          exact absurd hz hw)
      refine ⟨m1, ?_, g2, g3, g4, g5⟩
      rw [← g1]
      simp (disch := first | omega | assumption | decide +kernel | exact Nat.le_of_ble_eq_true rfl) only [↓zx_push, ↓zx_ild0, ↓zx_ald0, ↓zx_lld0, ↓zx_ist0, ↓zx_ast0, ↓zx_inc0, ↓zx_ild1, ↓zx_ald1, ↓zx_lld1, ↓zx_ist1i, ↓zx_ist1r, ↓zx_ist1n, ↓zx_ast1i, ↓zx_ast1r, ↓zx_ast1n, ↓zx_inc1i, ↓zx_inc1r, ↓zx_inc1n, ↓zx_ild2, ↓zx_ald2, ↓zx_lld2, ↓zx_ist2i, ↓zx_ist2r, ↓zx_ist2n, ↓zx_ast2i, ↓zx_ast2r, ↓zx_ast2n, ↓zx_inc2i, ↓zx_inc2r, ↓zx_inc2n, ↓zx_ild3, ↓zx_ald3, ↓zx_lld3, ↓zx_ist3i, ↓zx_ist3r, ↓zx_ist3n, ↓zx_ast3i, ↓zx_ast3r, ↓zx_ast3n, ↓zx_inc3i, ↓zx_inc3r, ↓zx_inc3n, ↓zx_ild4, ↓zx_ald4, ↓zx_lld4, ↓zx_ist4i, ↓zx_ist4r, ↓zx_ist4n, ↓zx_ast4i, ↓zx_ast4r, ↓zx_ast4n, ↓zx_inc4i, ↓zx_inc4r, ↓zx_inc4n, ↓zx_ild5, ↓zx_ald5, ↓zx_lld5, ↓zx_ist5i, ↓zx_ist5r, ↓zx_ist5n, ↓zx_ast5i, ↓zx_ast5r, ↓zx_ast5n, ↓zx_inc5i, ↓zx_inc5r, ↓zx_inc5n, ↓zx_ild6, ↓zx_ald6, ↓zx_lld6, ↓zx_ist6i, ↓zx_ist6r, ↓zx_ist6n, ↓zx_ast6i, ↓zx_ast6r, ↓zx_ast6n, ↓zx_inc6i, ↓zx_inc6r, ↓zx_inc6n, ↓zx_ild7, ↓zx_ald7, ↓zx_lld7, ↓zx_ist7i, ↓zx_ist7r, ↓zx_ist7n, ↓zx_ast7i, ↓zx_ast7r, ↓zx_ast7n, ↓zx_inc7i, ↓zx_inc7r, ↓zx_inc7n, ↓zx_ild8, ↓zx_ald8, ↓zx_lld8, ↓zx_ist8i, ↓zx_ist8r, ↓zx_ist8n, ↓zx_ast8i, ↓zx_ast8r, ↓zx_ast8n, ↓zx_inc8i, ↓zx_inc8r, ↓zx_inc8n, ↓zx_ild9, ↓zx_ald9, ↓zx_lld9, ↓zx_ist9i, ↓zx_ist9r, ↓zx_ist9n, ↓zx_ast9i, ↓zx_ast9r, ↓zx_ast9n, ↓zx_inc9i, ↓zx_inc9r, ↓zx_inc9n, ↓zx_ild10, ↓zx_ald10, ↓zx_lld10, ↓zx_ist10i, ↓zx_ist10r, ↓zx_ist10n, ↓zx_ast10i, ↓zx_ast10r, ↓zx_ast10n, ↓zx_inc10i, ↓zx_inc10r, ↓zx_inc10n, ↓zx_b, ↓zx_u, ↓zx_i2l, ↓zx_lb, ↓zx_lu, ↓zx_lcmp, ↓zx_dupi, ↓zx_dupr, ↓zx_dup2, ↓zx_pop, zx_ceq_t, zx_ceq_f, zx_clt_t, zx_clt_f, zx_cle_t, zx_cle_f, zx_eq_t, zx_eq_f, zx_lt_t, zx_lt_f, zx_le_t, zx_le_f, zx_eq_b, zx_rem, zx_div, zx_go0, zx_go1, ↓zx_call0, ↓zx_call1, ↓zx_call2, ↓zx_call3, ↓zx_call4, ↓zx_call5, ↓zx_call6, ↓zx_call7, ↓zx_vc0, ↓zx_vn0, ↓zx_vc1, ↓zx_vn1, ↓zx_vc2, ↓zx_vn2, ↓zx_vc3, ↓zx_vn3, ↓zx_vc4, ↓zx_vn4, ↓zx_vc5, ↓zx_vn5, ↓zx_vc6, ↓zx_vn6, ↓zx_sc0, ↓zx_sc1, ↓zx_sc2, ↓zx_mmin, ↓zx_mmax, zx_ret0, zx_reti, zx_retl, zx_reta, zx_retz, zx_retz0, zx_retz1, zj_run, zj_e0, zj_E0, List.length_cons, List.length_nil, List.cons_append, List.nil_append, List.reduceReplicate, Nat.reduceLeDiff, Nat.reduceAdd, Nat.reduceSub, Nat.zero_add, Nat.zero_le, Nat.le_refl, reduceIte, ↓zb_X4_goOneStep_6, ↓zb_X4_goOneStep_63, ↓Gr, a, n1, zl_c, eaw, nI_add]
end ZQ
