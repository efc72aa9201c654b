/-! what the calls keep -/
theorem za_up_or (B : za_A) (f j x f' j' : Nat) : (za_up B f j x f' j' = x ∧ f' = f ∧ j' = j) ∨ za_up B f j x f' j' = B f' j' := by
  by_cases q : f' = f ∧ j' = j
  · obtain ⟨rfl, rfl⟩ := q
    exact Or.inl ⟨za_up_s _ _ _ _, rfl, rfl⟩
  · exact Or.inr (za_up_n q)
theorem za_ok.gen {B : za_A} (h : za_ok B) {f j x : Nat} (hx : (f = 0 ∧ j = 0 ∧ x ≤ 6) ∨ (f = 0 ∧ j = 2 ∧ x < 65536) ∨ (f = 1 ∧ x < 65536) ∨ (f = 2 ∧ x < 7) ∨ (f = 3 ∧ x < 10) ∨ (f = 4 ∧ x < 16) ∨ (f = 5 ∧ x < 4) ∨ (f = 6 ∧ x < 2) ∨ (f = 7 ∧ x ≤ 30000) ∨ (f = 8 ∧ x < 10)) : za_ok (za_up B f j x) := by
  obtain ⟨⟨h0, h00, h01⟩, h1, h2, h3⟩ := h
  have K : ∀ {f' j' b : Nat}, B f' j' < b → (f' = f → j' = j → x < b) → za_up B f j x f' j' < b := fun {f' j' b} h h' => by
    rcases za_up_or B f j x f' j' with ⟨q, q1, q2⟩ | q
    · rw [q]; exact h' q1 q2
    · rw [q]; exact h
  refine ⟨⟨Nat.le_of_lt_succ (K (Nat.lt_succ_of_le h0) ?_), Nat.le_of_lt_succ (K (Nat.lt_succ_of_le h00) ?_), K h01 ?_⟩, fun i hi => K (h1 i hi) ?_, fun i hi => ?_, fun i hi => K (h3 i hi) ?_⟩
  · rintro rfl rfl; clear K h1 h2 h3; omega
  · rintro rfl rfl; clear K h1 h2 h3; omega
  · rintro rfl rfl; clear K h1 h2 h3; omega
  · rintro rfl rfl; clear K h1 h2 h3; omega
  · obtain ⟨⟨g2, g3, g4, g5⟩, g6, g7⟩ := h2 i hi
    refine ⟨⟨K g2 ?_, K g3 ?_, K g4 ?_, K g5 ?_⟩, K g6 ?_, Nat.le_of_lt_succ (K (Nat.lt_succ_of_le g7) ?_)⟩
    · rintro rfl rfl; clear K h1 h2 h3; omega
    · rintro rfl rfl; clear K h1 h2 h3; omega
    · rintro rfl rfl; clear K h1 h2 h3; omega
    · rintro rfl rfl; clear K h1 h2 h3; omega
    · rintro rfl rfl; clear K h1 h2 h3; omega
    · rintro rfl rfl; clear K h1 h2 h3; omega
  · rintro rfl rfl; clear K h1 h2 h3; omega
theorem za_add_ok {A : za_A} (h : za_ok A) (hmv : ∀ j, j < 6 → A 7 j ≤ A 0 1) {kd v c mu : Nat} (h6 : A 0 0 < 6) (h1 : kd < 7) (h2 : v < 10) (h3 : c < 16) (h4 : mu < 4) : za_ok (za_add A kd v c mu) ∧ (∀ j, j < 6 → za_add A kd v c mu 7 j ≤ za_add A kd v c mu 0 1) ∧ za_add A kd v c mu 0 1 = A 0 1 ∧ za_add A kd v c mu 0 0 = A 0 0 + 1 := by
  unfold za_add za_rows0 za_add5
  refine ⟨?_, fun j hj => ?_, ?_, by rw [za_up_s]⟩
  · exact ((((((((((h.gen (f := 2) (x := kd) (j := A 0 0) (by omega)).gen (f := 3) (x := v) (j := A 0 0) (by omega)).gen (f := 4) (x := c) (j := A 0 0) (by omega)).gen (f := 5) (x := mu) (j := A 0 0) (by omega)).gen (f := 7) (x := 0) (j := A 0 0) (by omega)).gen (f := 8) (x := 0) (by omega)).gen (f := 8) (x := 0) (by omega)).gen (f := 8) (x := 0) (by omega)).gen (f := 8) (x := 0) (by omega)).gen (f := 6) (x := 0) (j := A 0 0) (by omega)).gen (f := 0) (j := 0) (x := A 0 0 + 1) (by omega)
  · have := hmv j hj
    rw [za_up_n (f' := 0) (j' := 1) (by omega), za_up_n (f' := 0) (j' := 1) (by omega), za_up_n (f' := 0) (j' := 1) (by omega), za_up_n (f' := 0) (j' := 1) (by omega), za_up_n (f' := 0) (j' := 1) (by omega), za_up_n (f' := 0) (j' := 1) (by omega), za_up_n (f' := 0) (j' := 1) (by omega), za_up_n (f' := 0) (j' := 1) (by omega), za_up_n (f' := 0) (j' := 1) (by omega), za_up_n (f' := 0) (j' := 1) (by omega), za_up_n (f' := 0) (j' := 1) (by omega)]
    rw [za_up_n (f' := 7) (by omega), za_up_n (f' := 7) (by omega), za_up_n (f' := 7) (by omega), za_up_n (f' := 7) (by omega), za_up_n (f' := 7) (by omega), za_up_n (f' := 7) (by omega)]
    rcases za_up_or (za_up (za_up (za_up (za_up A 2 (A 0 0) kd) 3 (A 0 0) v) 4 (A 0 0) c) 5 (A 0 0) mu) 7 (A 0 0) 0 7 j with ⟨q, -⟩ | q
    · omega
    · rw [q, za_up_n (by omega), za_up_n (by omega), za_up_n (by omega), za_up_n (by omega)]
      exact this
  · rw [za_up_n (by omega), za_up_n (by omega), za_up_n (by omega), za_up_n (by omega), za_up_n (by omega), za_up_n (by omega), za_up_n (by omega), za_up_n (by omega), za_up_n (by omega), za_up_n (by omega), za_up_n (by omega)]
section ZQ
variable {A : za_A} {P : List (Nat × Nat)} {ra np : Nat} {T : List Nat} {S : List (Nat × Nat × Nat)} {L : List (Nat × Int32)} {K : List (Nat × Nat)} {kp : Option ze_B} {tr : List Nat} {B : ze_B}
theorem za_go_ok (hA : za_ok A) (hmv : ∀ j, j < 6 → A 7 j ≤ A 0 1) : ∀ i, A 0 1 + i ≤ 20000 → za_ok (za_go P ra A i) ∧ ∀ j, j < 6 → za_go P ra A i 7 j ≤ za_go P ra A i 0 1
  | 0, _ => ⟨hA, hmv⟩
  | i + 1, hi => by
    obtain ⟨i1, i2⟩ := za_go_ok hA hmv i (by omega)
    rw [za_go]
    exact za_next_ok i1 i2 (by rw [(za_go_0 i).2]; omega)
/-- all but what belongs to the walkers -/
theorem ze_ok.nA {A' : za_A} (hok : ze_ok (A, P, ra, np, T, S, L, K)) (h1 : za_ok A') (h2 : ∀ j, j < 6 → A' 7 j ≤ A' 0 1) (h3 : A' 0 1 ≤ 9999) (h0 : A 0 0 ≤ A' 0 0) : ze_ok (A', P, ra, np, T, S, L, K) := by
  obtain ⟨-, g1, g2, ⟨g3, g4⟩, ⟨g5, g6⟩, g7, g8⟩ := hok
  refine ⟨⟨h1, h2, h3⟩, g1, g2, ⟨g3, fun j hj => ?_⟩, ⟨g5, fun j hj => ?_⟩, g7, fun j hj => ?_⟩
  · obtain ⟨a, b⟩ := g4 j hj
    exact ⟨by omega, b⟩
  · obtain ⟨a, b, c⟩ := g6 j hj
    refine ⟨a, fun q => ?_, c⟩
    obtain ⟨i, hi, e⟩ := b q
    exact ⟨i, by omega, e⟩
  · obtain ⟨a, b⟩ := g8 j hj
    exact ⟨by omega, b⟩
theorem ze_ok.up {f j x : Nat} (hok : ze_ok (A, P, ra, np, T, S, L, K)) (hx : (f = 0 ∧ j = 2 ∧ x < 65536) ∨ (f = 1 ∧ x < 65536) ∨ (f = 4 ∧ x < 16) ∨ (f = 5 ∧ x < 4) ∨ (f = 6 ∧ x < 2) ∨ (f = 8 ∧ x < 10)) : ze_ok (za_up A f j x, P, ra, np, T, S, L, K) :=
  hok.nA (hok.1.1.gen (by omega)) (fun i hi => by rw [za_up_n (by omega), za_up_n (by omega)]; exact hok.1.2.1 i hi) (by rw [za_up_n (by omega)]; exact hok.1.2.2) (by rw [za_up_n (by omega)]; exact Nat.le_refl _)
theorem ze_ar_lt {x : Int32} {n e : Nat} (hn : n < 2 ^ 31) (h : ze_ar x n = some e) : e < n ∧ x = nI e := by
  rcases ze_ar_c x n hn with ⟨j, h1, h2, h3⟩ | ⟨-, h3⟩
  · rw [h3] at h
    obtain rfl := Option.some.inj h
    exact ⟨h1, h2⟩
  · rw [h3] at h; exact absurd h (by simp)
theorem zo_feed (hok : ze_ok (A, P, ra, np, T, S, L, K)) (x : Int32) : ze_ok (zs_feed x (A, P, ra, np, T, S, L, K)).2 := by
  unfold zs_feed
  simp only
  split
  · exact hok
  · rename_i e he
    obtain ⟨h1, -⟩ := ze_ar_lt (by omega) he
    split
    · exact hok
    · rename_i hl
      obtain ⟨g0, g1, ⟨g2, g3, g4⟩, g5⟩ := hok
      refine ⟨g0, g1, ⟨g2, (by simp; omega), fun j hj => ?_⟩, g5⟩
      rw [zs_getl]
      split
      · rename_i q; exact g4 j q
      · split
        · exact h1
        · omega
theorem zo_road (hok : ze_ok (A, P, ra, np, T, S, L, K)) (x y : Int32) : ze_ok (zs_road x y (A, P, ra, np, T, S, L, K)).2 := by
  unfold zs_road
  simp only
  split
  · exact hok
  · split
    · exact hok
    · rename_i e he
      exact hok.up (by have := (ze_ar_lt (by omega) he).1; omega)
theorem zo_keep (hok : ze_ok (A, P, ra, np, T, S, L, K)) (x : Int32) : ze_ok (zs_keep x (A, P, ra, np, T, S, L, K)).2 := by
  unfold zs_keep
  simp only
  split
  · exact hok
  · rename_i e he
    exact hok.up (by have := (ze_ar_lt (by omega) he).1; omega)
theorem zo_walker (hok : ze_ok (A, P, ra, np, T, S, L, K)) (x v y z : Int32) : ze_ok (zs_walker x v y z (A, P, ra, np, T, S, L, K)).2 := by
  unfold zs_walker
  simp only
  split
  · exact hok
  · split
    · exact hok
    · split
      · exact hok
      · split
        · exact hok
        · rename_i h1 _ _ h2 _ _ h3 _ _ h4
          split
          · exact hok
          · have a0 := hok.1.1.1.1
            obtain ⟨b1, b2, b3, b4⟩ := za_add_ok hok.1.1 hok.1.2.1 (by omega) (ze_ar_lt (by omega) h1).1 (ze_ar_lt (by omega) h4).1 (ze_ar_lt (by omega) h2).1 (ze_ar_lt (by omega) h3).1
            exact hok.nA b1 b2 (by rw [b3]; exact hok.1.2.2) (by omega)
theorem zo_row (hok : ze_ok (A, P, ra, np, T, S, L, K)) (x k n : Int32) : ze_ok (zs_row x k n (A, P, ra, np, T, S, L, K)).2 := by
  unfold zs_row
  simp only
  split
  · exact hok
  · split
    · exact hok
    · split
      · exact hok
      · rename_i e he
        split
        · exact hok.up (by have := (ze_ar_lt (by omega) he).1; omega)
        · exact hok
theorem zo_set (hok : ze_ok (A, P, ra, np, T, S, L, K)) (x what n : Int32) : ze_ok (zs_set x what n (A, P, ra, np, T, S, L, K)).2 := by
  unfold zs_set
  simp only
  split
  · exact hok
  · split
    · exact hok
    · split
      · split
        · exact hok
        · rename_i e he
          exact hok.up (by have := (ze_ar_lt (by omega) he).1; omega)
      · split
        · exact hok
        · rename_i e he
          exact hok.up (by have := (ze_ar_lt (by omega) he).1; omega)
theorem zo_away (hok : ze_ok (A, P, ra, np, T, S, L, K)) (x : Int32) (b : Bool) : ze_ok (zs_away x b (A, P, ra, np, T, S, L, K)).2 := by
  unfold zs_away
  simp only
  split
  · exact hok
  · exact hok.up (by cases b <;> simp)
theorem zo_pass (hok : ze_ok (A, P, ra, np, T, S, L, K)) (n : Int32) : ze_ok (zs_pass n (A, P, ra, np, T, S, L, K)).2 := by
  unfold zs_pass
  simp only
  split
  · exact hok
  · rename_i e he
    split
    · exact hok
    · have h0 := za_go_0 (P := P) (ra := ra) (A := A) e
      obtain ⟨b1, b2⟩ := za_go_ok (P := P) (ra := ra) hok.1.1 hok.1.2.1 e (by omega)
      exact hok.nA b1 b2 (by omega) (by omega)
theorem zo_see (hok : ze_ok (A, P, ra, np, T, S, L, K)) (x n : Int32) (b : Bool) : ze_ok (zs_see x n b (A, P, ra, np, T, S, L, K)).2 := by
  have a0 := hok.1.1.1.1
  unfold zs_see
  simp only
  obtain ⟨g0, g1, g2, ⟨g3, g4⟩, g5⟩ := id hok
  split
  · exact ⟨g0, g1, g2, ⟨by simp, fun j hj => by simp at hj⟩, g5⟩
  · split
    · exact hok
    · split
      · exact hok
      · rename_i w h1 _ k h2
        split
        · exact hok
        · refine ⟨g0, g1, g2, ⟨(by simp; omega), fun j hj => ?_⟩, g5⟩
          have := (ze_ar_lt (by omega) h1).1
          have := (ze_ar_lt (by omega) h2).1
          rw [zs_getl]
          split
          · rename_i q; exact g4 j q
          · split
            · exact ⟨by simpa, by simp; omega, by cases b <;> simp⟩
            · simp at hj; omega
theorem zo_plan (hok : ze_ok (A, P, ra, np, T, S, L, K)) (x n : Int32) : ze_ok (zs_plan x n (A, P, ra, np, T, S, L, K)).2 := by
  have a0 := hok.1.1.1.1
  unfold zs_plan
  simp only
  obtain ⟨g0, g1, g2, g3, ⟨g4, g6⟩, g5⟩ := id hok
  split
  · exact ⟨g0, g1, g2, g3, ⟨by simp, fun j hj => by simp at hj⟩, g5⟩
  · split
    · exact hok
    · rename_i k hk
      have k4 := (ze_ar_lt (by omega) hk).1
      split
      · rename_i hp
        split
        · exact hok
        · refine ⟨g0, g1, g2, g3, ⟨(by simp; omega), fun j hj => ?_⟩, g5⟩
          rw [zs_getl]
          split
          · rename_i q; exact g6 j q
          · split
            · unfold zs_pok at hp
              refine ⟨k4, fun q => ?_, fun q => ?_⟩
              · simp only at q
                rw [if_neg (by omega), if_neg (by omega)] at hp
                obtain ⟨e, he⟩ := Option.isSome_iff_exists.mp hp
                exact ⟨e, ze_ar_lt (by omega) he⟩
              · simp only at q
                rw [if_neg (by omega), if_pos q] at hp
                obtain ⟨e, he⟩ := Option.isSome_iff_exists.mp hp
                exact ⟨e, ze_ar_lt (by omega) he⟩
            · simp at hj; omega
      · exact hok
theorem zo_book (hok : ze_ok (A, P, ra, np, T, S, L, K)) (x y : Int32) : ze_ok (zs_book x y (A, P, ra, np, T, S, L, K)).2 := by
  have a0 := hok.1.1.1.1
  unfold zs_book
  simp only
  obtain ⟨g0, g1, g2, g3, g4, g5, g6⟩ := id hok
  split
  · exact ⟨g0, g1, g2, g3, g4, by simp, fun j hj => by simp at hj⟩
  · split
    · exact hok
    · split
      · exact hok
      · rename_i w h1 _ k h2
        split
        · exact hok
        · refine ⟨g0, g1, g2, g3, g4, (by simp; omega), fun j hj => ?_⟩
          have := (ze_ar_lt (by omega) h1).1
          have := (ze_ar_lt (by omega) h2).1
          rw [zs_getl]
          split
          · rename_i q; exact g6 j q
          · split
            · exact ⟨by simpa, by simpa⟩
            · simp at hj; omega
theorem zo_undo (hok : ze_ok B) (h : ∀ B2, kp = some B2 → ze_ok B2) : ze_ok (zs_undo B kp).2 := by
  cases kp with
  | none => exact hok
  | some B2 => exact h B2 rfl
end ZQ
