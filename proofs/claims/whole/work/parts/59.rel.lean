/-! the class's state and the reference's, by one picture -/
/-- A, the PARK (P, ra), how many PARKS, TAPE, SEEN, PLAN, BOOK -/
abbrev ze_B : Type := za_A × List (Nat × Nat) × Nat × Nat × List Nat × List (Nat × Nat × Nat) × List (Nat × Int32) × List (Nat × Nat)
def ze_ok : ze_B → Prop := fun (A, P, ra, np, T, S, L, K) =>
  (za_ok A ∧ (∀ j, j < 6 → A 7 j ≤ A 0 1) ∧ A 0 1 ≤ 9999) ∧ (ra < 100 ∧ za_wf P 0 10 = true) ∧ (np ≤ 5 ∧ T.length ≤ 100 ∧ ∀ j, j < T.length → T.getD j 0 < 128) ∧ za_sok (A 0 0) S ∧
  (L.length ≤ 8 ∧ ∀ j, j < L.length → (L.getD j (0, 0)).1 < 4 ∧ (((L.getD j (0, 0)).1 = 1 ∨ (L.getD j (0, 0)).1 = 2) → ∃ i, i < A 0 0 ∧ (L.getD j (0, 0)).2 = nI i) ∧ ((L.getD j (0, 0)).1 = 3 → ∃ i, i < 16 ∧ (L.getD j (0, 0)).2 = nI i)) ∧
  (K.length ≤ 8 ∧ ∀ j, j < K.length → (K.getD j (0, 0)).1 < A 0 0 ∧ (K.getD j (0, 0)).2 < 4)
def zc_V (b pk : Nat) (m : zj_M) (G : Nat → List (Nat × Nat)) (N : Nat) : ze_B → Prop := fun (A, P, ra, np, T, S, L, K) => zc_W b pk m A P ra np T S L K G N
/-- the class: now (26 over 14), kept (53 over 22), the bodies that ran, at most c calls made -/
def zc_R (c : Nat) (m : zj_M) (B : ze_B) (kp : Option ze_B) (tr : List Nat) (G : Nat → List (Nat × Nat)) (N : Nat) : Prop :=
  zc_V 26 14 m G N B ∧ (m 0 7 = nI N ∧ N ≤ c) ∧ ((kp = none ∧ m 0 6 = nI 0) ∨ ∃ B2, kp = some B2 ∧ m 0 6 = nI 1 ∧ zc_V 53 22 m G N B2) ∧ (za_T m tr ∧ tr.length ≤ 20) ∧ (m 27 13 = nI 9999 ∧ m 80 13 = nI 2147483647)
def zc_Q (c : Nat) (m : zj_M) (B : ze_B) (kp : Option ze_B) (tr : List Nat) : Prop := ∃ G N, zc_R c m B kp tr G N
/-- what a question of the class may change -/
def zc_a (m m' : zj_M) : Prop := ∀ u j, u ≠ 13 → u ≠ 17 → (u = 27 → j < 16) → (u < 80 ∨ 89 < u ∨ (u = 80 ∧ 10 < j ∧ j < 16)) → m' u j = m u j
theorem zc_a.rf {m : zj_M} : zc_a m m := fun _ _ _ _ _ _ => rfl
theorem zc_a.trans {m m1 m2 : zj_M} (h1 : zc_a m m1) (h2 : zc_a m1 m2) : zc_a m m2 := fun u j a b c d => (h2 u j a b c d).trans (h1 u j a b c d)
theorem zc_V.keep {b pk : Nat} {m m' : zj_M} {G : Nat → List (Nat × Nat)} {N : Nat} {B : ze_B} (h : zc_V b pk m G N B) (hX : za_cache m' G N) (hm : ∀ u j, ((pk ≤ u ∧ u ≤ pk + 2) ∨ (b ≤ u ∧ u ≤ b + 26 ∧ (u = b + 1 → j < 11) ∧ u ≠ b + 9 ∧ u ≠ b + 10)) → m' u j = m u j) : zc_V b pk m' G N B := by
  obtain ⟨A, P, ra, np, T, S, L, K⟩ := B
  obtain ⟨⟨w1, w2, w3⟩, ⟨w4, w5, w6, w7⟩, w8⟩ := h
  exact ⟨⟨w1.keep fun u j h1 h2 h3 => hm u j (by omega), w2.keep hX fun u j h1 h2 => hm u j (by omega), (hm _ _ (by omega)).trans w3⟩, ⟨w4.keep fun u j h1 h2 => hm u j (by omega), w5.keep fun u j h1 h2 => hm u j (by omega), w6.keep fun u j h1 h2 => hm u j (by omega), w7.keep fun u j h1 h2 => hm u j (by omega)⟩, w8⟩
theorem za_T.keep {m m' : zj_M} {L : List Nat} (h : za_T m L) (hm : ∀ u j, u = 1 ∨ u = 2 → m' u j = m u j) : za_T m' L := ⟨(hm _ _ (Or.inl rfl)).trans h.1, fun j hj => (hm _ _ (Or.inr rfl)).trans (h.2 j hj)⟩
theorem zc_R.ask {c : Nat} {m m' : zj_M} {B : ze_B} {kp : Option ze_B} {tr : List Nat} {G : Nat → List (Nat × Nat)} {N : Nat} (h : zc_R c m B kp tr G N) (hX : za_cache m' G N) (hm : zc_a m m') : zc_R c m' B kp tr G N := by
  obtain ⟨h1, ⟨h2, h3⟩, h4, ⟨h5, h6⟩, h7, h8⟩ := h
  refine ⟨h1.keep hX fun u j hu => hm u j (by omega) (by omega) (by omega) (by omega), ⟨(hm _ _ (by omega) (by omega) (by omega) (by omega)).trans h2, h3⟩, ?_, ⟨h5.keep fun u j hu => hm u j (by omega) (by omega) (by omega) (by omega), h6⟩, (hm _ _ (by omega) (by omega) (by omega) (by omega)).trans h7, (hm _ _ (by omega) (by omega) (by omega) (by omega)).trans h8⟩
  rcases h4 with ⟨h4, h9⟩ | ⟨B2, h4, h9, h10⟩
  · exact Or.inl ⟨h4, (hm _ _ (by omega) (by omega) (by omega) (by omega)).trans h9⟩
  · exact Or.inr ⟨B2, h4, (hm _ _ (by omega) (by omega) (by omega) (by omega)).trans h9, h10.keep hX fun u j hu => hm u j (by omega) (by omega) (by omega) (by omega)⟩
theorem zc_R.cache {c : Nat} {m : zj_M} {B : ze_B} {kp : Option ze_B} {tr : List Nat} {G : Nat → List (Nat × Nat)} {N : Nat} (h : zc_R c m B kp tr G N) : za_cache m G N := by
  obtain ⟨A, P, ra, np, T, S, L, K⟩ := B
  exact h.1.1.2.1.2.2.2
/-- the reference: what its row holds -/
def zm_B (m : zj_M) : ze_B → Prop := fun (A, P, ra, np, T, S, L, K) =>
  (zd_A m A ∧ zd_P m P ra ∧ (m 91 32 = -nI 1 ∨ ∃ h, h < np ∧ m 91 32 = nI h)) ∧ (m 91 27 = nI np ∧ m 91 28 = nI S.length ∧ m 91 29 = nI L.length ∧ m 91 30 = nI K.length ∧ m 91 31 = nI T.length) ∧
  (∀ j, j < T.length → m 91 (123 + j) = nI (T.getD j 0)) ∧ (∀ j, j < S.length → m 91 (73 + j) = nI (S.getD j (0, 0, 0)).1 ∧ m 91 (79 + j) = nI (S.getD j (0, 0, 0)).2.1 ∧ m 91 (85 + j) = nI (S.getD j (0, 0, 0)).2.2) ∧
  (∀ j, j < L.length → m 91 (91 + j) = nI (L.getD j (0, 0)).1 ∧ m 91 (99 + j) = (L.getD j (0, 0)).2) ∧ (∀ j, j < K.length → m 91 (107 + j) = nI (K.getD j (0, 0)).1 ∧ m 91 (115 + j) = nI (K.getD j (0, 0)).2)
theorem zm_B.keep {m m' : zj_M} {B : ze_B} (h : zm_B m B) (hm : ∀ j, m' 91 j = m 91 j) : zm_B m' B := by
  obtain ⟨A, P, ra, np, T, S, L, K⟩ := B
  obtain ⟨⟨h1, h2, h3⟩, ⟨h4, h5, h6, h7, h8⟩, h9, h10, h11, h12⟩ := h
  refine ⟨⟨h1.keep fun j _ => hm j, h2.keep fun j _ => hm j, by rw [hm]; exact h3⟩, ⟨?_, ?_, ?_, ?_, ?_⟩, fun j hj => ?_, fun j hj => ?_, fun j hj => ?_, fun j hj => ?_⟩
  · rw [hm]; exact h4
  · rw [hm]; exact h5
  · rw [hm]; exact h6
  · rw [hm]; exact h7
  · rw [hm]; exact h8
  · rw [hm]; exact h9 j hj
  · rw [hm, hm, hm]; exact h10 j hj
  · rw [hm, hm]; exact h11 j hj
  · rw [hm, hm]; exact h12 j hj
def zm_Q (m : zj_M) (B : ze_B) (kp : Option ze_B) (tr : List Nat) : Prop :=
  zm_B m B ∧ ((kp = none ∧ m 90 4 = nI 0) ∨ ∃ B2, kp = some B2 ∧ m 90 4 = nI 1 ∧ zm_B (zj_sr m 91 (m 92)) B2) ∧ (m 90 18 = nI tr.length ∧ tr.length ≤ 20 ∧ ∀ j, j < tr.length → m 100 j = nI (tr.getD j 0)) ∧ m 90 14 = nI 0
theorem zm_img {m m' : zj_M} {B : ze_B} (h : zm_B (zj_sr m 91 (m 92)) B) (hm : ∀ j, m' 92 j = m 92 j) : zm_B (zj_sr m' 91 (m' 92)) B := h.keep fun j => by simp [zj_sr, hm]
/-- all but the row's own places is as it was -/
theorem zm_Q.upd {m m' : zj_M} {B B' : ze_B} {kp : Option ze_B} {tr : List Nat} (h : zm_Q m B kp tr) (hB : zm_B m' B') (hm : ∀ u j, (u = 90 ∧ (j = 4 ∨ j = 14 ∨ j = 18)) ∨ u = 92 ∨ u = 100 → m' u j = m u j) : zm_Q m' B' kp tr := by
  obtain ⟨h1, h2, ⟨h3, h4, h5⟩, h6⟩ := h
  refine ⟨hB, ?_, ⟨(hm _ _ (by omega)).trans h3, h4, fun j hj => (hm _ _ (by omega)).trans (h5 j hj)⟩, (hm _ _ (by omega)).trans h6⟩
  rcases h2 with ⟨h2, h7⟩ | ⟨B2, h2, h7, h8⟩
  · exact Or.inl ⟨h2, (hm _ _ (by omega)).trans h7⟩
  · exact Or.inr ⟨B2, h2, (hm _ _ (by omega)).trans h7, zm_img h8 fun j => hm _ _ (by omega)⟩
theorem zm_Q.ask {m m' : zj_M} {B : ze_B} {kp : Option ze_B} {tr : List Nat} (h : zm_Q m B kp tr) (hm : zm_a m m') : zm_Q m' B kp tr := h.upd (h.1.keep fun j => hm 91 j (by omega)) fun u j hu => hm u j (by omega)
section ZQ
variable {m : zj_M} {A : za_A} {P : List (Nat × Nat)} {ra np : Nat} {T : List Nat} {S : List (Nat × Nat × Nat)} {L : List (Nat × Int32)} {K : List (Nat × Nat)} {kp : Option ze_B} {tr : List Nat} {c : Nat} {G : Nat → List (Nat × Nat)} {N : Nat}
theorem zc_R.parts (h : zc_R c m (A, P, ra, np, T, S, L, K) kp tr G N) : (za_R 27 m A ∧ za_K 14 m P ra G N ∧ m 26 6 = nI np) ∧ (za_Rw 37 m (zc_t T) ∧ za_Rw 41 m (za_sl S) ∧ za_Rw 45 m (zc_l L) ∧ za_Rw 49 m (zc_k K)) := ⟨h.1.1, h.1.2.1⟩
/-- the state that goes on, of the reference -/
theorem zm_Q.st (h : zm_Q m (A, P, ra, np, T, S, L, K) kp tr) (hok : ze_ok (A, P, ra, np, T, S, L, K)) : zm_S m A P ra := ⟨⟨hok.1.1, hok.1.2.1⟩, h.1.1.1, h.1.1.2.1, Or.inl h.2.2.2⟩
/-- the trial begins -/
theorem zt_trial (h : zc_R c m (A, P, ra, np, T, S, L, K) kp tr G N) (hok : ze_ok (A, P, ra, np, T, S, L, K)) : ∃ m', zf_X11_startTrial [.ref 0] m = some ([.ref 80], m') ∧ za_S 80 14 m' A P ra G N 2147483647 ∧ zc_a m m' := by
  obtain ⟨⟨p1, p2, p3⟩, p4⟩ := h.parts
  obtain ⟨m', e1, e2, e3⟩ := zt_X11_startTrial m
  have hX : za_cache m' G N := h.cache.keep fun j => e3 _ _ (by omega)
  exact ⟨m', e1, ⟨⟨hok.1.1, hok.1.2.1⟩, e2 A p1, p2.keep hX fun u j h1 h2 => e3 u j (by omega), (e3 _ _ (by omega)).trans h.2.2.2.2.2, by omega⟩, fun u j h1 h2 h3 h4 => e3 u j (by omega)⟩
theorem za_fr.a {m m' : zj_M} (h : za_fr 80 14 m m') : zc_a m m' := fun u j h1 h2 h3 h4 => h u j h1 h2 (by omega) (by omega)
theorem zc_R.tried {m' : zj_M} (h : zc_R c m (A, P, ra, np, T, S, L, K) kp tr G N) (hm : zc_a m m') (hK : za_K 14 m' P ra G N) : zc_Q c m' (A, P, ra, np, T, S, L, K) kp tr := ⟨G, N, h.ask hK.2.2.2 hm⟩
end ZQ
theorem za_sep80 : za_sep 80 14 := ⟨by omega, by omega⟩
theorem za_sep27 : za_sep 27 14 := ⟨by omega, by omega⟩
