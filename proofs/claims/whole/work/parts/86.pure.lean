/-! park: the parser's mirror: what a fault leaves, how far it goes, that what it writes is well formed -/
def zp_G (T : List Nat) (p : zp_S → zp_S) : Prop := ∀ s : zp_S, s.pos ≤ T.length → (s.bad = true → (p s).bad = true ∧ (p s).pos = s.pos) ∧ (s.pos ≤ (p s).pos ∧ (p s).pos ≤ T.length)
/-- reads n signs at least, writes nothing -/
def zp_D (T : List Nat) (n : Nat) (p : zp_S → zp_S) : Prop := zp_G T p ∧ ∀ s : zp_S, s.pos ≤ T.length → (p s).bad = false → s.bad = false ∧ (p s).W = s.W ∧ (p s).ra = s.ra ∧ s.pos + n ≤ (p s).pos
/-- writes what gives one truth, over at most d more -/
def zp_E (T : List Nat) (d : Nat) (p : zp_S → zp_S) : Prop := zp_G T p ∧ ∀ s : zp_S, s.pos ≤ T.length → (p s).bad = false → s.bad = false ∧ (s.W.length ≤ s.pos → ∃ c, (p s).W = s.W ++ c ∧ c.length + s.pos + 1 ≤ (p s).pos ∧ (p s).ra = s.ra ∧ ∀ rest k b, k + d ≤ 30 → za_wf (c ++ rest) k b = za_wf rest (k + 1) b)
section ZQ
variable {T : List Nat} {p q : zp_S → zp_S} {n k d : Nat}
theorem zp_G.comp (hp : zp_G T p) (hq : zp_G T q) : zp_G T (fun s => q (p s)) := fun s hs => by
  obtain ⟨a1, a2, a3⟩ := hp s hs
  obtain ⟨b1, b2, b3⟩ := hq (p s) a3
  exact ⟨fun hb => ⟨(b1 (a1 hb).1).1, (b1 (a1 hb).1).2.trans (a1 hb).2⟩, Nat.le_trans a2 b2, b3⟩
theorem zp_G.good (h : zp_G T p) {s : zp_S} (hs : s.pos ≤ T.length) (hb : (p s).bad = false) : s.bad = false := by
  cases e : s.bad with
  | false => rfl
  | true => exact absurd (hb.symm.trans ((h s hs).1 e).1) (by decide)
theorem zp_sg_bad {s : zp_S} (h : s.bad = true) : zp_sg T s = none := by
  unfold zp_sg
  rw [if_pos h]
theorem zp_nf {s : zp_S} : ¬ (zp_fail s).bad = false := fun h => Bool.noConfusion h
theorem zp_G.fail : zp_G T zp_fail := fun s hs => ⟨fun _ => ⟨rfl, rfl⟩, Nat.le_refl _, hs⟩
theorem zp_G.id : zp_G T (fun s => s) := fun s hs => ⟨fun h => ⟨h, rfl⟩, Nat.le_refl _, hs⟩
theorem zp_wr_pos (s : zp_S) (a b : Nat) : (zp_wr s a b).pos = s.pos ∧ (zp_wr s a b).bad = s.bad ∧ (zp_wr s a b).ra = s.ra := by
  unfold zp_wr
  by_cases h : s.W.length < 100
  · rw [if_pos h]; exact ⟨rfl, rfl, rfl⟩
  · rw [if_neg h]; exact ⟨rfl, rfl, rfl⟩
theorem zp_wr_W (s : zp_S) (a b : Nat) (h : s.W.length < 100) : (zp_wr s a b).W = s.W ++ [(a, b)] := by
  unfold zp_wr
  rw [if_pos h]
theorem zp_G.wr (hp : zp_G T p) (a : zp_S → Nat) (b : zp_S → Nat) : zp_G T (fun s => zp_wr (p s) (a s) (b s)) := fun s hs => by
  obtain ⟨e1, e2, -⟩ := zp_wr_pos (p s) (a s) (b s)
  have h := hp s hs
  show (s.bad = true → (zp_wr (p s) (a s) (b s)).bad = true ∧ (zp_wr (p s) (a s) (b s)).pos = s.pos) ∧ (s.pos ≤ (zp_wr (p s) (a s) (b s)).pos ∧ (zp_wr (p s) (a s) (b s)).pos ≤ T.length)
  rw [e1, e2]
  exact h
/-- behind a sign that is there -/
theorem zp_nx {s : zp_S} {c : Nat} (h : zp_sg T s = some c) : s.bad = false ∧ (zp_next s).bad = false ∧ (zp_next s).pos = s.pos + 1 ∧ s.pos + 1 ≤ T.length := by
  obtain ⟨h1, h2, -⟩ := zp_sg_lt h
  exact ⟨h1, h1, rfl, h2⟩
theorem zp_take_c (T : List Nat) (c : Nat) (s : zp_S) : (zp_sg T s = some c ∧ zp_take T c s = zp_next s) ∨ (¬ zp_sg T s = some c ∧ zp_take T c s = zp_fail s) := by
  unfold zp_take
  by_cases h : zp_sg T s = some c
  · exact Or.inl ⟨h, if_pos h⟩
  · exact Or.inr ⟨h, if_neg h⟩
theorem zp_D.take (c : Nat) : zp_D T 1 (zp_take T c) := by
  refine ⟨fun s hs => ?_, fun s hs hb => ?_⟩
  · rcases zp_take_c T c s with ⟨h, e⟩ | ⟨h, e⟩
    · obtain ⟨h1, h2, h3, h4⟩ := zp_nx h
      rw [e, h3]
      exact ⟨fun q => absurd (h1.symm.trans q) (by decide), Nat.le_succ _, h4⟩
    · rw [e]; exact zp_G.fail s hs
  · rcases zp_take_c T c s with ⟨h, e⟩ | ⟨h, e⟩
    · obtain ⟨h1, h2, h3, h4⟩ := zp_nx h
      rw [e]
      exact ⟨h1, rfl, rfl, Nat.le_refl _⟩
    · rw [e] at hb
      exact absurd hb zp_nf
theorem zp_D.comp (hp : zp_D T n p) (hq : zp_D T k q) : zp_D T (n + k) (fun s => q (p s)) := by
  refine ⟨hp.1.comp hq.1, fun s hs hb => ?_⟩
  have h3 := (hp.1 s hs).2.2
  obtain ⟨b1, b2, b3, b4⟩ := hq.2 (p s) h3 hb
  obtain ⟨a1, a2, a3, a4⟩ := hp.2 s hs b1
  exact ⟨a1, b2.trans a2, b3.trans a3, by have h5 : s.pos + n + k ≤ (q (p s)).pos := Nat.le_trans (Nat.add_le_add_right a4 k) b4; exact Nat.add_assoc s.pos n k ▸ h5⟩
theorem zp_D.id : zp_D T 0 (fun s => s) := ⟨zp_G.id, fun s _ hb => ⟨hb, rfl, rfl, Nat.le_refl _⟩⟩
theorem zp_D.word : ∀ w : List Nat, zp_D T w.length (zp_word T w)
  | [] => zp_D.id
  | c :: w => by
    have h := (zp_D.take (T := T) c).comp (zp_D.word w)
    rw [Nat.add_comm] at h
    exact h
theorem zp_D.of (l : List Nat) : zp_D T 1 (fun s => (zp_of T l s).2) := by
  have C : ∀ s, (∃ c, zp_sg T s = some c ∧ (zp_of T l s).2 = zp_next s) ∨ (zp_of T l s).2 = zp_fail s := fun s => by
    unfold zp_of
    cases h : zp_sg T s with
    | none => exact Or.inr rfl
    | some c =>
      simp only
      cases h2 : zp_ix c l 0 with
      | none => exact Or.inr rfl
      | some k => exact Or.inl ⟨c, rfl, rfl⟩
  refine ⟨fun s hs => ?_, fun s hs hb => ?_⟩
  · rcases C s with ⟨c, h, e⟩ | e
    · obtain ⟨h1, h2, h3, h4⟩ := zp_nx h
      simp only [e]
      rw [h3]
      exact ⟨fun q => absurd (h1.symm.trans q) (by decide), Nat.le_succ _, h4⟩
    · simp only [e]; exact zp_G.fail s hs
  · rcases C s with ⟨c, h, e⟩ | e
    · obtain ⟨h1, h2, h3, h4⟩ := zp_nx h
      simp only [e]
      exact ⟨h1, rfl, rfl, Nat.le_refl _⟩
    · simp only [e] at hb
      exact absurd hb zp_nf
theorem zp_num_c (T : List Nat) (s : zp_S) : (zp_num T s).1 < 100 ∧ ((∃ c, zp_sg T s = some c ∧ (zp_num T s).2 = zp_next s) ∨ (∃ c e, zp_sg T s = some c ∧ zp_sg T (zp_next s) = some e ∧ (zp_num T s).2 = zp_next (zp_next s)) ∨ (zp_num T s).2 = zp_fail s) := by
  unfold zp_num
  cases h : zp_dig (zp_sg T s) with
  | none => exact ⟨by show 0 < 100; omega, Or.inr (Or.inr rfl)⟩
  | some d =>
    obtain ⟨c, hc, h48, h57, rfl⟩ := zp_dig_some h
    simp only
    by_cases h0 : c - 48 = 0
    · rw [if_pos h0]
      exact ⟨by show 0 < 100; omega, Or.inl ⟨c, hc, rfl⟩⟩
    · rw [if_neg h0]
      cases h1 : zp_dig (zp_sg T (zp_next s)) with
      | none => exact ⟨by show c - 48 < 100; omega, Or.inl ⟨c, hc, rfl⟩⟩
      | some e =>
        obtain ⟨c2, hc2, h482, h572, rfl⟩ := zp_dig_some h1
        exact ⟨by show (c - 48) * 10 + (c2 - 48) < 100; omega, Or.inr (Or.inl ⟨c, c2, hc, hc2, rfl⟩)⟩
theorem zp_D.num : zp_D T 1 (fun s => (zp_num T s).2) := by
  refine ⟨fun s hs => ?_, fun s hs hb => ?_⟩
  · rcases (zp_num_c T s).2 with ⟨c, h, e⟩ | ⟨c, c2, h, g, e⟩ | e
    · obtain ⟨h1, h2, h3, h4⟩ := zp_nx h
      simp only [e]
      rw [h3]
      exact ⟨fun q => absurd (h1.symm.trans q) (by decide), Nat.le_succ _, h4⟩
    · obtain ⟨h1, h2, h3, h4⟩ := zp_nx h
      obtain ⟨g1, g2, g3, g4⟩ := zp_nx g
      simp only [e]
      rw [g3]
      exact ⟨fun q => absurd (h1.symm.trans q) (by decide), by rw [h3]; omega, g4⟩
    · simp only [e]; exact zp_G.fail s hs
  · rcases (zp_num_c T s).2 with ⟨c, h, e⟩ | ⟨c, c2, h, g, e⟩ | e
    · obtain ⟨h1, h2, h3, h4⟩ := zp_nx h
      simp only [e]
      exact ⟨h1, rfl, rfl, Nat.le_refl _⟩
    · obtain ⟨h1, h2, h3, h4⟩ := zp_nx h
      simp only [e]
      exact ⟨h1, rfl, rfl, Nat.le_succ _⟩
    · simp only [e] at hb
      exact absurd hb zp_nf
theorem zp_ix_num {l : List Nat} {s : zp_S} (h : 0 < l.length) : (zp_of T l s).1 < l.length := by
  unfold zp_of
  cases zp_sg T s with
  | none => exact h
  | some c =>
    simp only
    cases h2 : zp_ix c l 0 with
    | none => exact h
    | some k => have := (zp_ix_lt l 0 k h2).2; simp only; omega
theorem zp_E.mono {d2 : Nat} (h : zp_E T d p) (hd : d ≤ d2) : zp_E T d2 p := ⟨h.1, fun s hs hb => by
  obtain ⟨h1, h2⟩ := h.2 s hs hb
  refine ⟨h1, fun hw => ?_⟩
  obtain ⟨c, c1, c2, c3, c4⟩ := h2 hw
  exact ⟨c, c1, c2, c3, fun rest k b hk => c4 rest k b (by omega)⟩⟩
theorem zp_E.test (hT : T.length ≤ 100) : zp_E T 1 (zp_test T) := by
  have hD := ((zp_D.of (T := T) [112, 107, 118, 99, 109, 115]).comp (zp_D.of [60, 61, 62])).comp zp_D.num
  refine ⟨hD.1.wr _ _, fun s hs hb => ?_⟩
  unfold zp_test at hb ⊢
  obtain ⟨n, hn⟩ : ∃ n, (zp_of T [112, 107, 118, 99, 109, 115] s).1 * 3 + (zp_of T [60, 61, 62] (zp_of T [112, 107, 118, 99, 109, 115] s).2).1 = n := ⟨_, rfl⟩
  have hn2 : n < 18 := by
    have h1 := zp_ix_num (T := T) (l := [112, 107, 118, 99, 109, 115]) (s := s) (by decide)
    have h2 := zp_ix_num (T := T) (l := [60, 61, 62]) (s := (zp_of T [112, 107, 118, 99, 109, 115] s).2) (by decide)
    simp only [List.length_cons, List.length_nil] at h1 h2
    omega
  have hv := (zp_num_c T (zp_of T [60, 61, 62] (zp_of T [112, 107, 118, 99, 109, 115] s).2).2).1
  rw [hn] at hb ⊢
  have hD2 := hD.2 s hs
  have hD3 := (hD.1 s hs).2.2
  dsimp only at hD2 hD3
  generalize zp_num T (zp_of T [60, 61, 62] (zp_of T [112, 107, 118, 99, 109, 115] s).2).2 = r at hb hv hD2 hD3 ⊢
  obtain ⟨v, s1⟩ := r
  simp only at hb hv hD2 hD3 ⊢
  obtain ⟨e1, e2, e3⟩ := zp_wr_pos s1 n v
  rw [e2] at hb
  obtain ⟨h1, h2, h3, h4⟩ := hD2 hb
  refine ⟨h1, fun hw => ⟨[(n, v)], ?_, ?_, ?_, ?_⟩⟩
  · rw [zp_wr_W s1 n v (by rw [h2]; omega), h2]
  · rw [e1]; simp only [List.length_cons, List.length_nil]; omega
  · rw [e3, h3]
  · intro rest k b hk
    rw [List.cons_append, List.nil_append, za_wf]
    simp [hv, hn2, show k < 30 by omega, show v ≤ 99 by omega]
/-- an operator behind two -/
theorem za_wf_bin {op k b : Nat} {rest : List (Nat × Nat)} (h : op = 18 ∨ op = 19) (hk : 1 ≤ k) : za_wf ((op, 0) :: rest) (k + 1) b = za_wf rest k b := by
  rcases h with rfl | rfl <;> rw [za_wf] <;> simp [show 2 ≤ k + 1 by omega]
theorem za_wf_not {k b : Nat} {rest : List (Nat × Nat)} (hk : 1 ≤ k) : za_wf ((20, 0) :: rest) k b = za_wf rest k b := by
  rw [za_wf]
  simp [hk]
theorem za_wf_end {e n b : Nat} {rest : List (Nat × Nat)} (h : e = 21 ∨ e = 22) (hn : n < 100) : za_wf ((e, n) :: rest) 1 (b + 1) = za_wf rest 0 b := by
  have h9 : n ≤ 99 := by omega
  rcases h with rfl | rfl <;> rw [za_wf] <;> simp [hn, h9]
theorem zp_G.loop (hp : zp_G T p) (c op : Nat) : ∀ n, zp_G T (zp_loop T c op p n)
  | 0 => zp_G.id
  | n + 1 => fun s hs => by
    rw [zp_loop]
    by_cases h : zp_sg T s = some c
    · obtain ⟨h1, h2, h3, h4⟩ := zp_nx h
      rw [if_pos h]
      have hs1 : (zp_next s).pos ≤ T.length := by rw [h3]; exact h4
      obtain ⟨a1, a2, a3⟩ := hp (zp_next s) hs1
      obtain ⟨e1, e2, -⟩ := zp_wr_pos (p (zp_next s)) op 0
      obtain ⟨b1, b2, b3⟩ := zp_G.loop hp c op n (zp_wr (p (zp_next s)) op 0) (by rw [e1]; exact a3)
      rw [e1] at b2
      exact ⟨fun q => absurd (h1.symm.trans q) (by decide), by omega, b3⟩
    · rw [if_neg h]; exact zp_G.id s hs
/-- a loop behind what gives one truth: more of them, and an operator behind each -/
theorem zp_E.loop (hT : T.length ≤ 100) (hp : zp_E T d p) {c op : Nat} (hop : op = 18 ∨ op = 19) : ∀ (n : Nat) (s : zp_S), s.pos ≤ T.length → (zp_loop T c op p n s).bad = false → s.bad = false ∧ (s.W.length + 1 ≤ s.pos → ∃ c2, (zp_loop T c op p n s).W = s.W ++ c2 ∧ c2.length + s.pos ≤ (zp_loop T c op p n s).pos ∧ (zp_loop T c op p n s).ra = s.ra ∧ ∀ rest k b, 1 ≤ k → k + d ≤ 30 → za_wf (c2 ++ rest) k b = za_wf rest k b)
  | 0, s, hs, hb => ⟨hb, fun _ => ⟨[], by rw [List.append_nil]; rfl, Nat.le_of_eq (Nat.zero_add _), rfl, fun _ _ _ _ _ => rfl⟩⟩
  | n + 1, s, hs, hb => by
    rw [zp_loop] at hb ⊢
    by_cases h : zp_sg T s = some c
    · rw [if_pos h] at hb ⊢
      obtain ⟨h1, h2, h3, h4⟩ := zp_nx h
      have hs1 : (zp_next s).pos ≤ T.length := by rw [h3]; exact h4
      obtain ⟨-, a2, a3⟩ := hp.1 (zp_next s) hs1
      obtain ⟨e1, e2, e3⟩ := zp_wr_pos (p (zp_next s)) op 0
      obtain ⟨b1, b2⟩ := zp_E.loop hT hp hop n (zp_wr (p (zp_next s)) op 0) (by rw [e1]; exact a3) hb
      rw [e2] at b1
      obtain ⟨f1, f2⟩ := hp.2 (zp_next s) hs1 b1
      refine ⟨h1, fun hw => ?_⟩
      have eW : (zp_next s).W = s.W := rfl
      obtain ⟨c1, g1, g2, g3, g4⟩ := f2 (by rw [h3, eW]; omega)
      rw [eW] at g1
      have gl : (p (zp_next s)).W.length = s.W.length + c1.length := by rw [g1, List.length_append]
      have hw2 := zp_wr_W (p (zp_next s)) op 0 (by omega)
      obtain ⟨c2, k1, k2, k3, k4⟩ := b2 (by rw [hw2, e1, List.length_append, gl]; simp only [List.length_cons, List.length_nil]; omega)
      refine ⟨c1 ++ [(op, 0)] ++ c2, ?_, ?_, ?_, ?_⟩
      · rw [k1, hw2, g1]
        simp only [List.append_assoc]
      · rw [e1] at k2
        simp only [List.length_append, List.length_cons, List.length_nil]
        omega
      · rw [k3, e3, g3]; rfl
      · intro rest k b hk hk2
        rw [List.append_assoc, List.append_assoc, g4 _ k b hk2, List.cons_append, List.nil_append, za_wf_bin hop hk]
        exact k4 rest k b hk hk2
    · rw [if_neg h] at hb ⊢
      exact ⟨hb, fun _ => ⟨[], by rw [List.append_nil], Nat.le_of_eq (Nat.zero_add _), rfl, fun _ _ _ _ _ => rfl⟩⟩
theorem zp_E.chain (hT : T.length ≤ 100) (hp : zp_E T d p) {c op : Nat} (hop : op = 18 ∨ op = 19) : zp_E T (d + 1) (fun s => zp_loop T c op p 100 (p s)) := by
  refine ⟨hp.1.comp (hp.1.loop c op 100), fun s hs hb => ?_⟩
  obtain ⟨-, a2, a3⟩ := hp.1 s hs
  obtain ⟨b1, b2⟩ := hp.loop hT hop 100 (p s) a3 hb
  obtain ⟨f1, f2⟩ := hp.2 s hs b1
  refine ⟨f1, fun hw => ?_⟩
  obtain ⟨c1, g1, g2, g3, g4⟩ := f2 hw
  obtain ⟨c2, k1, k2, k3, k4⟩ := b2 (by rw [g1, List.length_append]; omega)
  refine ⟨c1 ++ c2, by rw [k1, g1, List.append_assoc], by rw [List.length_append]; dsimp only; omega, k3.trans g3, fun rest k b hk => ?_⟩
  rw [List.append_assoc, g4 _ k b (by omega)]
  exact k4 rest (k + 1) b (by omega) (by omega)
theorem zp_E.both (hT : T.length ≤ 100) (hp : zp_E T d p) : zp_E T (d + 1) (zp_both T p) := hp.chain hT (Or.inl rfl)
theorem zp_E.either (hT : T.length ≤ 100) (hp : zp_E T d p) : zp_E T (d + 2) (zp_either T p) := (hp.both hT).chain hT (Or.inr rfl)
theorem zp_E.part (hT : T.length ≤ 100) : ∀ b, zp_E T (2 * b + 1) (zp_part T b) := by
  intro b
  induction b with
  | zero =>
    have ht := zp_E.test hT
    refine ⟨fun s hs => ?_, fun s hs hb => ?_⟩
    · rw [zp_part]
      by_cases h : zp_sg T s = some 33 ∨ zp_sg T s = some 40
      · rw [if_pos h]; exact zp_G.fail s hs
      · rw [if_neg h]; exact ht.1 s hs
    · rw [zp_part] at hb ⊢
      by_cases h : zp_sg T s = some 33 ∨ zp_sg T s = some 40
      · rw [if_pos h] at hb; exact absurd hb zp_nf
      · rw [if_neg h] at hb ⊢; exact ht.2 s hs hb
  | succ b ih =>
    have ht := (zp_E.test hT).mono (d2 := 2 * (b + 1) + 1) (by omega)
    have ie := ih.either hT
    refine ⟨fun s hs => ?_, fun s hs hb => ?_⟩
    · rw [zp_part]
      by_cases h : zp_sg T s = some 33
      · rw [if_pos h]
        obtain ⟨h1, h2, h3, h4⟩ := zp_nx h
        obtain ⟨-, a2, a3⟩ := ih.1 (zp_next s) (by rw [h3]; exact h4)
        obtain ⟨e1, e2, e3⟩ := zp_wr_pos (zp_part T b (zp_next s)) 20 0
        rw [e1]
        exact ⟨fun q => absurd (h1.symm.trans q) (by decide), by omega, a3⟩
      · rw [if_neg h]
        by_cases g : zp_sg T s = some 40
        · rw [if_pos g]
          obtain ⟨h1, h2, h3, h4⟩ := zp_nx g
          obtain ⟨-, a2, a3⟩ := (ie.1.comp (zp_D.take 41).1) (zp_next s) (by rw [h3]; exact h4)
          dsimp only at a2 a3
          exact ⟨fun q => absurd (h1.symm.trans q) (by decide), by omega, a3⟩
        · rw [if_neg g]; exact ht.1 s hs
    · rw [zp_part] at hb ⊢
      by_cases h : zp_sg T s = some 33
      · rw [if_pos h] at hb ⊢
        obtain ⟨h1, h2, h3, h4⟩ := zp_nx h
        have hs1 : (zp_next s).pos ≤ T.length := by rw [h3]; exact h4
        obtain ⟨e1, e2, e3⟩ := zp_wr_pos (zp_part T b (zp_next s)) 20 0
        rw [e2] at hb
        obtain ⟨-, a2, a3⟩ := ih.1 (zp_next s) hs1
        obtain ⟨f1, f2⟩ := ih.2 (zp_next s) hs1 hb
        refine ⟨h1, fun hw => ?_⟩
        have eW : (zp_next s).W = s.W := rfl
        obtain ⟨c1, g1, g2, g3, g4⟩ := f2 (by rw [h3, eW]; omega)
        rw [eW] at g1
        refine ⟨c1 ++ [(20, 0)], ?_, ?_, ?_, ?_⟩
        · rw [zp_wr_W _ _ _ (by rw [g1, List.length_append]; omega), g1, List.append_assoc]
        · rw [e1, List.length_append]; simp only [List.length_cons, List.length_nil]; omega
        · rw [e3, g3]; rfl
        · intro rest k b2 hk
          rw [List.append_assoc, g4 _ k b2 (by omega), List.cons_append, List.nil_append, za_wf_not (by omega)]
      · rw [if_neg h] at hb ⊢
        by_cases g : zp_sg T s = some 40
        · rw [if_pos g] at hb ⊢
          obtain ⟨h1, h2, h3, h4⟩ := zp_nx g
          have hs1 : (zp_next s).pos ≤ T.length := by rw [h3]; exact h4
          have hs2 := (ie.1 (zp_next s) hs1).2.2
          obtain ⟨t1, t2, t3, t4⟩ := (zp_D.take (T := T) 41).2 _ hs2 hb
          obtain ⟨f1, f2⟩ := ie.2 (zp_next s) hs1 t1
          refine ⟨h1, fun hw => ?_⟩
          have eW : (zp_next s).W = s.W := rfl
          obtain ⟨c1, g1, g2, g3, g4⟩ := f2 (by rw [h3, eW]; omega)
          refine ⟨c1, by rw [t2, g1]; rfl, by omega, by rw [t3, g3]; rfl, fun rest k b2 hk => g4 rest k b2 (by omega)⟩
        · rw [if_neg g] at hb ⊢; exact ht.2 s hs hb
theorem zp_E.top (hT : T.length ≤ 100) : zp_E T 13 (zp_either T (zp_part T 5)) := (zp_E.part hT 5).either hT
end ZQ
/-! clauses -/
theorem za_wf_mono : ∀ (c : List (Nat × Nat)) (k b : Nat), za_wf c k b = true → za_wf c k (b + 1) = true
  | [], _, _, h => h
  | (d, n) :: c, k, b, h => by
    rw [za_wf] at h ⊢
    simp only [Bool.and_eq_true, decide_eq_true_eq] at h ⊢
    refine ⟨h.1, ?_⟩
    have h := h.2
    by_cases e1 : d < 18
    · rw [if_pos e1] at h ⊢
      simp only [Bool.and_eq_true, decide_eq_true_eq] at h ⊢
      exact ⟨h.1, za_wf_mono c _ _ h.2⟩
    · rw [if_neg e1] at h ⊢
      by_cases e2 : d = 18
      · rw [if_pos e2] at h ⊢
        simp only [Bool.and_eq_true, decide_eq_true_eq] at h ⊢
        exact ⟨h.1, za_wf_mono c _ _ h.2⟩
      · rw [if_neg e2] at h ⊢
        by_cases e3 : d = 19
        · rw [if_pos e3] at h ⊢
          simp only [Bool.and_eq_true, decide_eq_true_eq] at h ⊢
          exact ⟨h.1, za_wf_mono c _ _ h.2⟩
        · rw [if_neg e3] at h ⊢
          by_cases e4 : d = 20
          · rw [if_pos e4] at h ⊢
            simp only [Bool.and_eq_true, decide_eq_true_eq] at h ⊢
            exact ⟨h.1, za_wf_mono c _ _ h.2⟩
          · rw [if_neg e4] at h ⊢
            simp only [Bool.and_eq_true, decide_eq_true_eq] at h ⊢
            obtain ⟨h1, h2, h3, h4⟩ := h
            refine ⟨h1, h2, by omega, ?_⟩
            have := za_wf_mono c 0 (b - 1) h4
            rw [show b - 1 + 1 = b by omega] at this
            exact this
section ZQ
variable {T : List Nat}
/-- a clause: reads on, and writes what is well formed -/
def zp_Cl (T : List Nat) (p : zp_S → zp_S) : Prop := zp_G T p ∧ ∀ s : zp_S, s.pos ≤ T.length → (p s).bad = false → s.bad = false ∧ (s.W.length ≤ s.pos → ∃ c, (p s).W = s.W ++ c ∧ c.length + s.pos + 1 ≤ (p s).pos ∧ (s.ra < 100 → (p s).ra < 100) ∧ ∀ rest b, za_wf rest 0 b = true → za_wf (c ++ rest) 0 (b + 1) = true)
theorem zp_Cl.much (hT : T.length ≤ 100) {w : List Nat} {e : Nat} (he : e = 21 ∨ e = 22) : zp_Cl T (zp_much T w e) := by
  have hD := ((zp_D.word (T := T) w).comp zp_D.num).comp (zp_D.take 32)
  have hE := zp_E.top hT
  refine ⟨(hD.1.comp hE.1).wr _ _, fun s hs hb => ?_⟩
  unfold zp_much at hb ⊢
  have hn := (zp_num_c T (zp_word T w s)).1
  obtain ⟨e1, e2, e3⟩ := zp_wr_pos (zp_either T (zp_part T 5) (zp_take T 32 (zp_num T (zp_word T w s)).2)) e (zp_num T (zp_word T w s)).1
  rw [e2] at hb
  have hs1 := (hD.1 s hs).2.2
  have hs2 := (hE.1 _ hs1).2.2
  obtain ⟨f1, f2⟩ := hE.2 _ hs1 hb
  obtain ⟨d1, d2, d3, d4⟩ := hD.2 s hs f1
  refine ⟨d1, fun hw => ?_⟩
  simp only at d2 d3 d4 f2 hs1 hs2
  obtain ⟨c1, g1, g2, g3, g4⟩ := f2 (by rw [d2]; omega)
  refine ⟨c1 ++ [(e, (zp_num T (zp_word T w s)).1)], ?_, ?_, ?_, ?_⟩
  · rw [zp_wr_W _ _ _ (by rw [g1, List.length_append, d2]; omega), g1, d2, List.append_assoc]
  · rw [e1, List.length_append]; simp only [List.length_cons, List.length_nil]; omega
  · intro hr; rw [e3, g3, d3]; exact hr
  · intro rest b hr
    rw [List.append_assoc, g4 _ 0 _ (by omega), List.cons_append, List.nil_append, za_wf_end he hn]
    exact hr
theorem zp_Cl.rain : zp_Cl T (zp_rain T) := by
  have hD := (zp_D.word (T := T) [114, 97, 105, 110, 32]).comp zp_D.num
  refine ⟨fun s hs => hD.1 s hs, fun s hs hb => ?_⟩
  have hn := (zp_num_c T (zp_word T [114, 97, 105, 110, 32] s)).1
  obtain ⟨d1, d2, d3, d4⟩ := hD.2 s hs hb
  exact ⟨d1, fun hw => ⟨[], by rw [List.append_nil]; exact d2, by have d5 : s.pos + 6 ≤ (zp_rain T s).pos := d4; simp only [List.length_nil]; omega, fun _ => hn, fun rest b hr => za_wf_mono _ _ _ hr⟩⟩
theorem zp_Cl.clause (hT : T.length ≤ 100) : zp_Cl T (zp_clause T) := by
  have h1 := zp_Cl.rain (T := T)
  have h2 := zp_Cl.much hT (w := [115, 116, 105, 114, 32]) (e := 21) (Or.inl rfl)
  have h3 := zp_Cl.much hT (w := [99, 97, 108, 109, 32]) (e := 22) (Or.inr rfl)
  refine ⟨fun s hs => ?_, fun s hs hb => ?_⟩
  · unfold zp_clause
    by_cases q : zp_sg T s = some 114
    · rw [if_pos q]; exact h1.1 s hs
    · rw [if_neg q]
      by_cases q2 : zp_sg T s = some 115
      · rw [if_pos q2]; exact h2.1 s hs
      · rw [if_neg q2]; exact h3.1 s hs
  · unfold zp_clause at hb ⊢
    by_cases q : zp_sg T s = some 114
    · rw [if_pos q] at hb ⊢; exact h1.2 s hs hb
    · rw [if_neg q] at hb ⊢
      by_cases q2 : zp_sg T s = some 115
      · rw [if_pos q2] at hb ⊢; exact h2.2 s hs hb
      · rw [if_neg q2] at hb ⊢; exact h3.2 s hs hb
theorem zp_reads_ok (hT : T.length ≤ 100) : ∀ (n : Nat) (s : zp_S), s.pos ≤ T.length → s.W.length ≤ s.pos → s.ra < 100 → (zp_reads T n s).2 = true → (zp_reads T n s).1.ra < 100 ∧ (zp_reads T n s).1.W.length ≤ 100 ∧ ∃ c, (zp_reads T n s).1.W = s.W ++ c ∧ za_wf c 0 n = true
  | 0, _, _, _, _, h => Bool.noConfusion h
  | n + 1, s, hs, hw, hr, h => by
    have hC := zp_Cl.clause hT
    rw [zp_reads] at h ⊢
    have hp := (hC.1 s hs).2.2
    by_cases q : (zp_clause T s).bad = true ∨ T.length ≤ (zp_clause T s).pos
    · rw [if_pos q] at h ⊢
      have hb : (zp_clause T s).bad = false := by
        cases e : (zp_clause T s).bad with
        | false => rfl
        | true => rw [e] at h; exact Bool.noConfusion h
      obtain ⟨c, c1, c2, c3, c4⟩ := (hC.2 s hs hb).2 hw
      refine ⟨c3 hr, ?_, c, c1, ?_⟩
      · show (zp_clause T s).W.length ≤ 100
        rw [c1, List.length_append]; omega
      · have := c4 [] n rfl
        rw [List.append_nil] at this
        exact this
    · rw [if_neg q] at h ⊢
      have hb : (zp_clause T s).bad = false := by
        cases e : (zp_clause T s).bad with
        | false => rfl
        | true => exact absurd (Or.inl e) q
      obtain ⟨c, c1, c2, c3, c4⟩ := (hC.2 s hs hb).2 hw
      by_cases n0 : n = 0
      · subst n0
        exact Bool.noConfusion h
      · rw [if_neg n0] at h ⊢
        rcases zp_take_c T 59 (zp_clause T s) with ⟨g, e⟩ | ⟨g, e⟩
        · obtain ⟨h1, h2, h3, h4⟩ := zp_nx g
          rw [e] at h ⊢
          have eW : (zp_next (zp_clause T s)).W = s.W ++ c := c1
          obtain ⟨k1, k2, c5, k3, k4⟩ := zp_reads_ok hT n (zp_next (zp_clause T s)) (by rw [h3]; exact h4) (by rw [h3, eW, List.length_append]; omega) (c3 hr) h
          refine ⟨k1, k2, c ++ c5, by rw [k3, eW, List.append_assoc], c4 c5 n k4⟩
        · rw [e] at h
          obtain ⟨k, rfl⟩ : ∃ k, n = k + 1 := ⟨n - 1, by omega⟩
          rw [zp_reads] at h
          have hb2 := ((hC.1 (zp_fail (zp_clause T s)) hp).1 rfl).1
          rw [if_pos (Or.inl hb2), hb2] at h
          exact Bool.noConfusion h
end ZQ
