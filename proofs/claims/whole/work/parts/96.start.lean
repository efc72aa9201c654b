/-! FROM THE LAW'S ENTRY TO ITS LOOP -/
theorem zq_86 : Cond.classLink RL 7 RX11 ∈ zj_T := zj_mem (i := 86) (by decide +kernel) rfl
theorem zq_975 : Cond.classLink RL 10 RX12 ∈ zj_T := zj_mem (i := 975) (by decide +kernel) rfl
theorem zq_87 : Cond.instantiable RX11 8 ∈ zj_T := zj_mem (i := 87) (by decide +kernel) rfl
theorem zq_976 : Cond.instantiable RX12 22 ∈ zj_T := zj_mem (i := 976) (by decide +kernel) rfl
theorem zq_88 : Cond.methodLink RL 9 yX11_init ∈ zj_T := zj_mem (i := 88) (by decide +kernel) rfl
theorem zq_977 : Cond.methodLink RL 12 yX12_init ∈ zj_T := zj_mem (i := 977) (by decide +kernel) rfl
theorem zq_89 : Cond.instanceMethod yX11_init ∈ zj_T := zj_mem (i := 89) (by decide +kernel) rfl
theorem zq_978 : Cond.instanceMethod yX12_init ∈ zj_T := zj_mem (i := 978) (by decide +kernel) rfl
theorem zq_90 : Cond.code yX11_init cX11_init 5 none ∈ zj_T := zj_mem (i := 90) (by decide +kernel) rfl
theorem zq_979 : Cond.code yX12_init cX12_init 1 none ∈ zj_T := zj_mem (i := 979) (by decide +kernel) rfl
def zz_tm (i : Nat) : Term := .string (zj_ks.getD i ("", 0, "", 0)).1 (zj_ks.getD i ("", 0, "", 0)).2.1
def zz_fl : List Cond := flatC (Jvm.Cond.and given_1 narrow_1)
theorem zz_f1 : ∀ i, i < 10 → Cond.exactly (zz_tm i) "java/lang/String" ∈ zz_fl := by decide +kernel
theorem zz_f2 : ∀ i, i < 10 → Cond.eq (.field (zz_tm i) "java/lang/String" "coder" "B") (.int 0) ∈ zz_fl := by decide +kernel
theorem zz_f3 : ∀ i, i < 10 → Cond.arrayOf (.field (zz_tm i) "java/lang/String" "value" "[B") .byte ∈ zz_fl := by decide +kernel
theorem zz_f4 : ∀ i, i < 10 → Cond.eq (.length (.field (zz_tm i) "java/lang/String" "value" "[B")) (.int (Int32.ofNat (zj_len.getD i 0))) ∈ zz_fl := by decide +kernel
theorem zz_f5 : ∀ i, i < 10 → ∀ j, j < zj_len.getD i 0 → Cond.eq (.elem (.field (zz_tm i) "java/lang/String" "value" "[B") (.int (Int32.ofNat j))) (.int ((zj_byt.getD i []).getD j 0)) ∈ zz_fl := by decide +kernel
theorem zz_f6 : ∀ q ∈ zj_nc, Cond.not (.castable q.1 q.2) ∈ zz_fl := by decide +kernel
theorem zz_f7 : Cond.eq (.static "java/lang/String" "COMPACT_STRINGS" "Z") (.int 1) ∈ zz_fl := by decide +kernel
theorem zz_f8 : Cond.isRef (.static "jdk/internal/util/Preconditions" "SIOOBE_FORMATTER" "Ljava/util/function/BiFunction;") ∈ zz_fl := by decide +kernel
theorem zz_f9 : ∀ q ∈ zj_ks, Cond.stringRef q.1 q.2.1 q.2.2.1 ∈ lw_tbl := by decide +kernel
theorem zz_fa : ∀ q ∈ zj_yc, Cond.castable q.1 q.2 ∈ lw_tbl := by decide +kernel
theorem zz_fb : Cond.methodLinkNest RX2 133 yX11_bit RX11 ∈ lw_tbl := by decide +kernel
theorem zz_fc : ∀ C ∈ [RX1, RX7, RX0, RX6, RX3, RX8], Cond.castable C RX9 ∈ lw_tbl := by decide +kernel
theorem zz_fd : Cond.arrayOver (.object RX9) ∈ lw_tbl := by decide +kernel
theorem zz_fe : Cond.laysStatic "java/lang/String" "COMPACT_STRINGS" "Z" ∈ lw_tbl ∧ Cond.laysStatic "jdk/internal/util/Preconditions" "SIOOBE_FORMATTER" "Ljava/util/function/BiFunction;" ∈ lw_tbl := by decide +kernel
theorem zz_ff : ∀ i, i < 10 → (zj_ks.getD i ("", 0, "", 0)).2.2.2 = 1000 + i := by decide
theorem zz_fg : ∀ q ∈ zj_ks, ∃ i, i < 10 ∧ q = zj_ks.getD i ("", 0, "", 0) := by decide +kernel
theorem zz_str {args : Array Value} {s : State} {A : Nat → Prop} (hf : ∀ c ∈ zz_fl, c.before args s = true) (hA : ∀ a : Nat, a < s.heap.size → ¬ A a) : ∃ adK adV : Nat → Nat, ∀ i : Nat, i < 10 → (va_O "java/lang/String" (adK i) A s s.heap ∧ va_OF "java/lang/String" "coder" "B" (.int 0) (adK i) A s s.heap ∧ va_OF "java/lang/String" "value" "[B" (.ref (adV i)) (adK i) A s s.heap ∧ va_T .byte (adV i) (zj_len.getD i 0) (fun j => .int ((zj_byt.getD i []).getD j 0)) A s s.heap) ∧ (zz_tm i).eval args s none [] s = some (.ref (adK i)) := by
  have h0 : ∀ i : Nat, ∃ q : Nat × Nat, i < 10 → (va_O "java/lang/String" q.1 A s s.heap ∧ va_OF "java/lang/String" "coder" "B" (.int 0) q.1 A s s.heap ∧ va_OF "java/lang/String" "value" "[B" (.ref q.2) q.1 A s s.heap ∧ va_T .byte q.2 (zj_len.getD i 0) (fun j => .int ((zj_byt.getD i []).getD j 0)) A s s.heap) ∧ (zz_tm i).eval args s none [] s = some (.ref q.1) := by
    intro i
    by_cases hi : i < 10
    · have one : ∀ k : Nat, k < 1 → k = 0 := fun k h => by omega
      have hl := (zj_str_len i hi).2.1
      obtain ⟨adK, adV, h1, h2⟩ := vk_Sof (args := args) (s := s) (A := A) (N := 1) (tm := fun _ => zz_tm i) (len := [zj_len.getD i 0]) (byt := [zj_byt.getD i []]) (fun k hk => by rw [one k hk]; show zj_len.getD i 0 < 2 ^ 31; omega) (fun _ _ => hf _ (zz_f1 i hi)) (fun _ _ => hf _ (zz_f2 i hi)) (fun _ _ => hf _ (zz_f3 i hi)) (fun k hk => by rw [one k hk]; exact hf _ (zz_f4 i hi)) (fun k hk => by rw [one k hk]; exact fun j hj => hf _ (zz_f5 i hi j hj)) (fun a b ha hb hab => absurd ((one a ha).trans (one b hb).symm) hab) hA
      exact ⟨(adK 0, adV 0), fun _ => ⟨h1.1 0 (by omega), h2 0 (by omega)⟩⟩
    · exact ⟨(0, 0), fun h => absurd h hi⟩
  obtain ⟨f, hf2⟩ := Classical.axiomOfChoice h0
  exact ⟨fun i => (f i).1, fun i => (f i).2, hf2⟩
theorem zz_known {args : Array Value} {s : State} (hts : ∀ w ∈ zj_T, w.before args s = true) : ∃ (dC : Nat → ClassId) (dI : Nat → Nat → Nat), ∀ (k : Nat) (q : vw_C), vwCl[k]? = some q → u_Kn s q.1 q.2.1 q.2.2 (dC k) (dI k) := by
  have K : ∀ k : Nat, ∃ x : ClassId × (Nat → Nat), ∀ q : vw_C, vwCl[k]? = some q → u_Kn s q.1 q.2.1 q.2.2 x.1 x.2 := by
    intro k
    match k with
    | 0 =>
      obtain ⟨c, i, h⟩ := u_known (C := RX0) (T := TX0) (N := 1) (n := 1) hts zw_0 (hts _ zq_151)
      exact ⟨(c, i), fun q hq => by cases hq; exact h⟩
    | 1 =>
      obtain ⟨c, i, h⟩ := u_known (C := RX1) (T := TX1) (N := 1) (n := 1) hts zw_1 (hts _ zq_135)
      exact ⟨(c, i), fun q hq => by cases hq; exact h⟩
    | 2 =>
      obtain ⟨c, i, h⟩ := u_known (C := RX2) (T := TX2) (N := 11) (n := 11) hts zw_2 (hts _ zq_183)
      exact ⟨(c, i), fun q hq => by cases hq; exact h⟩
    | 3 =>
      obtain ⟨c, i, h⟩ := u_known (C := RX3) (T := TX3) (N := 1) (n := 1) hts zw_3 (hts _ zq_167)
      exact ⟨(c, i), fun q hq => by cases hq; exact h⟩
    | 4 =>
      obtain ⟨c, i, h⟩ := u_known (C := RX4) (T := TX4) (N := 18) (n := 18) hts zw_4 (hts _ zq_235)
      exact ⟨(c, i), fun q hq => by cases hq; exact h⟩
    | 5 =>
      obtain ⟨c, i, h⟩ := u_known (C := RX5) (T := TX5) (N := 4) (n := 4) hts zw_5 (hts _ zq_95)
      exact ⟨(c, i), fun q hq => by cases hq; exact h⟩
    | 6 =>
      obtain ⟨c, i, h⟩ := u_known (C := RX6) (T := TX6) (N := 1) (n := 1) hts zw_6 (hts _ zq_159)
      exact ⟨(c, i), fun q hq => by cases hq; exact h⟩
    | 7 =>
      obtain ⟨c, i, h⟩ := u_known (C := RX7) (T := TX7) (N := 1) (n := 1) hts zw_7 (hts _ zq_143)
      exact ⟨(c, i), fun q hq => by cases hq; exact h⟩
    | 8 =>
      obtain ⟨c, i, h⟩ := u_known (C := RX8) (T := TX8) (N := 1) (n := 1) hts zw_8 (hts _ zq_175)
      exact ⟨(c, i), fun q hq => by cases hq; exact h⟩
    | 9 =>
      obtain ⟨c, i, h⟩ := u_known (C := RX9) (T := TX9) (N := 1) (n := 1) hts zw_9 (hts _ zq_125)
      exact ⟨(c, i), fun q hq => by cases hq; exact h⟩
    | 10 =>
      obtain ⟨c, i, h⟩ := u_known (C := RX10) (T := TX10) (N := 7) (n := 7) hts zw_10 (hts _ zq_227)
      exact ⟨(c, i), fun q hq => by cases hq; exact h⟩
    | 11 =>
      obtain ⟨c, i, h⟩ := u_known (C := RX11) (T := TX11) (N := 8) (n := 8) hts zw_11 (hts _ zq_87)
      exact ⟨(c, i), fun q hq => by cases hq; exact h⟩
    | 12 =>
      obtain ⟨c, i, h⟩ := u_known (C := RX12) (T := TX12) (N := 22) (n := 22) hts zw_12 (hts _ zq_976)
      exact ⟨(c, i), fun q hq => by cases hq; exact h⟩
    | k + 13 =>
      obtain ⟨c, i, h⟩ := u_known (C := RX0) (T := TX0) (N := 1) (n := 1) hts zw_0 (hts _ zq_151)
      exact ⟨(c, i), fun q hq => by simp [vwCl] at hq⟩
  obtain ⟨f, hf⟩ := Classical.axiomOfChoice K
  exact ⟨fun k => (f k).1, fun k => (f k).2, hf⟩
theorem zz_types {args : Array Value} {s : State} {dC : Nat → ClassId} {dI : Nat → Nat → Nat} (hts : ∀ w ∈ zj_T, w.before args s = true) (hov : (Cond.arrayOver (.object RX9)).before args s = true) (hK : ∀ (k : Nat) (q : vw_C), vwCl[k]? = some q → u_Kn s q.1 q.2.1 q.2.2 (dC k) (dI k)) : ∃ cI cZ cQ, va_K (dC, dI) vwCl (zk_t cI cZ cQ) s := by
  obtain ⟨cI, kI, oI, i1, i2, i3⟩ := Cond.arrayClass_spec (hts _ zq_122)
  obtain ⟨cZ, kZ, oZ, z1, z2, z3⟩ := Cond.arrayClass_spec (hts _ zq_1047)
  obtain ⟨oQ, cQ, kQ, q1, -, q3, q4, q5⟩ := Cond.arrayOver_spec hov
  refine ⟨cI, cZ, cQ, hK, fun k q hq => ?_⟩
  match k, hq with
  | 0, hq => cases hq; exact ⟨fun n z => ⟨fun k h => (by cases h), kI, i2, oI, i3⟩, i1⟩
  | 1, hq => cases hq; exact ⟨fun n z => ⟨fun k h => (by cases h), kZ, z2, oZ, z3⟩, z1⟩
  | 2, hq => cases hq; exact ⟨fun n z => ⟨fun k h => (by cases h), kQ, q3, oQ, q4⟩, kQ, oQ, q3, q4, q1, q5⟩
  | k + 3, hq => simp [zk_t] at hq
set_option maxHeartbeats 4000000 in
set_option maxRecDepth 100000 in
theorem whole_start {p : Program} {e : Env} {s : State} {m : MethodId} {below : List Frame} {meth : Method} {c : Code} (l : Launch) (hflags : l.flags = flags0) {b L : Nat} {xs : Nat → Int32} (hL : L ≤ 2560) (C0 : lw_At p s m meth c b L xs) : W p l e room_1 s m #[Value.ref b] below meth c s.heap [] 0 0 (lw_Z below #[Value.ref b] s) (entryFrame m ([Value.ref b] : List Value).toArray 4) := by
  obtain ⟨hx, hb, hr, hml, hown, hts0, hX, hbl, hlocks, hgv⟩ := id C0
  have hts : ∀ w ∈ zj_T, w.before #[Value.ref b] s = true := fun w hw => hts0 w (List.mem_filter.mp hw).1
  have hf : ∀ c ∈ zz_fl, c.before #[Value.ref b] s = true := flat_of_before _ hgv
  obtain ⟨dC, dI, hKc⟩ := zz_known hts
  obtain ⟨cI, cZ, cQ, hK⟩ := zz_types hts (hts0 _ zz_fd) hKc
  have hXt : zk_Xt s := ⟨va_AO.of (hts0 _ zz_fd), fun C hC => va_Nw.of rfl (hts0 _ (zz_fc C hC))⟩
  have hA : ∀ q : Nat, s.heap.size ≤ q → (fun q : Nat => s.heap.size ≤ q) q := fun _ h => h
  have hAn : ∀ a : Nat, a < s.heap.size → ¬ (fun q : Nat => s.heap.size ≤ q) a := fun a h => Nat.not_le.mpr h
  have C : zk_CX p s m #[Value.ref b] c (fun q : Nat => s.heap.size ≤ q) (dC, dI) (zk_t cI cZ cQ) code 4 RL := ⟨hx, hb, hml, hown, hts, hK, hA, hXt⟩
  have St : zk_St (fun q : Nat => s.heap.size ≤ q) (dC, dI) [] s s.heap [] := ⟨fun k q h => by simp at h, ⟨fun i j p q h => by simp at h, fun k q h => by simp at h⟩, va_S.rf⟩
  have hl := lv_entry ([.ref b]) (n := 4) (Nat.le_of_ble_eq_true rfl)
  rw [lg_entry_eq]
  generalize (lg_sl ([.ref b]) ++ List.replicate (4 - (lg_sl ([.ref b])).length) Slot.unset).toArray = ls at hl ⊢
  have hl : lv_has ls 4 [(0, .ref b)] := hl
  refine zk_newo (ws := []) (ci := 11) (fs := [.null, .null, .null, .null, .null, .null, .int 0, .int 0]) C St rfl zw_11 tyX11_ok zq_86 zq_87 zq_65 (fun j hj => by rcases (show j = 0 ∨ j = 1 ∨ j = 2 ∨ j = 3 ∨ j = 4 ∨ j = 5 ∨ j = 6 ∨ j = 7 by omega) with rfl | rfl | rfl | rfl | rfl | rfl | rfl | rfl <;> rfl) (Nat.le_of_ble_eq_true rfl) (Nat.le_of_ble_eq_true rfl) dL_law_0 (fun h0 H St => ?_)
  refine lv_dup hx hb dL_law_3 rfl ?_
  refine zk_call (ws := []) (q := h0) (As := []) (rest := [.ref h0]) (n := 0) C zk_Class St zq_90 zq_65 zq_88 zq_89 rfl ⟨by decide, by decide, by decide +kernel⟩ rfl ⟨Nat.le_of_ble_eq_true rfl, Nat.le_of_ble_eq_true rfl⟩ hl.1 (Nat.le_of_ble_eq_true rfl) ⟨Nat.le_of_ble_eq_true rfl, Nat.le_of_ble_eq_true rfl⟩ dL_law_4 (fun u H locs St => ?_)
  have St : zk_St (fun q : Nat => s.heap.size ≤ q) (dC, dI) (zk_gClass cI cQ h0 u) s H locs := St
  refine lv_astore_n (lv' := [(1, .ref h0), (0, .ref b)]) hx hb dL_law_7 rfl hl (by decide) rfl (fun ls hl => ?_)
  refine zk_newo (ws := zk_gClass cI cQ h0 u) (ci := 12) (fs := [.int 0, .null, .null, .null, .int 0, .int 0, .int 0, .int 0, .int 0, .int 0, .null, .null, .null, .null, .int 0, .null, .null, .null, .int 0, .int 0, .int 0, .int 0]) C St rfl zw_12 tyX12_ok zq_975 zq_976 zq_77 (fun j hj => by rcases (show j = 0 ∨ j = 1 ∨ j = 2 ∨ j = 3 ∨ j = 4 ∨ j = 5 ∨ j = 6 ∨ j = 7 ∨ j = 8 ∨ j = 9 ∨ j = 10 ∨ j = 11 ∨ j = 12 ∨ j = 13 ∨ j = 14 ∨ j = 15 ∨ j = 16 ∨ j = 17 ∨ j = 18 ∨ j = 19 ∨ j = 20 ∨ j = 21 by omega) with rfl | rfl | rfl | rfl | rfl | rfl | rfl | rfl | rfl | rfl | rfl | rfl | rfl | rfl | rfl | rfl | rfl | rfl | rfl | rfl | rfl | rfl <;> rfl) (Nat.le_of_ble_eq_true rfl) (Nat.le_of_ble_eq_true rfl) dL_law_8 (fun h90 H St => ?_)
  refine lv_dup hx hb dL_law_11 rfl ?_
  refine zk_call (ws := zk_gClass cI cQ h0 u) (q := h90) (As := []) (rest := [.ref h90]) (n := 0) C zk_Model St zq_979 zq_77 zq_977 zq_978 rfl ⟨by decide, by decide, by decide +kernel⟩ rfl ⟨Nat.le_of_ble_eq_true rfl, Nat.le_of_ble_eq_true rfl⟩ hl.1 (Nat.le_of_ble_eq_true rfl) ⟨Nat.le_of_ble_eq_true rfl, Nat.le_of_ble_eq_true rfl⟩ dL_law_12 (fun v H locs St => ?_)
  have St : zk_St (fun q : Nat => s.heap.size ≤ q) (dC, dI) (zz_W cI cZ cQ h0 h90 u v) s H locs := St
  refine lv_astore_n (lv' := [(2, .ref h90), (1, .ref h0), (0, .ref b)]) hx hb dL_law_15 rfl hl (by decide) rfl (fun ls hl => ?_)
  refine W.widen (k := 600000) (n := 7302250) (Nat.le_of_ble_eq_true rfl) (Nat.le_of_ble_eq_true rfl) ?_
  obtain ⟨hP, hD, hS⟩ := St
  obtain ⟨adK, adV, hs⟩ := zz_str hf hAn
  obtain ⟨fm, hfm⟩ : ∃ fm : Nat, va_Z "jdk/internal/util/Preconditions" "SIOOBE_FORMATTER" "Ljava/util/function/BiFunction;" .null (fun q : Nat => s.heap.size ≤ q) s s.heap ∨ va_Z "jdk/internal/util/Preconditions" "SIOOBE_FORMATTER" "Ljava/util/function/BiFunction;" (.ref fm) (fun q : Nat => s.heap.size ≤ q) s s.heap := by
    rcases va_Zqof (hts0 _ zz_fe.2) (hts _ zq_80) (hf _ zz_f8) hAn with h | ⟨t, h⟩
    · exact ⟨0, Or.inl h⟩
    · exact ⟨t, Or.inr h⟩
  obtain ⟨g, hg⟩ : ∃ g : zj_G, zz_g (dC, dI) cI cZ cQ h0 h90 u v adK adV b fm = g := ⟨_, rfl⟩
  have hgK : ∀ i, i < 10 → zj_ad g (1000 + i) = adK i := fun i hi => by
    rw [← hg]
    show zz_ad h0 h90 u v adK adV b fm (1000 + i) = _
    unfold zz_ad
    rw [if_neg (by omega), if_pos (by omega), Nat.add_sub_cancel_left]
  have hgV : ∀ i, i < 10 → zj_ad g (2000 + i) = adV i := fun i hi => by
    rw [← hg]
    show zz_ad h0 h90 u v adK adV b fm (2000 + i) = _
    unfold zz_ad
    rw [if_neg (by omega), if_neg (by omega), if_pos (by omega), Nat.add_sub_cancel_left]
  have hXX : zj_X g (fun q : Nat => s.heap.size ≤ q) s s.heap := by
    refine ⟨⟨fun q hq => va_Nc.of (hf _ (zz_f6 q hq)), fun q hq => va_Nw.of rfl (hts0 _ (zz_fa q hq)), va_Nw.of rfl (hts0 _ zz_fb)⟩, fun q hq => ?_, fun i hi => ?_, va_Zof (hts0 _ zz_fe.1) (hts _ zq_78) (va_eqi (hf _ zz_f7)) hAn, ?_⟩
    · obtain ⟨i, hi, rfl⟩ := zz_fg q hq
      refine vk_R.of (hts0 _ (zz_f9 _ hq)) ?_
      rw [zz_ff i hi, hgK i hi]
      exact (hs i hi).2
    · rw [hgK i hi, hgV i hi]
      exact (hs i hi).1
    · have e6 : zj_ad g 6000 = fm := by rw [← hg]; rfl
      rw [e6]
      exact hfm
  have hDg : ∀ mem, va_D (fun q : Nat => s.heap.size ≤ q) (zj_w g mem) := fun mem => by rw [← hg]; exact zz_D hD mem
  have hPg : va_P g.1 vwCl (zj_w g zz_m0) H := by
    rw [← hg]
    exact zz_P hP
  have hKg : va_K g.1 vwCl (zj_tys g) s := by
    rw [← hg]
    exact hK
  have e0 : zj_ad g 0 = h0 := by rw [← hg]; rfl
  have e90 : zj_ad g 90 = h90 := by rw [← hg]; rfl
  have e5 : zj_ad g 5000 = b := by rw [← hg]; rfl
  obtain ⟨m', hm⟩ := zz_law (L := L) (xs := xs) hL zz_I0
  have hCX : zj_CX p room_1 s m #[Value.ref b] c (fun q : Nat => s.heap.size ≤ q) g 600000 7302250 code RL 4 60 (L + 1, xs) :=
    ⟨hx, hb, hml, hown, hts, hKg, hDg, hXX, ⟨Nat.le_of_ble_eq_true rfl, Nat.le_of_ble_eq_true rfl, Nat.le_of_ble_eq_true rfl, Nat.le_of_ble_eq_true rfl⟩, fun _ => by rw [e5]; exact ⟨hX, hbl, Nat.not_le.mpr hbl⟩⟩
  have hFI : zj_FI p l e room_1 s m #[Value.ref b] below meth c (fun q : Nat => s.heap.size ≤ q) g 600000 7302250 (lw_Z below #[Value.ref b] s) code 4 (some .boolean) [.int (nI 1)] m' := fun _ pc H1 ls1 locs1 hP1 hS1 hd => va_forget (fun q hq => hS1.2.2 q hq) (lw_ret hx hb hr hlocks hd)
  refine zs_L_law_16 (L := L) (xs := xs) p l e room_1 s m #[Value.ref b] below meth c _ g 600000 7302250 _ _ m' hCX hFI _ [] zz_m0 hm H ls locs hPg hS ⟨hl.1, rfl, hl.2.1, fun i w hw => ?_⟩
  match i, hw with
  | 0, hw =>
    obtain rfl := Option.some.inj hw
    show ls[0]? = some (.val (.ref (zj_ad g 5000)))
    rw [e5]
    exact lv_at hl 2 rfl
  | 1, hw =>
    obtain rfl := Option.some.inj hw
    show ls[1]? = some (.val (.ref (zj_ad g 0)))
    rw [e0]
    exact lv_at hl 1 rfl
  | 2, hw =>
    obtain rfl := Option.some.inj hw
    show ls[2]? = some (.val (.ref (zj_ad g 90)))
    rw [e90]
    exact lv_at hl 0 rfl
  | 3, hw => cases hw
  | k + 4, hw => cases hw
