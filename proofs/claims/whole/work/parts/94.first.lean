/-! THE FIRST MEMORY: what lies where behind the two constructors -/
def zz_m0 : zj_M := fun t j => if t = 91 then upd (fun _ => 0) 32 (-1) j else if t = 27 then (if j = 13 then 9999 else 0) else if t = 54 then (if j = 13 then 9999 else 0) else if t = 80 then (if j = 13 then 2147483647 else 0) else 0
def zz_pi : List Nat := [0, 1, 2, 3, 4, 5, 6, 7, 8, 9, 10, 11, 12, 13, 14, 15, 16, 17, 18, 19, 20, 21, 49, 50, 51, 52, 22, 39, 40, 41, 42, 43, 44, 45, 46, 47, 48, 23, 24, 25, 26, 27, 28, 29, 30, 31, 32, 33, 34, 35, 36, 37, 38, 53, 70, 71, 72, 73, 74, 75, 76, 77, 78, 79, 54, 55, 56, 57, 58, 59, 60, 61, 62, 63, 64, 65, 66, 67, 68, 69, 80, 81, 82, 83, 84, 85, 86, 87, 88, 89, 90, 91, 92, 93, 94, 95, 96, 97, 98, 99, 100]
def zz_adr (h0 h90 : Nat) (u v : List Nat) : List Nat := [h0, u.getD 0 0, u.getD 1 0, u.getD 2 0, u.getD 3 0, u.getD 4 0, u.getD 5 0, u.getD 6 0, u.getD 7 0, u.getD 8 0, u.getD 9 0, u.getD 10 0, u.getD 11 0, u.getD 12 0, u.getD 13 0, u.getD 14 0, u.getD 15 0, u.getD 16 0, u.getD 17 0, u.getD 18 0, u.getD 19 0, u.getD 20 0, u.getD 48 0, u.getD 49 0, u.getD 50 0, u.getD 51 0, u.getD 21 0, u.getD 38 0, u.getD 39 0, u.getD 40 0, u.getD 41 0, u.getD 42 0, u.getD 43 0, u.getD 44 0, u.getD 45 0, u.getD 46 0, u.getD 47 0, u.getD 22 0, u.getD 23 0, u.getD 24 0, u.getD 25 0, u.getD 26 0, u.getD 27 0, u.getD 28 0, u.getD 29 0, u.getD 30 0, u.getD 31 0, u.getD 32 0, u.getD 33 0, u.getD 34 0, u.getD 35 0, u.getD 36 0, u.getD 37 0, u.getD 52 0, u.getD 69 0, u.getD 70 0, u.getD 71 0, u.getD 72 0, u.getD 73 0, u.getD 74 0, u.getD 75 0, u.getD 76 0, u.getD 77 0, u.getD 78 0, u.getD 53 0, u.getD 54 0, u.getD 55 0, u.getD 56 0, u.getD 57 0, u.getD 58 0, u.getD 59 0, u.getD 60 0, u.getD 61 0, u.getD 62 0, u.getD 63 0, u.getD 64 0, u.getD 65 0, u.getD 66 0, u.getD 67 0, u.getD 68 0, u.getD 79 0, u.getD 80 0, u.getD 81 0, u.getD 82 0, u.getD 83 0, u.getD 84 0, u.getD 85 0, u.getD 86 0, u.getD 87 0, u.getD 88 0, h90, v.getD 0 0, v.getD 1 0, v.getD 2 0, v.getD 3 0, v.getD 4 0, v.getD 5 0, v.getD 6 0, v.getD 7 0, v.getD 8 0, v.getD 9 0]
def zz_ad (h0 h90 : Nat) (u v : List Nat) (adK adV : Nat → Nat) (b fm : Nat) (t : Nat) : Nat := if t < 101 then (zz_adr h0 h90 u v).getD t 0 else if t < 1010 then adK (t - 1000) else if t < 2010 then adV (t - 2000) else if t = 5000 then b else fm
def zz_g (D : va_G) (cI cZ cQ : ClassId) (h0 h90 : Nat) (u v : List Nat) (adK adV : Nat → Nat) (b fm : Nat) : zj_G := (D, (cI, cZ, cQ), zz_ad h0 h90 u v adK adV b fm)
def zz_W (cI cZ cQ : ClassId) (h0 h90 : Nat) (u v : List Nat) : va_W := zk_gClass cI cQ h0 u ++ zk_gModel cI cZ h90 v
theorem zz_pi_inj : ∀ i, i < 101 → ∀ j, j < 101 → zz_pi.getD i 0 = zz_pi.getD j 0 → i = j := by decide +kernel
section ZZ
variable {D : va_G} {cI cZ cQ : ClassId} {h0 h90 : Nat} {u v : List Nat} {adK adV : Nat → Nat} {b fm : Nat}
theorem zz_adr_at {t : Nat} (h : t < 101) : zj_ad (zz_g D cI cZ cQ h0 h90 u v adK adV b fm) t = (zz_adr h0 h90 u v).getD t 0 := by
  show zz_ad h0 h90 u v adK adV b fm t = _
  unfold zz_ad
  rw [if_pos h]
/-- a cell with addresses instead of tags -/
def zz_cell (cI cZ cQ : ClassId) (a : List Nat) (e : Nat × Nat × List Nat) (f : Nat → Int32) : va_E :=
  if e.1 = 0 then .inl (cI, e.2.1, .inl f)
  else if e.1 = 1 then .inl (cZ, e.2.1, .inl f)
  else if e.1 = 2 then .inl (cQ, e.2.1, .inr (.inr (.inr (.inr (fun j => some (a.getD (e.2.2.getD j 0) 0))))))
  else .inr (e.2.1, e.2.2.mapIdx fun k c => if c = 0 then .int (f k) else if c = 1 then (if f k = 0 then .null else .ref (a.getD 37 0)) else .ref (a.getD (c - 2) 0))
theorem zz_cells : ∀ t, t < 101 → t ≠ 5 → (zz_W cI cZ cQ h0 h90 u v)[zz_pi.getD t 0]? = some ((zz_adr h0 h90 u v).getD t 0, zj_cell (zz_g D cI cZ cQ h0 h90 u v adK adV b fm) (zj_at t) (zz_m0 t)) := by
  intro t ht h5
  match t, ht, h5 with
  | 0, _, _ => rfl
  | 1, _, _ => rfl
  | 2, _, _ => rfl
  | 3, _, _ => rfl
  | 4, _, _ => rfl
  | 5, _, h => exact absurd rfl h
  | 6, _, _ => rfl
  | 7, _, _ => rfl
  | 8, _, _ => rfl
  | 9, _, _ => rfl
  | 10, _, _ => rfl
  | 11, _, _ => rfl
  | 12, _, _ => rfl
  | 13, _, _ => rfl
  | 14, _, _ => rfl
  | 15, _, _ => rfl
  | 16, _, _ => rfl
  | 17, _, _ => rfl
  | 18, _, _ => rfl
  | 19, _, _ => rfl
  | 20, _, _ => rfl
  | 21, _, _ => rfl
  | 22, _, _ => rfl
  | 23, _, _ => rfl
  | 24, _, _ => rfl
  | 25, _, _ => rfl
  | 26, _, _ => rfl
  | 27, _, _ => rfl
  | 28, _, _ => rfl
  | 29, _, _ => rfl
  | 30, _, _ => rfl
  | 31, _, _ => rfl
  | 32, _, _ => rfl
  | 33, _, _ => rfl
  | 34, _, _ => rfl
  | 35, _, _ => rfl
  | 36, _, _ => rfl
  | 37, _, _ => rfl
  | 38, _, _ => rfl
  | 39, _, _ => rfl
  | 40, _, _ => rfl
  | 41, _, _ => rfl
  | 42, _, _ => rfl
  | 43, _, _ => rfl
  | 44, _, _ => rfl
  | 45, _, _ => rfl
  | 46, _, _ => rfl
  | 47, _, _ => rfl
  | 48, _, _ => rfl
  | 49, _, _ => rfl
  | 50, _, _ => rfl
  | 51, _, _ => rfl
  | 52, _, _ => rfl
  | 53, _, _ => rfl
  | 54, _, _ => rfl
  | 55, _, _ => rfl
  | 56, _, _ => rfl
  | 57, _, _ => rfl
  | 58, _, _ => rfl
  | 59, _, _ => rfl
  | 60, _, _ => rfl
  | 61, _, _ => rfl
  | 62, _, _ => rfl
  | 63, _, _ => rfl
  | 64, _, _ => rfl
  | 65, _, _ => rfl
  | 66, _, _ => rfl
  | 67, _, _ => rfl
  | 68, _, _ => rfl
  | 69, _, _ => rfl
  | 70, _, _ => rfl
  | 71, _, _ => rfl
  | 72, _, _ => rfl
  | 73, _, _ => rfl
  | 74, _, _ => rfl
  | 75, _, _ => rfl
  | 76, _, _ => rfl
  | 77, _, _ => rfl
  | 78, _, _ => rfl
  | 79, _, _ => rfl
  | 80, _, _ => rfl
  | 81, _, _ => rfl
  | 82, _, _ => rfl
  | 83, _, _ => rfl
  | 84, _, _ => rfl
  | 85, _, _ => rfl
  | 86, _, _ => rfl
  | 87, _, _ => rfl
  | 88, _, _ => rfl
  | 89, _, _ => rfl
  | 90, _, _ => rfl
  | 91, _, _ => rfl
  | 92, _, _ => rfl
  | 93, _, _ => rfl
  | 94, _, _ => rfl
  | 95, _, _ => rfl
  | 96, _, _ => rfl
  | 97, _, _ => rfl
  | 98, _, _ => rfl
  | 99, _, _ => rfl
  | 100, _, _ => rfl
  | k + 101, h, _ => exact absurd h (by omega)
theorem zz_cell5 : (zz_W cI cZ cQ h0 h90 u v)[5]? = some (u.getD 4 0, .inl (cQ, 7, .inr (.inr (.inr (.inr (va_up (va_up (va_up (va_up (va_up (va_up (va_up (fun _ => none) 0 (some (u.getD 5 0))) 1 (some (u.getD 6 0))) 2 (some (u.getD 7 0))) 3 (some (u.getD 8 0))) 4 (some (u.getD 9 0))) 5 (some (u.getD 10 0))) 6 (some (u.getD 11 0)))))))) := rfl
theorem zz_arr {n : Nat} {f1 f2 : Nat → Option Nat} (h : ∀ j, j < n → f1 j = f2 j) : vp_cell cQ (n, .inr (.inr (.inr (.inr f1)))) = vp_cell cQ (n, .inr (.inr (.inr (.inr f2)))) := by
  rw [vp_cell_q, vp_cell_q]
  unfold arrV
  congr 2
  funext j
  show va_rf (f1 j.val) = va_rf (f2 j.val)
  rw [h j.val j.isLt]
theorem zz_P {H : Heap} (hP : va_P D vwCl (zz_W cI cZ cQ h0 h90 u v) H) : va_P D vwCl (zj_w (zz_g D cI cZ cQ h0 h90 u v adK adV b fm) zz_m0) H := fun k q hk => by
  have hk' : k < 101 := by
    have := (List.getElem?_eq_some_iff.mp hk).1
    simpa [zj_w, zj_N] using this
  rw [zj_w_get _ _ hk', zz_adr_at hk'] at hk
  obtain rfl := Option.some.inj hk
  by_cases h5 : k = 5
  · subst h5
    have h := hP 5 _ zz_cell5
    have h : H[u.getD 4 0]? = some (vp_cell cQ (7, _)) := h
    show H[u.getD 4 0]? = some (vp_cell cQ (7, .inr (.inr (.inr (.inr (fun j => some (zj_ad (zz_g D cI cZ cQ h0 h90 u v adK adV b fm) ([6, 7, 8, 9, 10, 11, 12].getD j 0))))))))
    rw [h]
    refine congrArg some (zz_arr fun j hj => ?_)
    match j, hj with
    | 0, _ => rfl
    | 1, _ => rfl
    | 2, _ => rfl
    | 3, _ => rfl
    | 4, _ => rfl
    | 5, _ => rfl
    | 6, _ => rfl
    | j + 7, h => exact absurd h (by omega)
  · exact hP _ _ (zz_cells k hk' h5)
theorem zz_D {A : Nat → Prop} (hD : va_D A (zz_W cI cZ cQ h0 h90 u v)) (mem : zj_M) : va_D A (zj_w (zz_g D cI cZ cQ h0 h90 u v adK adV b fm) mem) := by
  have K : ∀ t, t < 101 → ∃ e, (zz_W cI cZ cQ h0 h90 u v)[zz_pi.getD t 0]? = some ((zz_adr h0 h90 u v).getD t 0, e) := fun t ht => by
    by_cases h5 : t = 5
    · subst h5; exact ⟨_, zz_cell5⟩
    · exact ⟨_, zz_cells (D := D) (adK := adK) (adV := adV) (b := b) (fm := fm) t ht h5⟩
  have L : ∀ (k : Nat) (q : Nat × va_E), (zj_w (zz_g D cI cZ cQ h0 h90 u v adK adV b fm) mem)[k]? = some q → k < 101 ∧ q.1 = (zz_adr h0 h90 u v).getD k 0 := fun k q hk => by
    have hk' : k < 101 := by
      have := (List.getElem?_eq_some_iff.mp hk).1
      simpa [zj_w, zj_N] using this
    rw [zj_w_get _ _ hk', zz_adr_at hk'] at hk
    obtain rfl := Option.some.inj hk
    exact ⟨hk', rfl⟩
  refine ⟨fun i j p q hi hj e => ?_, fun k q hk => ?_⟩
  · obtain ⟨i1, i2⟩ := L i p hi
    obtain ⟨j1, j2⟩ := L j q hj
    obtain ⟨x, hx⟩ := K i i1
    obtain ⟨y, hy⟩ := K j j1
    exact zz_pi_inj i i1 j j1 (hD.1 _ _ _ _ hx hy (by show (zz_adr h0 h90 u v).getD i 0 = (zz_adr h0 h90 u v).getD j 0; rw [← i2, ← j2]; exact e))
  · obtain ⟨i1, i2⟩ := L k q hk
    obtain ⟨x, hx⟩ := K k i1
    rw [i2]
    exact hD.2 _ _ hx
end ZZ
theorem zz_91 {j : Nat} (h : j ≠ 32) : zz_m0 91 j = nI 0 := by
  show upd (fun _ => 0) 32 (-1) j = nI 0
  unfold upd
  rw [if_neg h]
  rfl
def zz_B0 : ze_B := (fun _ _ => 0, [], 0, 0, [], [], [], [])
theorem zz_ok0 : ze_ok zz_B0 := by
  refine ⟨⟨⟨⟨?_, ?_, ?_⟩, fun j _ => ?_, fun j _ => ⟨⟨?_, ?_, ?_, ?_⟩, ?_, ?_⟩, fun j _ => ?_⟩, fun j _ => Nat.le_refl _, ?_⟩, ⟨?_, rfl⟩, ⟨Nat.zero_le _, Nat.zero_le _, fun j hj => absurd hj (Nat.not_lt_zero j)⟩, ⟨Nat.zero_le _, fun j hj => absurd hj (Nat.not_lt_zero j)⟩, ⟨Nat.zero_le _, fun j hj => absurd hj (Nat.not_lt_zero j)⟩, ⟨Nat.zero_le _, fun j hj => absurd hj (Nat.not_lt_zero j)⟩⟩
  all_goals first | decide | exact Nat.le_of_ble_eq_true rfl
theorem zz_cache0 : za_cache zz_m0 (fun _ => []) 0 := ⟨by decide, fun e h1 h2 => absurd h1 (by omega), fun w s c mu _ _ _ _ => ⟨0, 0, rfl, by decide, by decide, fun e kd v h1 h2 => absurd h1 (by omega)⟩⟩
theorem zz_c0 : zc_Q 0 zz_m0 zz_B0 none [] := by
  refine ⟨fun _ => [], 0, ⟨⟨⟨⟨rfl, rfl, rfl⟩, ⟨0, rfl, by decide, fun j _ => ?_⟩, fun j _ => rfl, fun j _ => rfl, fun j _ => rfl, fun j _ => rfl, fun j _ => rfl, fun j _ => rfl, fun j _ => rfl⟩, ⟨⟨rfl, Nat.zero_le _, fun j hj => absurd hj (Nat.not_lt_zero j)⟩, ⟨0, rfl, fun h => absurd rfl h⟩, ⟨rfl, by decide⟩, zz_cache0⟩, rfl⟩, ⟨⟨rfl, fun j hj => absurd hj (Nat.not_lt_zero j)⟩, ⟨rfl, fun j hj => absurd hj (Nat.not_lt_zero j)⟩, ⟨rfl, fun j hj => absurd hj (Nat.not_lt_zero j)⟩, ⟨rfl, fun j hj => absurd hj (Nat.not_lt_zero j)⟩⟩, ⟨Nat.zero_le _, Nat.zero_le _, Nat.zero_le _, Nat.zero_le _⟩⟩, ⟨rfl, Nat.le_refl _⟩, Or.inl ⟨rfl, rfl⟩, ⟨⟨rfl, fun j hj => absurd hj (Nat.not_lt_zero j)⟩, Nat.zero_le _⟩, rfl, rfl⟩
  rw [Nat.zero_testBit]
  rfl
theorem zz_n0 : zm_Q zz_m0 zz_B0 none [] := by
  refine ⟨⟨⟨⟨⟨?_, ?_, ?_⟩, fun j _ => ?_, fun j _ => ?_, fun j _ => ?_, fun j _ => ?_, fun j _ => ?_, fun j _ => ?_, fun j _ => ?_, fun j _ => ?_⟩, Or.inl ⟨rfl, rfl, rfl⟩, Or.inl rfl⟩, ⟨?_, ?_, ?_, ?_, ?_⟩, fun j hj => absurd hj (Nat.not_lt_zero j), fun j hj => absurd hj (Nat.not_lt_zero j), fun j hj => absurd hj (Nat.not_lt_zero j), fun j hj => absurd hj (Nat.not_lt_zero j)⟩, Or.inl ⟨rfl, rfl⟩, ⟨rfl, Nat.zero_le _, fun j hj => absurd hj (Nat.not_lt_zero j)⟩, rfl⟩
  all_goals exact zz_91 (by omega)
theorem zz_I0 : zz_I 0 zz_m0 := ⟨zz_B0, none, [], zz_c0, zz_n0, zz_ok0, fun B2 h => by cases h⟩
