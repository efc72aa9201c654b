/-! the locals -/
def zj_prs (g : zj_G) (E : zj_E) : List (Nat × Value) := (List.range E.length).filterMap (fun i => (E.getD i none).map (fun v => (i, zj_tr g v)))
theorem zj_prs_mem {g : zj_G} {E : zj_E} {i : Nat} {v : Value} (h : E.getD i none = some v) : (i, zj_tr g v) ∈ zj_prs g E := by
  unfold zj_prs
  refine List.mem_filterMap.mpr ⟨i, ?_, by rw [h]; rfl⟩
  rw [List.mem_range]
  rcases Nat.lt_or_ge i E.length with q | q
  · exact q
  · rw [List.getD_eq_getElem?_getD, List.getElem?_eq_none q] at h
    cases h
theorem zj_has.lv {g : zj_G} {ls : Array Slot} {nL : Nat} {E : zj_E} (h : zj_has g ls nL E) : lv_has ls nL (zj_prs g E) := by
  refine ⟨h.1, h.2.2.1, fun q hq => ?_⟩
  obtain ⟨i, -, hi⟩ := List.mem_filterMap.mp hq
  cases hv : E.getD i none with
  | none => rw [hv] at hi; cases hi
  | some v =>
    rw [hv] at hi
    cases hi
    exact h.2.2.2 i v hv
theorem zj_getD_set {E : zj_E} {i j : Nat} {v : Option Value} (h : i < E.length) : (E.set i v).getD j none = if j = i then v else E.getD j none := by
  by_cases e : j = i
  · subst e
    rw [if_pos rfl, List.getD_eq_getElem?_getD, List.getElem?_set_self h]
    rfl
  · rw [if_neg e, List.getD_eq_getElem?_getD, List.getD_eq_getElem?_getD, List.getElem?_set_ne (Ne.symm e)]
theorem zj_tr_cat (g : zj_G) (v : Value) : (zj_tr g v).category = v.category := by cases v <;> rfl
theorem zj_isL_cat {v : Value} (h : zj_isL (some v) = false) : v.category ≠ 2 := by
  cases v <;> first | (simp [zj_isL] at h; done) | (simp [Value.category]; done)
theorem zj_sok_lt {E : zj_E} {i : Nat} (h : zj_sok E i = true) : i < E.length := by
  unfold zj_sok at h
  simp only [Bool.and_eq_true, decide_eq_true_eq] at h
  exact h.1
theorem zj_sok_prev {E : zj_E} {i j : Nat} (h : zj_sok E i = true) (hj : j + 1 = i) {v : Value} (hv : E.getD j none = some v) : v.category ≠ 2 := by
  unfold zj_sok at h
  simp only [Bool.and_eq_true, decide_eq_true_eq, Bool.or_eq_true, beq_iff_eq, Bool.not_eq_true'] at h
  rcases h.2 with q | q
  · omega
  · rw [show i - 1 = j by omega, hv] at q
    exact zj_isL_cat q
theorem zj_has.put {g : zj_G} {ls ls' : Array Slot} {nL i : Nat} {E : zj_E} {v : Value} (h : zj_has g ls nL E) (ho : zj_sok E i = true) (hl : lv_has ls' nL ((i, zj_tr g v) :: (zj_prs g E).filter (fun q => !(q.1 == i) && !(q.1 + 1 == i && q.2.category == 2)))) : zj_has g ls' nL (E.set i (some v)) := by
  refine ⟨hl.1, by rw [List.length_set]; exact h.2.1, hl.2.1, fun j w hw => ?_⟩
  rw [zj_getD_set (zj_sok_lt ho)] at hw
  by_cases e : j = i
  · subst e
    rw [if_pos rfl] at hw
    cases hw
    exact hl.2.2 (j, zj_tr g v) List.mem_cons_self
  · rw [if_neg e] at hw
    refine hl.2.2 (j, zj_tr g w) (List.mem_cons_of_mem _ (List.mem_filter.mpr ⟨zj_prs_mem hw, ?_⟩))
    simp only [Bool.and_eq_true, Bool.not_eq_true', beq_eq_false_iff_ne, ne_eq, Bool.and_eq_false_iff]
    refine ⟨e, ?_⟩
    by_cases e2 : j + 1 = i
    · right
      rw [zj_tr_cat]
      exact zj_sok_prev ho e2 hw
    · exact Or.inl e2
theorem zj_has.put2 {g : zj_G} {ls ls' : Array Slot} {nL i : Nat} {E : zj_E} {v : Value} (h : zj_has g ls nL E) (ho : zj_sok E i = true) (h1 : i + 1 < E.length) (hl : lv_has ls' nL ((i, zj_tr g v) :: (zj_prs g E).filter (fun q => !(q.1 == i) && (!(q.1 == i + 1) && !(q.1 + 1 == i && q.2.category == 2))))) : zj_has g ls' nL ((E.set i (some v)).set (i + 1) none) := by
  refine ⟨hl.1, by rw [List.length_set, List.length_set]; exact h.2.1, hl.2.1, fun j w hw => ?_⟩
  rw [zj_getD_set (by rw [List.length_set]; exact h1)] at hw
  by_cases e0 : j = i + 1
  · rw [if_pos e0] at hw; cases hw
  · rw [if_neg e0, zj_getD_set (zj_sok_lt ho)] at hw
    by_cases e : j = i
    · subst e
      rw [if_pos rfl] at hw
      cases hw
      exact hl.2.2 (j, zj_tr g v) List.mem_cons_self
    · rw [if_neg e] at hw
      refine hl.2.2 (j, zj_tr g w) (List.mem_cons_of_mem _ (List.mem_filter.mpr ⟨zj_prs_mem hw, ?_⟩))
      simp only [Bool.and_eq_true, Bool.not_eq_true', beq_eq_false_iff_ne, ne_eq, Bool.and_eq_false_iff]
      refine ⟨e, e0, ?_⟩
      by_cases e2 : j + 1 = i
      · right
        rw [zj_tr_cat]
        exact zj_sok_prev ho e2 hw
      · exact Or.inl e2
theorem zj_e0_args (g : zj_G) : ∀ (as : List Value) (b i : Nat) (v : Value), (zj_e0 as).getD i none = some v → (b + i, zj_tr g v) ∈ lv_args b (as.map (zj_tr g)) := by
  intro as
  induction as with
  | nil => intro b i v h; simp [zj_e0] at h
  | cons a as ih =>
    intro b i v h
    have one : ∀ (hc : (zj_tr g a).category ≠ 2) (h : (some a :: zj_e0 as).getD i none = some v), (b + i, zj_tr g v) ∈ lv_args b ((a :: as).map (zj_tr g)) := by
      intro hc h
      rw [List.map_cons, lv_args, if_neg hc]
      cases i with
      | zero =>
        simp at h
        subst h
        exact List.mem_cons_self
      | succ i =>
        refine List.mem_cons_of_mem _ ?_
        have := ih (b + 1) i v (by simpa using h)
        rw [show b + (i + 1) = b + 1 + i by omega]
        exact this
    cases a with
    | long x =>
      rw [List.map_cons, lv_args, if_pos (by rfl)]
      simp only [zj_e0] at h
      match i, h with
      | 0, h =>
        simp at h
        subst h
        exact List.mem_cons_self
      | 1, h => simp at h
      | i + 2, h =>
        refine List.mem_cons_of_mem _ ?_
        have := ih (b + 2) i v (by simpa using h)
        rw [show b + (i + 2) = b + 2 + i by omega]
        exact this
    | int x => exact one (by simp [zj_tr, Value.category]) h
    | ref x => exact one (by simp [zj_tr, Value.category]) h
    | null => exact one (by simp [zj_tr, Value.category]) h
    | float x => exact one (by simp [zj_tr, Value.category]) h
    | retAddr x => exact one (by simp [zj_tr, Value.category]) h
    | double x =>
      rw [List.map_cons, lv_args, if_pos (by rfl)]
      simp only [zj_e0] at h
      match i, h with
      | 0, h =>
        simp at h
        subst h
        exact List.mem_cons_self
      | 1, h => simp at h
      | i + 2, h =>
        refine List.mem_cons_of_mem _ ?_
        have := ih (b + 2) i v (by simpa using h)
        rw [show b + (i + 2) = b + 2 + i by omega]
        exact this
theorem zj_e0_len (g : zj_G) : ∀ (as : List Value), (lg_sl (as.map (zj_tr g))).length = (zj_e0 as).length := by
  intro as
  induction as with
  | nil => rfl
  | cons a as ih =>
    have e : lg_sl ((a :: as).map (zj_tr g)) = (if (zj_tr g a).category = 2 then [.val (zj_tr g a), .second] else [.val (zj_tr g a)]) ++ lg_sl (as.map (zj_tr g)) := by simp [lg_sl]
    rw [e, List.length_append, ih]
    cases a <;> simp [zj_e0, zj_tr, Value.category] <;> omega
theorem zj_entry (g : zj_G) (as : List Value) {nL : Nat} (h : (zj_e0 as).length ≤ nL) : zj_has g ((lg_sl (as.map (zj_tr g)) ++ List.replicate (nL - (lg_sl (as.map (zj_tr g))).length) Slot.unset).toArray) nL (zj_E0 nL as) := by
  have h0 := lv_entry (as.map (zj_tr g)) (n := nL) (by rw [zj_e0_len]; exact h)
  refine ⟨h0.1, by simp [zj_E0]; omega, h0.2.1, fun i v hv => ?_⟩
  have hv' : (zj_e0 as).getD i none = some v := by
    unfold zj_E0 at hv
    rw [List.getD_eq_getElem?_getD] at hv ⊢
    rcases Nat.lt_or_ge i (zj_e0 as).length with q | q
    · rwa [List.getElem?_append_left q] at hv
    · rw [List.getElem?_append_right q] at hv
      rw [List.getElem?_replicate] at hv
      split at hv <;> cases hv
  have := zj_e0_args g as 0 i v hv'
  rw [Nat.zero_add] at this
  exact h0.2.2 (i, zj_tr g v) this
section ZR
variable {cc : ByteArray} {own : String} {nL d : Nat} {ret : Option FieldType} {sc : Nat × (Nat → Int32)} {pc : Nat} {k kt kf : zj_K}
theorem zr_iconst {n : Int} {v : Int32} (hd : decode cc pc = .ok (.iconst n, 1)) (hv : Int32.ofInt n = v) (hk : zj_KC cc own nL d ret sc (pc + 1) (k)) : zj_KC cc own nL d ret sc (pc) (zi_push (.int v) k) := by
  intro p l e R s m args below meth c A g cells slots Q res mem' hC hF E st mem h H ls locs hP hS hL
  exact lv_iconst hC.1 hC.2.1 hd hv (hk p l e R s m args below meth c A g cells slots Q res mem' hC hF E _ mem h H ls locs hP hS hL)
theorem zr_bipush {n : Int} {v : Int32} (hd : decode cc pc = .ok (.bipush n, 2)) (hv : (Int8.ofInt n).toInt32 = v) (hk : zj_KC cc own nL d ret sc (pc + 2) (k)) : zj_KC cc own nL d ret sc (pc) (zi_push (.int v) k) := by
  intro p l e R s m args below meth c A g cells slots Q res mem' hC hF E st mem h H ls locs hP hS hL
  exact lv_bipush hC.1 hC.2.1 hd hv (hk p l e R s m args below meth c A g cells slots Q res mem' hC hF E _ mem h H ls locs hP hS hL)
theorem zr_sipush {n : Int} {v : Int32} (hd : decode cc pc = .ok (.sipush n, 3)) (hv : (Int16.ofInt n).toInt32 = v) (hk : zj_KC cc own nL d ret sc (pc + 3) (k)) : zj_KC cc own nL d ret sc (pc) (zi_push (.int v) k) := by
  intro p l e R s m args below meth c A g cells slots Q res mem' hC hF E st mem h H ls locs hP hS hL
  exact lv_sipush hC.1 hC.2.1 hd hv (hk p l e R s m args below meth c A g cells slots Q res mem' hC hF E _ mem h H ls locs hP hS hL)
theorem zr_lconst {n : Fin 2} {v : Int64} (hd : decode cc pc = .ok (.lconst n, 1)) (hv : Int64.ofNat (n : Nat) = v) (hk : zj_KC cc own nL d ret sc (pc + 1) (k)) : zj_KC cc own nL d ret sc (pc) (zi_push (.long v) k) := by
  intro p l e R s m args below meth c A g cells slots Q res mem' hC hF E st mem h H ls locs hP hS hL
  exact lv_lconst hC.1 hC.2.1 hd hv (hk p l e R s m args below meth c A g cells slots Q res mem' hC hF E _ mem h H ls locs hP hS hL)
theorem zr_ldc {i : Nat} {v : Int32} (hd : decode cc pc = .ok (.ldc i, 2)) (hw : Cond.constant own i v ∈ zj_T) (hk : zj_KC cc own nL d ret sc (pc + 2) (k)) : zj_KC cc own nL d ret sc (pc) (zi_push (.int v) k) := by
  intro p l e R s m args below meth c A g cells slots Q res mem' hC hF E st mem h H ls locs hP hS hL
  exact lv_ldc hC.1 hC.2.1 hC.2.2.2.1 (hC.2.2.2.2.1 _ hw) hd (hk p l e R s m args below meth c A g cells slots Q res mem' hC hF E _ mem h H ls locs hP hS hL)
theorem zr_ldcw {i : Nat} {v : Int32} (hd : decode cc pc = .ok (.ldc_w i, 3)) (hw : Cond.constant own i v ∈ zj_T) (hk : zj_KC cc own nL d ret sc (pc + 3) (k)) : zj_KC cc own nL d ret sc (pc) (zi_push (.int v) k) := by
  intro p l e R s m args below meth c A g cells slots Q res mem' hC hF E st mem h H ls locs hP hS hL
  exact lv_ldcw hC.1 hC.2.1 hC.2.2.2.1 (hC.2.2.2.2.1 _ hw) hd (hk p l e R s m args below meth c A g cells slots Q res mem' hC hF E _ mem h H ls locs hP hS hL)
theorem zr_ldc2 {i : Nat} {v : Int64} (hd : decode cc pc = .ok (.ldc2_w i, 3)) (hw : Cond.constantLong own i v ∈ zj_T) (hk : zj_KC cc own nL d ret sc (pc + 3) (k)) : zj_KC cc own nL d ret sc (pc) (zi_push (.long v) k) := by
  intro p l e R s m args below meth c A g cells slots Q res mem' hC hF E st mem h H ls locs hP hS hL
  exact lv_ldc2 hC.1 hC.2.1 hC.2.2.2.1 (hC.2.2.2.2.1 _ hw) hd (hk p l e R s m args below meth c A g cells slots Q res mem' hC hF E _ mem h H ls locs hP hS hL)
theorem zr_ldcS {i j : Nat} {tx : String} (hd : decode cc pc = .ok (.ldc i, 2)) (hq : (own, i, tx, 1000 + j) ∈ zj_ks) (hk : zj_KC cc own nL d ret sc (pc + 2) (k)) : zj_KC cc own nL d ret sc (pc) (zi_push (.ref (1000 + j)) k) := by
  intro p l e R s m args below meth c A g cells slots Q res mem' hC hF E st mem h H ls locs hP hS hL
  exact va_ldcS hC.1 hC.2.1 hC.2.2.2.1 (hC.2.2.2.2.2.2.2.1.2.1 _ hq) hd (hk p l e R s m args below meth c A g cells slots Q res mem' hC hF E _ mem h H ls locs hP hS hL)
theorem zr_ildn {j : Fin 4} {i : Nat} (hd : decode cc pc = .ok (.iload_n j, 1)) (hi : (j : Nat) = i) (hk : zj_KC cc own nL d ret sc (pc + 1) (k)) : zj_KC cc own nL d ret sc (pc) (zi_ild i k) := by
  intro p l e R s m args below meth c A g cells slots Q res mem' hC hF E st mem h H ls locs hP hS hL
  unfold zi_ild at h
  split at h
  · next x hx => exact lv_iload_n hC.1 hC.2.1 hd hi (hL.2.2.2 i _ hx) (hk p l e R s m args below meth c A g cells slots Q res mem' hC hF E _ mem h H ls locs hP hS hL)
  · cases h
theorem zr_ild {i : Nat} (hd : decode cc pc = .ok (.iload i, 2)) (hk : zj_KC cc own nL d ret sc (pc + 2) (k)) : zj_KC cc own nL d ret sc (pc) (zi_ild i k) := by
  intro p l e R s m args below meth c A g cells slots Q res mem' hC hF E st mem h H ls locs hP hS hL
  unfold zi_ild at h
  split at h
  · next x hx => exact lv_iload hC.1 hC.2.1 hd (hL.2.2.2 i _ hx) (hk p l e R s m args below meth c A g cells slots Q res mem' hC hF E _ mem h H ls locs hP hS hL)
  · cases h
theorem zr_lldn {j : Fin 4} {i : Nat} (hd : decode cc pc = .ok (.lload_n j, 1)) (hi : (j : Nat) = i) (hk : zj_KC cc own nL d ret sc (pc + 1) (k)) : zj_KC cc own nL d ret sc (pc) (zi_lld i k) := by
  intro p l e R s m args below meth c A g cells slots Q res mem' hC hF E st mem h H ls locs hP hS hL
  unfold zi_lld at h
  split at h
  · next x hx => exact lv_lload_n hC.1 hC.2.1 hd hi (hL.2.2.2 i _ hx) (hk p l e R s m args below meth c A g cells slots Q res mem' hC hF E _ mem h H ls locs hP hS hL)
  · cases h
theorem zr_lld {i : Nat} (hd : decode cc pc = .ok (.lload i, 2)) (hk : zj_KC cc own nL d ret sc (pc + 2) (k)) : zj_KC cc own nL d ret sc (pc) (zi_lld i k) := by
  intro p l e R s m args below meth c A g cells slots Q res mem' hC hF E st mem h H ls locs hP hS hL
  unfold zi_lld at h
  split at h
  · next x hx => exact lv_lload hC.1 hC.2.1 hd (hL.2.2.2 i _ hx) (hk p l e R s m args below meth c A g cells slots Q res mem' hC hF E _ mem h H ls locs hP hS hL)
  · cases h
theorem zr_aldn {j : Fin 4} {i : Nat} (hd : decode cc pc = .ok (.aload_n j, 1)) (hi : (j : Nat) = i) (hk : zj_KC cc own nL d ret sc (pc + 1) (k)) : zj_KC cc own nL d ret sc (pc) (zi_ald i k) := by
  intro p l e R s m args below meth c A g cells slots Q res mem' hC hF E st mem h H ls locs hP hS hL
  unfold zi_ald at h
  split at h
  · next x hx => exact lv_aload_n hC.1 hC.2.1 hd hi (hL.2.2.2 i _ hx) (hk p l e R s m args below meth c A g cells slots Q res mem' hC hF E _ mem h H ls locs hP hS hL)
  · cases h
theorem zr_ald {i : Nat} (hd : decode cc pc = .ok (.aload i, 2)) (hk : zj_KC cc own nL d ret sc (pc + 2) (k)) : zj_KC cc own nL d ret sc (pc) (zi_ald i k) := by
  intro p l e R s m args below meth c A g cells slots Q res mem' hC hF E st mem h H ls locs hP hS hL
  unfold zi_ald at h
  split at h
  · next x hx => exact lv_aload hC.1 hC.2.1 hd (hL.2.2.2 i _ hx) (hk p l e R s m args below meth c A g cells slots Q res mem' hC hF E _ mem h H ls locs hP hS hL)
  · cases h
theorem zr_istn {j : Fin 4} {i : Nat} (hd : decode cc pc = .ok (.istore_n j, 1)) (hi : (j : Nat) = i) (hk : zj_KC cc own nL d ret sc (pc + 1) (k)) : zj_KC cc own nL d ret sc (pc) (zi_ist i k) := by
  intro p l e R s m args below meth c A g cells slots Q res mem' hC hF E st mem h H ls locs hP hS hL
  unfold zi_ist at h
  split at h
  · next x r =>
    split at h
    · next ho => exact lv_istore_n hC.1 hC.2.1 hd hi hL.lv (by rw [← hL.2.1]; exact zj_sok_lt ho) rfl (fun ls' hl => hk p l e R s m args below meth c A g cells slots Q res mem' hC hF _ _ mem h H ls' locs hP hS (hL.put (v := .int x) ho hl))
    · cases h
  · cases h
theorem zr_ist {i : Nat} (hd : decode cc pc = .ok (.istore i, 2)) (hk : zj_KC cc own nL d ret sc (pc + 2) (k)) : zj_KC cc own nL d ret sc (pc) (zi_ist i k) := by
  intro p l e R s m args below meth c A g cells slots Q res mem' hC hF E st mem h H ls locs hP hS hL
  unfold zi_ist at h
  split at h
  · next x r =>
    split at h
    · next ho => exact lv_istore hC.1 hC.2.1 hd hL.lv (by rw [← hL.2.1]; exact zj_sok_lt ho) rfl (fun ls' hl => hk p l e R s m args below meth c A g cells slots Q res mem' hC hF _ _ mem h H ls' locs hP hS (hL.put (v := .int x) ho hl))
    · cases h
  · cases h
theorem zr_astn {j : Fin 4} {i : Nat} (hd : decode cc pc = .ok (.astore_n j, 1)) (hi : (j : Nat) = i) (hk : zj_KC cc own nL d ret sc (pc + 1) (k)) : zj_KC cc own nL d ret sc (pc) (zi_ast i k) := by
  intro p l e R s m args below meth c A g cells slots Q res mem' hC hF E st mem h H ls locs hP hS hL
  unfold zi_ast at h
  split at h
  · next x r =>
    split at h
    · next ho => exact lv_astore_n hC.1 hC.2.1 hd hi hL.lv (by rw [← hL.2.1]; exact zj_sok_lt ho) rfl (fun ls' hl => hk p l e R s m args below meth c A g cells slots Q res mem' hC hF _ _ mem h H ls' locs hP hS (hL.put (v := .ref x) ho hl))
    · cases h
  · cases h
theorem zr_ast {i : Nat} (hd : decode cc pc = .ok (.astore i, 2)) (hk : zj_KC cc own nL d ret sc (pc + 2) (k)) : zj_KC cc own nL d ret sc (pc) (zi_ast i k) := by
  intro p l e R s m args below meth c A g cells slots Q res mem' hC hF E st mem h H ls locs hP hS hL
  unfold zi_ast at h
  split at h
  · next x r =>
    split at h
    · next ho => exact lv_astore hC.1 hC.2.1 hd hL.lv (by rw [← hL.2.1]; exact zj_sok_lt ho) rfl (fun ls' hl => hk p l e R s m args below meth c A g cells slots Q res mem' hC hF _ _ mem h H ls' locs hP hS (hL.put (v := .ref x) ho hl))
    · cases h
  · cases h
theorem zr_lstn {j : Fin 4} {i : Nat} (hd : decode cc pc = .ok (.lstore_n j, 1)) (hi : (j : Nat) = i) (hk : zj_KC cc own nL d ret sc (pc + 1) (k)) : zj_KC cc own nL d ret sc (pc) (zi_lst i k) := by
  intro p l e R s m args below meth c A g cells slots Q res mem' hC hF E st mem h H ls locs hP hS hL
  unfold zi_lst at h
  split at h
  · next x r =>
    split at h
    · next ho => exact lv_lstore_n hC.1 hC.2.1 hd hi hL.lv (by rw [← hL.2.1]; exact ho.2) rfl (fun ls' hl => hk p l e R s m args below meth c A g cells slots Q res mem' hC hF _ _ mem h H ls' locs hP hS (hL.put2 (v := .long x) ho.1 ho.2 hl))
    · cases h
  · cases h
theorem zr_lst {i : Nat} (hd : decode cc pc = .ok (.lstore i, 2)) (hk : zj_KC cc own nL d ret sc (pc + 2) (k)) : zj_KC cc own nL d ret sc (pc) (zi_lst i k) := by
  intro p l e R s m args below meth c A g cells slots Q res mem' hC hF E st mem h H ls locs hP hS hL
  unfold zi_lst at h
  split at h
  · next x r =>
    split at h
    · next ho => exact lv_lstore hC.1 hC.2.1 hd hL.lv (by rw [← hL.2.1]; exact ho.2) rfl (fun ls' hl => hk p l e R s m args below meth c A g cells slots Q res mem' hC hF _ _ mem h H ls' locs hP hS (hL.put2 (v := .long x) ho.1 ho.2 hl))
    · cases h
  · cases h
theorem zr_inc {i : Nat} {n : Int} {v : Int32} (hd : decode cc pc = .ok (.iinc i n, 3)) (hv : Int32.ofInt n = v) (hk : zj_KC cc own nL d ret sc (pc + 3) (k)) : zj_KC cc own nL d ret sc (pc) (zi_inc i v k) := by
  intro p l e R s m args below meth c A g cells slots Q res mem' hC hF E st mem h H ls locs hP hS hL
  subst hv
  unfold zi_inc at h
  split at h
  · next x hx =>
    split at h
    · next ho =>
      obtain ⟨q, hq⟩ := List.getElem?_of_mem (zj_prs_mem (g := g) hx)
      exact lv_iinc hC.1 hC.2.1 hd hL.lv hq rfl (by rw [← hL.2.1]; exact zj_sok_lt ho) rfl (fun ls' hl => hk p l e R s m args below meth c A g cells slots Q res mem' hC hF _ _ mem h H ls' locs hP hS (hL.put (v := .int (x + Int32.ofInt n)) ho hl))
    · cases h
  · cases h
theorem zr_iadd (hd : decode cc pc = .ok (.iadd, 1)) (hk : zj_KC cc own nL d ret sc (pc + 1) (k)) : zj_KC cc own nL d ret sc (pc) (zi_b (fun x y => x + y) k) := by
  intro p l e R s m args below meth c A g cells slots Q res mem' hC hF E st mem h H ls locs hP hS hL
  unfold zi_b at h
  split at h
  · exact lv_iadd hC.1 hC.2.1 hd (hk p l e R s m args below meth c A g cells slots Q res mem' hC hF E _ mem h H ls locs hP hS hL)
  · cases h
theorem zr_isub (hd : decode cc pc = .ok (.isub, 1)) (hk : zj_KC cc own nL d ret sc (pc + 1) (k)) : zj_KC cc own nL d ret sc (pc) (zi_b (fun x y => x - y) k) := by
  intro p l e R s m args below meth c A g cells slots Q res mem' hC hF E st mem h H ls locs hP hS hL
  unfold zi_b at h
  split at h
  · exact lv_isub hC.1 hC.2.1 hd (hk p l e R s m args below meth c A g cells slots Q res mem' hC hF E _ mem h H ls locs hP hS hL)
  · cases h
theorem zr_imul (hd : decode cc pc = .ok (.imul, 1)) (hk : zj_KC cc own nL d ret sc (pc + 1) (k)) : zj_KC cc own nL d ret sc (pc) (zi_b (fun x y => x * y) k) := by
  intro p l e R s m args below meth c A g cells slots Q res mem' hC hF E st mem h H ls locs hP hS hL
  unfold zi_b at h
  split at h
  · exact lv_imul hC.1 hC.2.1 hd (hk p l e R s m args below meth c A g cells slots Q res mem' hC hF E _ mem h H ls locs hP hS hL)
  · cases h
theorem zr_iand (hd : decode cc pc = .ok (.iand, 1)) (hk : zj_KC cc own nL d ret sc (pc + 1) (k)) : zj_KC cc own nL d ret sc (pc) (zi_b (fun x y => x &&& y) k) := by
  intro p l e R s m args below meth c A g cells slots Q res mem' hC hF E st mem h H ls locs hP hS hL
  unfold zi_b at h
  split at h
  · exact lv_iand hC.1 hC.2.1 hd (hk p l e R s m args below meth c A g cells slots Q res mem' hC hF E _ mem h H ls locs hP hS hL)
  · cases h
theorem zr_ior (hd : decode cc pc = .ok (.ior, 1)) (hk : zj_KC cc own nL d ret sc (pc + 1) (k)) : zj_KC cc own nL d ret sc (pc) (zi_b (fun x y => x ||| y) k) := by
  intro p l e R s m args below meth c A g cells slots Q res mem' hC hF E st mem h H ls locs hP hS hL
  unfold zi_b at h
  split at h
  · exact lv_ior hC.1 hC.2.1 hd (hk p l e R s m args below meth c A g cells slots Q res mem' hC hF E _ mem h H ls locs hP hS hL)
  · cases h
theorem zr_ixor (hd : decode cc pc = .ok (.ixor, 1)) (hk : zj_KC cc own nL d ret sc (pc + 1) (k)) : zj_KC cc own nL d ret sc (pc) (zi_b (fun x y => x ^^^ y) k) := by
  intro p l e R s m args below meth c A g cells slots Q res mem' hC hF E st mem h H ls locs hP hS hL
  unfold zi_b at h
  split at h
  · exact lv_ixor hC.1 hC.2.1 hd (hk p l e R s m args below meth c A g cells slots Q res mem' hC hF E _ mem h H ls locs hP hS hL)
  · cases h
theorem zr_ishl (hd : decode cc pc = .ok (.ishl, 1)) (hk : zj_KC cc own nL d ret sc (pc + 1) (k)) : zj_KC cc own nL d ret sc (pc) (zi_b (fun x y => x <<< (y &&& 31)) k) := by
  intro p l e R s m args below meth c A g cells slots Q res mem' hC hF E st mem h H ls locs hP hS hL
  unfold zi_b at h
  split at h
  · exact lv_ishl hC.1 hC.2.1 hd (hk p l e R s m args below meth c A g cells slots Q res mem' hC hF E _ mem h H ls locs hP hS hL)
  · cases h
theorem zr_ishr (hd : decode cc pc = .ok (.ishr, 1)) (hk : zj_KC cc own nL d ret sc (pc + 1) (k)) : zj_KC cc own nL d ret sc (pc) (zi_b (fun x y => x >>> (y &&& 31)) k) := by
  intro p l e R s m args below meth c A g cells slots Q res mem' hC hF E st mem h H ls locs hP hS hL
  unfold zi_b at h
  split at h
  · exact lv_ishr hC.1 hC.2.1 hd (hk p l e R s m args below meth c A g cells slots Q res mem' hC hF E _ mem h H ls locs hP hS hL)
  · cases h
theorem zr_iushr (hd : decode cc pc = .ok (.iushr, 1)) (hk : zj_KC cc own nL d ret sc (pc + 1) (k)) : zj_KC cc own nL d ret sc (pc) (zi_b (fun x y => (x.toUInt32 >>> (y.toUInt32 &&& Int32.toUInt32 31)).toInt32) k) := by
  intro p l e R s m args below meth c A g cells slots Q res mem' hC hF E st mem h H ls locs hP hS hL
  unfold zi_b at h
  split at h
  · exact lv_iushr hC.1 hC.2.1 hd rfl (hk p l e R s m args below meth c A g cells slots Q res mem' hC hF E _ mem h H ls locs hP hS hL)
  · cases h
theorem zr_idiv (hd : decode cc pc = .ok (.idiv, 1)) (hk : zj_KC cc own nL d ret sc (pc + 1) (k)) : zj_KC cc own nL d ret sc (pc) (zi_bd (fun x y => x / y) k) := by
  intro p l e R s m args below meth c A g cells slots Q res mem' hC hF E st mem h H ls locs hP hS hL
  unfold zi_bd at h
  split at h
  · split at h
    · cases h
    · next hy => exact lv_idiv hC.1 hC.2.1 hd hy (hk p l e R s m args below meth c A g cells slots Q res mem' hC hF E _ mem h H ls locs hP hS hL)
  · cases h
theorem zr_irem (hd : decode cc pc = .ok (.irem, 1)) (hk : zj_KC cc own nL d ret sc (pc + 1) (k)) : zj_KC cc own nL d ret sc (pc) (zi_bd (fun x y => x - x / y * y) k) := by
  intro p l e R s m args below meth c A g cells slots Q res mem' hC hF E st mem h H ls locs hP hS hL
  unfold zi_bd at h
  split at h
  · split at h
    · cases h
    · next hy => exact lv_irem hC.1 hC.2.1 hd hy (hk p l e R s m args below meth c A g cells slots Q res mem' hC hF E _ mem h H ls locs hP hS hL)
  · cases h
theorem zr_ladd (hd : decode cc pc = .ok (.ladd, 1)) (hk : zj_KC cc own nL d ret sc (pc + 1) (k)) : zj_KC cc own nL d ret sc (pc) (zi_lb (fun x y => x + y) k) := by
  intro p l e R s m args below meth c A g cells slots Q res mem' hC hF E st mem h H ls locs hP hS hL
  unfold zi_lb at h
  split at h
  · exact lv_ladd hC.1 hC.2.1 hd (hk p l e R s m args below meth c A g cells slots Q res mem' hC hF E _ mem h H ls locs hP hS hL)
  · cases h
theorem zr_lsub (hd : decode cc pc = .ok (.lsub, 1)) (hk : zj_KC cc own nL d ret sc (pc + 1) (k)) : zj_KC cc own nL d ret sc (pc) (zi_lb (fun x y => x - y) k) := by
  intro p l e R s m args below meth c A g cells slots Q res mem' hC hF E st mem h H ls locs hP hS hL
  unfold zi_lb at h
  split at h
  · exact lv_lsub hC.1 hC.2.1 hd (hk p l e R s m args below meth c A g cells slots Q res mem' hC hF E _ mem h H ls locs hP hS hL)
  · cases h
theorem zr_ldiv (hd : decode cc pc = .ok (.ldiv, 1)) (hk : zj_KC cc own nL d ret sc (pc + 1) (k)) : zj_KC cc own nL d ret sc (pc) (zi_lbd (fun x y => x / y) k) := by
  intro p l e R s m args below meth c A g cells slots Q res mem' hC hF E st mem h H ls locs hP hS hL
  unfold zi_lbd at h
  split at h
  · split at h
    · cases h
    · next hy => exact lv_ldiv hC.1 hC.2.1 hd hy (hk p l e R s m args below meth c A g cells slots Q res mem' hC hF E _ mem h H ls locs hP hS hL)
  · cases h
theorem zr_lrem (hd : decode cc pc = .ok (.lrem, 1)) (hk : zj_KC cc own nL d ret sc (pc + 1) (k)) : zj_KC cc own nL d ret sc (pc) (zi_lbd (fun x y => x - x / y * y) k) := by
  intro p l e R s m args below meth c A g cells slots Q res mem' hC hF E st mem h H ls locs hP hS hL
  unfold zi_lbd at h
  split at h
  · split at h
    · cases h
    · next hy => exact lv_lrem hC.1 hC.2.1 hd hy (hk p l e R s m args below meth c A g cells slots Q res mem' hC hF E _ mem h H ls locs hP hS hL)
  · cases h
theorem zr_ineg (hd : decode cc pc = .ok (.ineg, 1)) (hk : zj_KC cc own nL d ret sc (pc + 1) (k)) : zj_KC cc own nL d ret sc (pc) (zi_u (fun x => -x) k) := by
  intro p l e R s m args below meth c A g cells slots Q res mem' hC hF E st mem h H ls locs hP hS hL
  unfold zi_u at h
  split at h
  · exact lv_ineg hC.1 hC.2.1 hd (hk p l e R s m args below meth c A g cells slots Q res mem' hC hF E _ mem h H ls locs hP hS hL)
  · cases h
theorem zr_i2c (hd : decode cc pc = .ok (.i2c, 1)) (hk : zj_KC cc own nL d ret sc (pc + 1) (k)) : zj_KC cc own nL d ret sc (pc) (zi_u (fun x => (x.toUInt32 % 65536).toInt32) k) := by
  intro p l e R s m args below meth c A g cells slots Q res mem' hC hF E st mem h H ls locs hP hS hL
  unfold zi_u at h
  split at h
  · exact lv_i2c hC.1 hC.2.1 hd rfl (hk p l e R s m args below meth c A g cells slots Q res mem' hC hF E _ mem h H ls locs hP hS hL)
  · cases h
theorem zr_lneg (hd : decode cc pc = .ok (.lneg, 1)) (hk : zj_KC cc own nL d ret sc (pc + 1) (k)) : zj_KC cc own nL d ret sc (pc) (zi_lu (fun x => -x) k) := by
  intro p l e R s m args below meth c A g cells slots Q res mem' hC hF E st mem h H ls locs hP hS hL
  unfold zi_lu at h
  split at h
  · exact lv_lneg hC.1 hC.2.1 hd (hk p l e R s m args below meth c A g cells slots Q res mem' hC hF E _ mem h H ls locs hP hS hL)
  · cases h
theorem zr_i2l (hd : decode cc pc = .ok (.i2l, 1)) (hk : zj_KC cc own nL d ret sc (pc + 1) (k)) : zj_KC cc own nL d ret sc (pc) (zi_i2l k) := by
  intro p l e R s m args below meth c A g cells slots Q res mem' hC hF E st mem h H ls locs hP hS hL
  unfold zi_i2l at h
  split at h
  · exact lv_i2l hC.1 hC.2.1 hd rfl (hk p l e R s m args below meth c A g cells slots Q res mem' hC hF E _ mem h H ls locs hP hS hL)
  · cases h
theorem zr_lcmp (hd : decode cc pc = .ok (.lcmp, 1)) (hk : zj_KC cc own nL d ret sc (pc + 1) (k)) : zj_KC cc own nL d ret sc (pc) (zi_lcmp k) := by
  intro p l e R s m args below meth c A g cells slots Q res mem' hC hF E st mem h H ls locs hP hS hL
  unfold zi_lcmp at h
  split at h
  · exact W.lcmp hC.1 hC.2.1 hd (hk p l e R s m args below meth c A g cells slots Q res mem' hC hF E _ mem h H ls locs hP hS hL)
  · cases h
theorem zr_dup (hd : decode cc pc = .ok (.dup, 1)) (hk : zj_KC cc own nL d ret sc (pc + 1) (k)) : zj_KC cc own nL d ret sc (pc) (zi_dup k) := by
  intro p l e R s m args below meth c A g cells slots Q res mem' hC hF E st mem h H ls locs hP hS hL
  unfold zi_dup at h
  split at h
  · exact lv_dup hC.1 hC.2.1 hd rfl (hk p l e R s m args below meth c A g cells slots Q res mem' hC hF E _ mem h H ls locs hP hS hL)
  · exact lv_dup hC.1 hC.2.1 hd rfl (hk p l e R s m args below meth c A g cells slots Q res mem' hC hF E _ mem h H ls locs hP hS hL)
  · cases h
theorem zr_dup2 (hd : decode cc pc = .ok (.dup2, 1)) (hk : zj_KC cc own nL d ret sc (pc + 1) (k)) : zj_KC cc own nL d ret sc (pc) (zi_dup2 k) := by
  intro p l e R s m args below meth c A g cells slots Q res mem' hC hF E st mem h H ls locs hP hS hL
  unfold zi_dup2 at h
  split at h
  · exact lv_dup2_11 hC.1 hC.2.1 hd rfl rfl (hk p l e R s m args below meth c A g cells slots Q res mem' hC hF E _ mem h H ls locs hP hS hL)
  · cases h
theorem zr_pop (hd : decode cc pc = .ok (.pop, 1)) (hk : zj_KC cc own nL d ret sc (pc + 1) (k)) : zj_KC cc own nL d ret sc (pc) (zi_pop k) := by
  intro p l e R s m args below meth c A g cells slots Q res mem' hC hF E st mem h H ls locs hP hS hL
  unfold zi_pop at h
  split at h
  · exact lv_pop hC.1 hC.2.1 hd rfl (hk p l e R s m args below meth c A g cells slots Q res mem' hC hF E _ mem h H ls locs hP hS hL)
  · cases h
theorem zr_ifeq {off : Int} {tgt : Nat} (hd : decode cc pc = .ok (.ifCond .eq off, 3)) (ht : (pc : Int) + off = (tgt : Int)) (hkt : zj_KC cc own nL d ret sc (tgt) (kt)) (hkf : zj_KC cc own nL d ret sc (pc + 3) (kf)) : zj_KC cc own nL d ret sc (pc) (zi_eq kt kf) := by
  intro p l e R s m args below meth c A g cells slots Q res mem' hC hF E st mem h H ls locs hP hS hL
  unfold zi_eq at h
  split at h
  · exact lv_if_eq hC.1 hC.2.1 hd ht (fun hc => hkt p l e R s m args below meth c A g cells slots Q res mem' hC hF E _ mem (by rw [if_pos (by first | exact hc | omega | exact Int32.not_le.mp hc | exact Int32.not_lt.mp hc)] at h; exact h) H ls locs hP hS hL) (fun hc => hkf p l e R s m args below meth c A g cells slots Q res mem' hC hF E _ mem (by rw [if_neg (by first | exact hc | exact fun q => absurd q (Int32.not_lt.mpr hc) | exact fun q => absurd q (Int32.not_le.mpr hc) | exact fun q => hc q)] at h; exact h) H ls locs hP hS hL)
  · cases h
theorem zr_iceq {off : Int} {tgt : Nat} (hd : decode cc pc = .ok (.if_icmp .eq off, 3)) (ht : (pc : Int) + off = (tgt : Int)) (hkt : zj_KC cc own nL d ret sc (tgt) (kt)) (hkf : zj_KC cc own nL d ret sc (pc + 3) (kf)) : zj_KC cc own nL d ret sc (pc) (zi_ceq kt kf) := by
  intro p l e R s m args below meth c A g cells slots Q res mem' hC hF E st mem h H ls locs hP hS hL
  unfold zi_ceq at h
  split at h
  · exact lv_icmp_eq hC.1 hC.2.1 hd ht (fun hc => hkt p l e R s m args below meth c A g cells slots Q res mem' hC hF E _ mem (by rw [if_pos (by first | exact hc | omega | exact Int32.not_le.mp hc | exact Int32.not_lt.mp hc)] at h; exact h) H ls locs hP hS hL) (fun hc => hkf p l e R s m args below meth c A g cells slots Q res mem' hC hF E _ mem (by rw [if_neg (by first | exact hc | exact fun q => absurd q (Int32.not_lt.mpr hc) | exact fun q => absurd q (Int32.not_le.mpr hc) | exact fun q => hc q)] at h; exact h) H ls locs hP hS hL)
  · cases h
theorem zr_ifne {off : Int} {tgt : Nat} (hd : decode cc pc = .ok (.ifCond .ne off, 3)) (ht : (pc : Int) + off = (tgt : Int)) (hkt : zj_KC cc own nL d ret sc (tgt) (kt)) (hkf : zj_KC cc own nL d ret sc (pc + 3) (kf)) : zj_KC cc own nL d ret sc (pc) (zi_eq kf kt) := by
  intro p l e R s m args below meth c A g cells slots Q res mem' hC hF E st mem h H ls locs hP hS hL
  unfold zi_eq at h
  split at h
  · exact lv_if_ne hC.1 hC.2.1 hd ht (fun hc => hkt p l e R s m args below meth c A g cells slots Q res mem' hC hF E _ mem (by rw [if_neg (by first | exact hc | exact fun q => absurd q (Int32.not_lt.mpr hc) | exact fun q => absurd q (Int32.not_le.mpr hc) | exact fun q => hc q)] at h; exact h) H ls locs hP hS hL) (fun hc => hkf p l e R s m args below meth c A g cells slots Q res mem' hC hF E _ mem (by rw [if_pos (by first | exact hc | omega | exact Int32.not_le.mp hc | exact Int32.not_lt.mp hc)] at h; exact h) H ls locs hP hS hL)
  · cases h
theorem zr_icne {off : Int} {tgt : Nat} (hd : decode cc pc = .ok (.if_icmp .ne off, 3)) (ht : (pc : Int) + off = (tgt : Int)) (hkt : zj_KC cc own nL d ret sc (tgt) (kt)) (hkf : zj_KC cc own nL d ret sc (pc + 3) (kf)) : zj_KC cc own nL d ret sc (pc) (zi_ceq kf kt) := by
  intro p l e R s m args below meth c A g cells slots Q res mem' hC hF E st mem h H ls locs hP hS hL
  unfold zi_ceq at h
  split at h
  · exact lv_icmp_ne hC.1 hC.2.1 hd ht (fun hc => hkt p l e R s m args below meth c A g cells slots Q res mem' hC hF E _ mem (by rw [if_neg (by first | exact hc | exact fun q => absurd q (Int32.not_lt.mpr hc) | exact fun q => absurd q (Int32.not_le.mpr hc) | exact fun q => hc q)] at h; exact h) H ls locs hP hS hL) (fun hc => hkf p l e R s m args below meth c A g cells slots Q res mem' hC hF E _ mem (by rw [if_pos (by first | exact hc | omega | exact Int32.not_le.mp hc | exact Int32.not_lt.mp hc)] at h; exact h) H ls locs hP hS hL)
  · cases h
theorem zr_iflt {off : Int} {tgt : Nat} (hd : decode cc pc = .ok (.ifCond .lt off, 3)) (ht : (pc : Int) + off = (tgt : Int)) (hkt : zj_KC cc own nL d ret sc (tgt) (kt)) (hkf : zj_KC cc own nL d ret sc (pc + 3) (kf)) : zj_KC cc own nL d ret sc (pc) (zi_lt kt kf) := by
  intro p l e R s m args below meth c A g cells slots Q res mem' hC hF E st mem h H ls locs hP hS hL
  unfold zi_lt at h
  split at h
  · exact lv_if_lt hC.1 hC.2.1 hd ht (fun hc => hkt p l e R s m args below meth c A g cells slots Q res mem' hC hF E _ mem (by rw [if_pos (by first | exact hc | omega | exact Int32.not_le.mp hc | exact Int32.not_lt.mp hc)] at h; exact h) H ls locs hP hS hL) (fun hc => hkf p l e R s m args below meth c A g cells slots Q res mem' hC hF E _ mem (by rw [if_neg (by first | exact hc | exact fun q => absurd q (Int32.not_lt.mpr hc) | exact fun q => absurd q (Int32.not_le.mpr hc) | exact fun q => hc q)] at h; exact h) H ls locs hP hS hL)
  · cases h
theorem zr_iclt {off : Int} {tgt : Nat} (hd : decode cc pc = .ok (.if_icmp .lt off, 3)) (ht : (pc : Int) + off = (tgt : Int)) (hkt : zj_KC cc own nL d ret sc (tgt) (kt)) (hkf : zj_KC cc own nL d ret sc (pc + 3) (kf)) : zj_KC cc own nL d ret sc (pc) (zi_clt kt kf) := by
  intro p l e R s m args below meth c A g cells slots Q res mem' hC hF E st mem h H ls locs hP hS hL
  unfold zi_clt at h
  split at h
  · exact lv_icmp_lt hC.1 hC.2.1 hd ht (fun hc => hkt p l e R s m args below meth c A g cells slots Q res mem' hC hF E _ mem (by rw [if_pos (by first | exact hc | omega | exact Int32.not_le.mp hc | exact Int32.not_lt.mp hc)] at h; exact h) H ls locs hP hS hL) (fun hc => hkf p l e R s m args below meth c A g cells slots Q res mem' hC hF E _ mem (by rw [if_neg (by first | exact hc | exact fun q => absurd q (Int32.not_lt.mpr hc) | exact fun q => absurd q (Int32.not_le.mpr hc) | exact fun q => hc q)] at h; exact h) H ls locs hP hS hL)
  · cases h
theorem zr_ifge {off : Int} {tgt : Nat} (hd : decode cc pc = .ok (.ifCond .ge off, 3)) (ht : (pc : Int) + off = (tgt : Int)) (hkt : zj_KC cc own nL d ret sc (tgt) (kt)) (hkf : zj_KC cc own nL d ret sc (pc + 3) (kf)) : zj_KC cc own nL d ret sc (pc) (zi_lt kf kt) := by
  intro p l e R s m args below meth c A g cells slots Q res mem' hC hF E st mem h H ls locs hP hS hL
  unfold zi_lt at h
  split at h
  · exact lv_if_ge hC.1 hC.2.1 hd ht (fun hc => hkt p l e R s m args below meth c A g cells slots Q res mem' hC hF E _ mem (by rw [if_neg (by first | exact hc | exact fun q => absurd q (Int32.not_lt.mpr hc) | exact fun q => absurd q (Int32.not_le.mpr hc) | exact fun q => hc q)] at h; exact h) H ls locs hP hS hL) (fun hc => hkf p l e R s m args below meth c A g cells slots Q res mem' hC hF E _ mem (by rw [if_pos (by first | exact hc | omega | exact Int32.not_le.mp hc | exact Int32.not_lt.mp hc)] at h; exact h) H ls locs hP hS hL)
  · cases h
theorem zr_icge {off : Int} {tgt : Nat} (hd : decode cc pc = .ok (.if_icmp .ge off, 3)) (ht : (pc : Int) + off = (tgt : Int)) (hkt : zj_KC cc own nL d ret sc (tgt) (kt)) (hkf : zj_KC cc own nL d ret sc (pc + 3) (kf)) : zj_KC cc own nL d ret sc (pc) (zi_clt kf kt) := by
  intro p l e R s m args below meth c A g cells slots Q res mem' hC hF E st mem h H ls locs hP hS hL
  unfold zi_clt at h
  split at h
  · exact lv_icmp_ge hC.1 hC.2.1 hd ht (fun hc => hkt p l e R s m args below meth c A g cells slots Q res mem' hC hF E _ mem (by rw [if_neg (by first | exact hc | exact fun q => absurd q (Int32.not_lt.mpr hc) | exact fun q => absurd q (Int32.not_le.mpr hc) | exact fun q => hc q)] at h; exact h) H ls locs hP hS hL) (fun hc => hkf p l e R s m args below meth c A g cells slots Q res mem' hC hF E _ mem (by rw [if_pos (by first | exact hc | omega | exact Int32.not_le.mp hc | exact Int32.not_lt.mp hc)] at h; exact h) H ls locs hP hS hL)
  · cases h
theorem zr_ifle {off : Int} {tgt : Nat} (hd : decode cc pc = .ok (.ifCond .le off, 3)) (ht : (pc : Int) + off = (tgt : Int)) (hkt : zj_KC cc own nL d ret sc (tgt) (kt)) (hkf : zj_KC cc own nL d ret sc (pc + 3) (kf)) : zj_KC cc own nL d ret sc (pc) (zi_le kt kf) := by
  intro p l e R s m args below meth c A g cells slots Q res mem' hC hF E st mem h H ls locs hP hS hL
  unfold zi_le at h
  split at h
  · exact lv_if_le hC.1 hC.2.1 hd ht (fun hc => hkt p l e R s m args below meth c A g cells slots Q res mem' hC hF E _ mem (by rw [if_pos (by first | exact hc | omega | exact Int32.not_le.mp hc | exact Int32.not_lt.mp hc)] at h; exact h) H ls locs hP hS hL) (fun hc => hkf p l e R s m args below meth c A g cells slots Q res mem' hC hF E _ mem (by rw [if_neg (by first | exact hc | exact fun q => absurd q (Int32.not_lt.mpr hc) | exact fun q => absurd q (Int32.not_le.mpr hc) | exact fun q => hc q)] at h; exact h) H ls locs hP hS hL)
  · cases h
theorem zr_icle {off : Int} {tgt : Nat} (hd : decode cc pc = .ok (.if_icmp .le off, 3)) (ht : (pc : Int) + off = (tgt : Int)) (hkt : zj_KC cc own nL d ret sc (tgt) (kt)) (hkf : zj_KC cc own nL d ret sc (pc + 3) (kf)) : zj_KC cc own nL d ret sc (pc) (zi_cle kt kf) := by
  intro p l e R s m args below meth c A g cells slots Q res mem' hC hF E st mem h H ls locs hP hS hL
  unfold zi_cle at h
  split at h
  · exact lv_icmp_le hC.1 hC.2.1 hd ht (fun hc => hkt p l e R s m args below meth c A g cells slots Q res mem' hC hF E _ mem (by rw [if_pos (by first | exact hc | omega | exact Int32.not_le.mp hc | exact Int32.not_lt.mp hc)] at h; exact h) H ls locs hP hS hL) (fun hc => hkf p l e R s m args below meth c A g cells slots Q res mem' hC hF E _ mem (by rw [if_neg (by first | exact hc | exact fun q => absurd q (Int32.not_lt.mpr hc) | exact fun q => absurd q (Int32.not_le.mpr hc) | exact fun q => hc q)] at h; exact h) H ls locs hP hS hL)
  · cases h
theorem zr_ifgt {off : Int} {tgt : Nat} (hd : decode cc pc = .ok (.ifCond .gt off, 3)) (ht : (pc : Int) + off = (tgt : Int)) (hkt : zj_KC cc own nL d ret sc (tgt) (kt)) (hkf : zj_KC cc own nL d ret sc (pc + 3) (kf)) : zj_KC cc own nL d ret sc (pc) (zi_le kf kt) := by
  intro p l e R s m args below meth c A g cells slots Q res mem' hC hF E st mem h H ls locs hP hS hL
  unfold zi_le at h
  split at h
  · exact lv_if_gt hC.1 hC.2.1 hd ht (fun hc => hkt p l e R s m args below meth c A g cells slots Q res mem' hC hF E _ mem (by rw [if_neg (by first | exact hc | exact fun q => absurd q (Int32.not_lt.mpr hc) | exact fun q => absurd q (Int32.not_le.mpr hc) | exact fun q => hc q)] at h; exact h) H ls locs hP hS hL) (fun hc => hkf p l e R s m args below meth c A g cells slots Q res mem' hC hF E _ mem (by rw [if_pos (by first | exact hc | omega | exact Int32.not_le.mp hc | exact Int32.not_lt.mp hc)] at h; exact h) H ls locs hP hS hL)
  · cases h
theorem zr_icgt {off : Int} {tgt : Nat} (hd : decode cc pc = .ok (.if_icmp .gt off, 3)) (ht : (pc : Int) + off = (tgt : Int)) (hkt : zj_KC cc own nL d ret sc (tgt) (kt)) (hkf : zj_KC cc own nL d ret sc (pc + 3) (kf)) : zj_KC cc own nL d ret sc (pc) (zi_cle kf kt) := by
  intro p l e R s m args below meth c A g cells slots Q res mem' hC hF E st mem h H ls locs hP hS hL
  unfold zi_cle at h
  split at h
  · exact lv_icmp_gt hC.1 hC.2.1 hd ht (fun hc => hkt p l e R s m args below meth c A g cells slots Q res mem' hC hF E _ mem (by rw [if_neg (by first | exact hc | exact fun q => absurd q (Int32.not_lt.mpr hc) | exact fun q => absurd q (Int32.not_le.mpr hc) | exact fun q => hc q)] at h; exact h) H ls locs hP hS hL) (fun hc => hkf p l e R s m args below meth c A g cells slots Q res mem' hC hF E _ mem (by rw [if_pos (by first | exact hc | omega | exact Int32.not_le.mp hc | exact Int32.not_lt.mp hc)] at h; exact h) H ls locs hP hS hL)
  · cases h
theorem zr_goto {off : Int} {tgt : Nat} (hd : decode cc pc = .ok (.goto off, 3)) (ht : (pc : Int) + off = (tgt : Int)) (hk : zj_KC cc own nL d ret sc (tgt) (k)) : zj_KC cc own nL d ret sc (pc) (k) := by
  intro p l e R s m args below meth c A g cells slots Q res mem' hC hF E st mem h H ls locs hP hS hL
  exact lv_goto hC.1 hC.2.1 hd ht (hk p l e R s m args below meth c A g cells slots Q res mem' hC hF E _ mem h H ls locs hP hS hL)
theorem zr_lp {F : zj_K → zj_K} (hF : ∀ k, zj_KC cc own nL d ret sc (pc) (k) → zj_KC cc own nL d ret sc (pc) (F k)) : ∀ n, zj_KC cc own nL d ret sc (pc) (zj_lp F n)
  | 0 => fun p l e R s m args below meth c A g cells slots Q res mem' hC hF E st mem h => by cases h
  | n + 1 => hF _ (zr_lp hF n)
theorem zr_ret (hd : decode cc pc = .ok (zj_retop ret, 1)) : zj_KC cc own nL d ret sc (pc) (zi_ret ret) := by
  intro p l e R s m args below meth c A g cells slots Q res mem' hC hF E st mem h H ls locs hP hS hL
  unfold zi_ret at h
  split at h
  · next hr =>
    cases h
    exact hF hr pc H ls locs hP hS hd
  · cases h
theorem zr_no {a : Nat} : zj_KC cc own nL d ret sc (a) (zi_no) := by
  intro p l e R s m args below meth c A g cells slots Q res mem' hC hF E st mem h
  cases h
theorem zj_cls_at {g : zj_G} {mem : zj_M} {t ci : Nat} (h : zj_cls t ci = true) : t < zj_N ∧ (zj_w g mem)[t]? = some (zj_ad g t, .inr (ci, zj_fl g (zj_at t).2.2 0 (mem t))) := by
  unfold zj_cls at h
  simp only [Bool.and_eq_true, decide_eq_true_eq, beq_iff_eq] at h
  refine ⟨h.1, ?_⟩
  rw [zj_w_get g mem h.1]
  unfold zj_cell
  rw [if_neg (by omega), if_neg (by omega), if_neg (by omega), h.2.2]
theorem zj_fc_get {t k : Nat} (h : k < (zj_at t).2.2.length) : (zj_at t).2.2[k]? = some (zj_fc t k) := by
  unfold zj_fc
  rw [List.getD_eq_getElem?_getD, List.getElem?_eq_getElem h]
  rfl
theorem zj_fc_lt {t k c : Nat} (h : zj_fc t k = c) (hc : c ≠ 9999) : k < (zj_at t).2.2.length := by
  rcases Nat.lt_or_ge k (zj_at t).2.2.length with q | q
  · exact q
  · unfold zj_fc at h
    rw [List.getD_eq_getElem?_getD, List.getElem?_eq_none q] at h
    exact absurd h.symm hc
/-- what a rule of a field asks of the tables: class ci is (C, T, N), its words are there, the link is there -/
def zj_fld (own : String) (index ci k : Nat) : Prop := ∃ (C : String) (T : u_T) (N : Nat), vwCl[ci]? = some (C, T, N) ∧ (∀ w ∈ u_ws C T N, w ∈ zj_T) ∧ k < N ∧ Cond.fieldLink own index (T k).1 (T k).2.1 (T k).2.2.1 ∈ zj_T
theorem zr_gf {index ci kx : Nat} (hd : decode cc pc = .ok (.getfield index, 3)) (hw : zj_fld own index ci kx) (hk : zj_KC cc own nL d ret sc (pc + 3) (k)) : zj_KC cc own nL d ret sc (pc) (zi_gf ci kx k) := by
  intro p l e R s m args below meth c A g cells slots Q res mem' hC hF E st mem h H ls locs hP hS hL
  unfold zi_gf at h
  split at h
  · next t r =>
    split at h
    · next hc =>
      obtain ⟨C, T, N, w1, w2, w3, w4⟩ := hw
      obtain ⟨h1, h2⟩ := zj_cls_at (g := g) (mem := mem) hc.1
      refine va_get (D := g.1) (ci := ci) (C := C) (T := T) (N := N) hC.1 hC.2.1 hC.2.2.2.2.1 w2 hC.2.2.2.1 hC.2.2.2.2.2.1 hP t h2 w1 kx w3 (hC.2.2.2.2.1 _ w4) (fun _ h9 => h9) (zj_fl_get g _ 0 kx _ _ (zj_fc_get hc.2)) hd ?_
      rw [Nat.zero_add]
      exact hk p l e R s m args below meth c A g cells slots Q res mem' hC hF E _ mem h H ls locs hP hS hL
    · cases h
  · cases h
/-- .. and for a store: the field isn't final, its type -/
def zj_fldW (own : String) (index ci k : Nat) (ty : FieldType) : Prop := ∃ (C : String) (T : u_T) (N : Nat) (ty0 : Nat → FieldType), vwCl[ci]? = some (C, T, N) ∧ (∀ w ∈ u_ws C T N, w ∈ zj_T) ∧ k < N ∧ Cond.fieldLink own index (T k).1 (T k).2.1 (T k).2.2.1 ∈ zj_T ∧ (∀ k, k < N → parseFieldDescriptor (T k).2.2.1 = some (ty0 k)) ∧ (∀ a, a < N → ∀ b, b < N → a ≠ b → (T a).2.1 ≠ (T b).2.1) ∧ (T k).2.2.2 = false ∧ parseFieldDescriptor (T k).2.2.1 = some ty
theorem zj_w_put (g : zj_G) (mem : zj_M) {t ci k : Nat} (hc : zj_cls t ci = true) (hk : k < (zj_at t).2.2.length) (x : Int32) : (zj_w g mem).set t (zj_ad g t, .inr (ci, (zj_fl g (zj_at t).2.2 0 (mem t)).set k (zj_tr g (zj_fv (zj_fc t k) x)))) = zj_w g (zj_st mem t k x) := by
  rw [zj_fl_set g _ 0 k _ _ x (zj_fc_get hk), ← zj_sr_st, ← zj_w_set]
  unfold zj_cls at hc
  simp only [Bool.and_eq_true, decide_eq_true_eq, beq_iff_eq] at hc
  unfold zj_cell
  rw [if_neg (by omega), if_neg (by omega), if_neg (by omega), hc.2.2]
  simp only [Nat.zero_add]
theorem zr_pf {index ci kx : Nat} (hd : decode cc pc = .ok (.putfield index, 3)) (hw : zj_fldW own index ci kx .int) (hk : zj_KC cc own nL d ret sc (pc + 3) (k)) : zj_KC cc own nL d ret sc (pc) (zi_pf ci kx k) := by
  intro p l e R s m args below meth c A g cells slots Q res mem' hC hF E st mem h H ls locs hP hS hL
  unfold zi_pf at h
  split at h
  · next x t r =>
    split at h
    · next hc =>
      obtain ⟨C, T, N, ty0, w1, w2, w3, w4, w5, w6, w7, w8⟩ := hw
      have hc1 := hc.1
      have hc2 := hc.2
      have hlt := zj_fc_lt hc2 (by decide)
      obtain ⟨h1, h2⟩ := zj_cls_at (g := g) (mem := mem) hc1
      refine va_put (D := g.1) (ci := ci) (v := .int x) (ty := .int) (C := C) (T := T) (N := N) hC.1 hC.2.1 hC.2.2.2.2.1 w2 ty0 w5 w6 hC.2.2.2.1 hC.2.2.2.2.2.1 hP (hC.2.2.2.2.2.2.1 mem) hS t h2 w1 kx w3 (hC.2.2.2.2.1 _ w4) (fun _ h9 => h9) w7 w8 rfl rfl (by rw [zj_fl_len]; exact hlt) hd (fun H1 locs1 hP1 hD1 hS1 => ?_)
      have e9 := zj_w_put g mem hc1 hlt x
      rw [hc2] at e9
      rw [show (.int x : Value) = zj_tr g (zj_fv 0 x) from rfl, e9] at hP1
      exact hk p l e R s m args below meth c A g cells slots Q res mem' hC hF E _ _ h H1 ls locs1 hP1 hS1 hL
    · cases h
  · cases h
theorem zr_pz {index ci kx : Nat} (hd : decode cc pc = .ok (.putfield index, 3)) (hw : zj_fldW own index ci kx .boolean) (hk : zj_KC cc own nL d ret sc (pc + 3) (k)) : zj_KC cc own nL d ret sc (pc) (zi_pz ci kx k) := by
  intro p l e R s m args below meth c A g cells slots Q res mem' hC hF E st mem h H ls locs hP hS hL
  unfold zi_pz at h
  split at h
  · next x t r =>
    split at h
    · next hc =>
      obtain ⟨C, T, N, ty0, w1, w2, w3, w4, w5, w6, w7, w8⟩ := hw
      have hc1 := hc.1.1
      have hc2 := hc.1.2
      have hlt := zj_fc_lt hc2 (by decide)
      obtain ⟨h1, h2⟩ := zj_cls_at (g := g) (mem := mem) hc1
      refine va_put (D := g.1) (ci := ci) (v := .int x) (ty := .boolean) (C := C) (T := T) (N := N) hC.1 hC.2.1 hC.2.2.2.2.1 w2 ty0 w5 w6 hC.2.2.2.1 hC.2.2.2.2.2.1 hP (hC.2.2.2.2.2.2.1 mem) hS t h2 w1 kx w3 (hC.2.2.2.2.1 _ w4) (fun _ h9 => h9) w7 w8 (by rcases hc.2 with q | q <;> rw [q] <;> rfl) (by rcases hc.2 with q | q <;> rw [q] <;> rfl) (by rw [zj_fl_len]; exact hlt) hd (fun H1 locs1 hP1 hD1 hS1 => ?_)
      have e9 := zj_w_put g mem hc1 hlt x
      rw [hc2] at e9
      rw [show (.int x : Value) = zj_tr g (zj_fv 0 x) from rfl, e9] at hP1
      exact hk p l e R s m args below meth c A g cells slots Q res mem' hC hF E _ _ h H1 ls locs1 hP1 hS1 hL
    · cases h
  · cases h
theorem zr_pt {index ci kx : Nat} (hd : decode cc pc = .ok (.putfield index, 3)) (hw : zj_fldW own index ci kx (.object RX5)) (hk : zj_KC cc own nL d ret sc (pc + 3) (k)) : zj_KC cc own nL d ret sc (pc) (zi_pt ci kx k) := by
  intro p l e R s m args below meth c A g cells slots Q res mem' hC hF E st mem h H ls locs hP hS hL
  unfold zi_pt at h
  split at h
  · next u t r =>
    split at h
    · next hc =>
      obtain ⟨C, T, N, ty0, w1, w2, w3, w4, w5, w6, w7, w8⟩ := hw
      have hc1 := hc.1.1
      have hc2 := hc.1.2
      have hlt := zj_fc_lt hc2 (by decide)
      obtain ⟨h1, h2⟩ := zj_cls_at (g := g) (mem := mem) hc1
      refine va_put (D := g.1) (ci := ci) (v := .ref (zj_ad g u)) (ty := (.object RX5)) (C := C) (T := T) (N := N) hC.1 hC.2.1 hC.2.2.2.2.1 w2 ty0 w5 w6 hC.2.2.2.1 hC.2.2.2.2.2.1 hP (hC.2.2.2.2.2.2.1 mem) hS t h2 w1 kx w3 (hC.2.2.2.2.1 _ w4) (fun _ h9 => h9) w7 w8 rfl rfl (by rw [zj_fl_len]; exact hlt) hd (fun H1 locs1 hP1 hD1 hS1 => ?_)
      have e9 := zj_w_put g mem hc1 hlt 1
      rw [hc2] at e9
      rw [show (.ref (zj_ad g u) : Value) = zj_tr g (zj_fv 1 1) from (by rw [hc.2]; rfl), e9] at hP1
      exact hk p l e R s m args below meth c A g cells slots Q res mem' hC hF E _ _ h H1 ls locs1 hP1 hS1 hL
    · cases h
  · cases h
end ZR
