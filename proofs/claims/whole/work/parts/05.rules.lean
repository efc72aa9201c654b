/-! the rules of arrays, calls, switches -/
theorem zj_in_at {g : zj_G} {mem : zj_M} {t kd : Nat} {i : Int32} (h : zj_in t kd i = true) : (t < zj_N ∧ (zj_at t).1 = kd) ∧ vp_in i (zj_at t).2.1 := by
  unfold zj_in at h
  simp only [Bool.and_eq_true, decide_eq_true_eq, beq_iff_eq] at h
  exact ⟨h.1, fun q => by rcases q with q | q; exact h.2.1 q; omega⟩
theorem zj_w_i (g : zj_G) (mem : zj_M) {t : Nat} (h : t < zj_N ∧ (zj_at t).1 = 0) : (zj_w g mem)[t]? = some (zj_ad g t, .inl (g.2.1.1, (zj_at t).2.1, .inl (mem t))) := by
  rw [zj_w_get g mem h.1]
  unfold zj_cell
  rw [if_pos h.2]
theorem zj_w_z (g : zj_G) (mem : zj_M) {t : Nat} (h : t < zj_N ∧ (zj_at t).1 = 1) : (zj_w g mem)[t]? = some (zj_ad g t, .inl (g.2.1.2.1, (zj_at t).2.1, .inl (mem t))) := by
  rw [zj_w_get g mem h.1]
  unfold zj_cell
  rw [if_neg (by omega), if_pos h.2]
theorem zj_w_q (g : zj_G) (mem : zj_M) {t : Nat} (h : t < zj_N ∧ (zj_at t).1 = 2) : (zj_w g mem)[t]? = some (zj_ad g t, .inl (g.2.1.2.2, (zj_at t).2.1, .inr (.inr (.inr (.inr (fun j => some (zj_ad g ((zj_at t).2.2.getD j 0)))))))) := by
  rw [zj_w_get g mem h.1]
  unfold zj_cell
  rw [if_neg (by omega), if_neg (by omega), if_pos h.2]
theorem zj_w_seti (g : zj_G) (mem : zj_M) {t : Nat} (h : t < zj_N ∧ (zj_at t).1 = 0) (f : Nat → Int32) : (zj_w g mem).set t (zj_ad g t, .inl (g.2.1.1, (zj_at t).2.1, .inl f)) = zj_w g (zj_sr mem t f) := by
  rw [← zj_w_set]
  unfold zj_cell
  rw [if_pos h.2]
theorem zj_w_setz (g : zj_G) (mem : zj_M) {t : Nat} (h : t < zj_N ∧ (zj_at t).1 = 1) (f : Nat → Int32) : (zj_w g mem).set t (zj_ad g t, .inl (g.2.1.2.1, (zj_at t).2.1, .inl f)) = zj_w g (zj_sr mem t f) := by
  rw [← zj_w_set]
  unfold zj_cell
  rw [if_neg (by omega), if_pos h.2]
section ZR
variable {cc : ByteArray} {own : String} {nL d : Nat} {ret : Option FieldType} {sc : Nat × (Nat → Int32)} {pc : Nat} {k kt kf : zj_K}
theorem zr_iald (hd : decode cc pc = .ok (.iaload, 1)) (hk : zj_KC cc own nL d ret sc (pc + 1) (k)) : zj_KC cc own nL d ret sc (pc) (zi_iald k) := by
  intro p l e R s m args below meth c A g cells slots Q res mem' hC hF E st mem h H ls locs hP hS hL
  unfold zi_iald at h
  split at h
  · next i t r =>
    split at h
    · next hc =>
      obtain ⟨h1, h2⟩ := zj_in_at (g := g) (mem := mem) hc
      exact va_iald hC.1 hC.2.1 hC.2.2.2.2.2.1 hP t 0 (zj_w_i g mem h1) rfl h2 hd (hk p l e R s m args below meth c A g cells slots Q res mem' hC hF E _ mem h H ls locs hP hS hL)
    · cases h
  · cases h
theorem zr_zald (hd : decode cc pc = .ok (.baload, 1)) (hk : zj_KC cc own nL d ret sc (pc + 1) (k)) : zj_KC cc own nL d ret sc (pc) (zi_zald k) := by
  intro p l e R s m args below meth c A g cells slots Q res mem' hC hF E st mem h H ls locs hP hS hL
  unfold zi_zald at h
  split at h
  · next i t r =>
    split at h
    · next hc =>
      obtain ⟨h1, h2⟩ := zj_in_at (g := g) (mem := mem) hc
      exact va_zald hC.1 hC.2.1 hC.2.2.2.2.2.1 hP t 1 (zj_w_z g mem h1) rfl h2 hd (hk p l e R s m args below meth c A g cells slots Q res mem' hC hF E _ mem h H ls locs hP hS hL)
    · cases h
  · cases h
theorem zr_aald (hd : decode cc pc = .ok (.aaload, 1)) (hk : zj_KC cc own nL d ret sc (pc + 1) (k)) : zj_KC cc own nL d ret sc (pc) (zi_aald k) := by
  intro p l e R s m args below meth c A g cells slots Q res mem' hC hF E st mem h H ls locs hP hS hL
  unfold zi_aald at h
  split at h
  · next i t r =>
    split at h
    · next hc =>
      obtain ⟨h1, h2⟩ := zj_in_at (g := g) (mem := mem) hc
      exact va_aldq hC.1 hC.2.1 hC.2.2.2.2.2.1 hP t 2 (zj_w_q g mem h1) rfl h2 hd (hk p l e R s m args below meth c A g cells slots Q res mem' hC hF E _ mem h H ls locs hP hS hL)
    · cases h
  · cases h
theorem zr_iast (hd : decode cc pc = .ok (.iastore, 1)) (hk : zj_KC cc own nL d ret sc (pc + 1) (k)) : zj_KC cc own nL d ret sc (pc) (zi_iast k) := by
  intro p l e R s m args below meth c A g cells slots Q res mem' hC hF E st mem h H ls locs hP hS hL
  unfold zi_iast at h
  split at h
  · next x i t r =>
    split at h
    · next hc =>
      obtain ⟨h1, h2⟩ := zj_in_at (g := g) (mem := mem) hc
      refine va_iast hC.1 hC.2.1 hC.2.2.2.2.2.1 hP (hC.2.2.2.2.2.2.1 mem) hS t 0 (zj_w_i g mem h1) rfl h2 hd (fun H1 locs1 hP1 hD1 hS1 => ?_)
      rw [zj_w_seti g mem h1, show upd (mem t) i.toNatClampNeg x = fun j => if j = i.toNatClampNeg then x else mem t j from rfl, zj_sr_st] at hP1
      exact hk p l e R s m args below meth c A g cells slots Q res mem' hC hF E _ _ h H1 ls locs1 hP1 hS1 hL
    · cases h
  · cases h
theorem zr_zast (hd : decode cc pc = .ok (.bastore, 1)) (hk : zj_KC cc own nL d ret sc (pc + 1) (k)) : zj_KC cc own nL d ret sc (pc) (zi_zast k) := by
  intro p l e R s m args below meth c A g cells slots Q res mem' hC hF E st mem h H ls locs hP hS hL
  unfold zi_zast at h
  split at h
  · next x i t r =>
    split at h
    · next hc =>
      obtain ⟨h1, h2⟩ := zj_in_at (g := g) (mem := mem) hc.1
      refine va_zast hC.1 hC.2.1 hC.2.2.2.2.2.1 hP (hC.2.2.2.2.2.2.1 mem) hS t 1 (zj_w_z g mem h1) rfl h2 hd (fun H1 locs1 hP1 hD1 hS1 => ?_)
      rw [show vp_nar .boolean x = x from by rcases hc.2 with q | q <;> rw [q] <;> rfl, zj_w_setz g mem h1, show upd (mem t) i.toNatClampNeg x = fun j => if j = i.toNatClampNeg then x else mem t j from rfl, zj_sr_st] at hP1
      exact hk p l e R s m args below meth c A g cells slots Q res mem' hC hF E _ _ h H1 ls locs1 hP1 hS1 hL
    · cases h
  · cases h
theorem zr_alen (hd : decode cc pc = .ok (.arraylength, 1)) (hk : zj_KC cc own nL d ret sc (pc + 1) (k)) : zj_KC cc own nL d ret sc (pc) (zi_alen k) := by
  intro p l e R s m args below meth c A g cells slots Q res mem' hC hF E st mem h H ls locs hP hS hL
  unfold zi_alen at h
  split at h
  · next t r =>
    split at h
    · next hc => exact va_alen hC.1 hC.2.1 hC.2.2.2.2.2.1 hP t 0 (zj_w_i g mem hc) rfl rfl hd (hk p l e R s m args below meth c A g cells slots Q res mem' hC hF E _ mem h H ls locs hP hS hL)
    · cases h
  · cases h
theorem zr_mmin {i : Nat} (hd : decode cc pc = .ok (.invokestatic i, 3)) (hw1 : Cond.methodLink own i Lib.Math.min.name ∈ zj_T) (hw2 : Cond.static Lib.Math.min.name ∈ zj_T) (hw3 : Cond.initialized "java/lang/Math" ∈ zj_T) (hw4 : Cond.code Lib.Math.min.name Lib.Math.min.code 2 (some .int) ∈ zj_T) (h1 : 1 ≤ d) (hk : zj_KC cc own nL d ret sc (pc + 3) (k)) : zj_KC cc own nL d ret sc (pc) (zi_mmin k) := by
  intro p l e R s m args below meth c A g cells slots Q res mem' hC hF E st mem h H ls locs hP hS hL
  unfold zi_mmin at h
  split at h
  · next y x r =>
    split at h
    · next hc =>
      have hts := hC.2.2.2.2.1
      obtain ⟨r1, r2, r3, r4⟩ := hC.2.2.2.2.2.2.2.2.1
      have hwt : ((r.map (zj_tr g)).map fun v => v.category).sum = zj_wt r := by unfold zj_wt; rw [List.map_map]; congr 1; exact List.map_congr_left fun v _ => zj_tr_cat g v
      exact va_mmin hC.1 hC.2.1 (hC.2.2.1.trans hL.1.symm) hC.2.2.2.1 (hts _ hw1) (hts _ hw2) (hts _ hw3) (hts _ hw4) (by omega) (by rw [hwt]; omega) r3 r4 hd (hk p l e R s m args below meth c A g cells slots Q res mem' hC hF E _ mem h H ls locs hP hS hL)
    · cases h
  · cases h
theorem zr_mmax {i : Nat} (hd : decode cc pc = .ok (.invokestatic i, 3)) (hw1 : Cond.methodLink own i Lib.Math.max.name ∈ zj_T) (hw2 : Cond.static Lib.Math.max.name ∈ zj_T) (hw3 : Cond.initialized "java/lang/Math" ∈ zj_T) (hw4 : Cond.code Lib.Math.max.name Lib.Math.max.code 2 (some .int) ∈ zj_T) (h1 : 1 ≤ d) (hk : zj_KC cc own nL d ret sc (pc + 3) (k)) : zj_KC cc own nL d ret sc (pc) (zi_mmax k) := by
  intro p l e R s m args below meth c A g cells slots Q res mem' hC hF E st mem h H ls locs hP hS hL
  unfold zi_mmax at h
  split at h
  · next y x r =>
    split at h
    · next hc =>
      have hts := hC.2.2.2.2.1
      obtain ⟨r1, r2, r3, r4⟩ := hC.2.2.2.2.2.2.2.2.1
      have hwt : ((r.map (zj_tr g)).map fun v => v.category).sum = zj_wt r := by unfold zj_wt; rw [List.map_map]; congr 1; exact List.map_congr_left fun v _ => zj_tr_cat g v
      exact va_mmax hC.1 hC.2.1 (hC.2.2.1.trans hL.1.symm) hC.2.2.2.1 (hts _ hw1) (hts _ hw2) (hts _ hw3) (hts _ hw4) (by omega) (by rw [hwt]; omega) r3 r4 hd (hk p l e R s m args below meth c A g cells slots Q res mem' hC hF E _ mem h H ls locs hP hS hL)
    · cases h
  · cases h
theorem zr_copy {i : Nat} (hd : decode cc pc = .ok (.invokestatic i, 3)) (hw1 : Cond.methodLink own i arraycopyName ∈ zj_T) (hw2 : Cond.native arraycopyName ∈ zj_T) (hw3 : Cond.static arraycopyName ∈ zj_T) (hw4 : Cond.initialized "java/lang/System" ∈ zj_T) (h1 : 1 ≤ d) (hk : zj_KC cc own nL d ret sc (pc + 3) (k)) : zj_KC cc own nL d ret sc (pc) (zi_copy k) := by
  intro p l e R s m args below meth c A g cells slots Q res mem' hC hF E st mem h H ls locs hP hS hL
  unfold zi_copy at h
  split at h
  · next n dp q sp t r =>
    split at h
    · next hc =>
      have hts := hC.2.2.2.2.1
      obtain ⟨r1, r2, r3, r4⟩ := hC.2.2.2.2.2.2.2.2.1
      have hwt : ((r.map (zj_tr g)).map fun v => v.category).sum = zj_wt r := by unfold zj_wt; rw [List.map_map]; congr 1; exact List.map_congr_left fun v _ => zj_tr_cat g v
      obtain ⟨⟨⟨ht, hq⟩, ⟨hz1, hz2⟩, hz3⟩, ⟨hz4, hz5⟩, hz6⟩ := hc
      refine va_copyi hC.1 hC.2.1 (hC.2.2.1.trans hL.1.symm) hC.2.2.2.1 (hts _ hw1) (hts _ hw2) (hts _ hw3) (hts _ hw4) hC.2.2.2.2.2.1 hP (hC.2.2.2.2.2.2.1 mem) hS t q 0 0 (zj_w_i g mem ht) (zj_w_i g mem hq) rfl rfl rfl hz1 hz2 hz3 hz4 hz5 (fun _ _ => rfl) (by omega) (by rw [hwt]; exact Nat.le_trans (Nat.add_le_add_right hz6 _) (Nat.le_trans (by decide +kernel) (Nat.le_trans (Nat.mul_le_mul_left 64 h1) r2))) hd (fun H1 locs1 hP1 hD1 hS1 => ?_)
      rw [zj_w_seti g mem hq] at hP1
      exact hk p l e R s m args below meth c A g cells slots Q res mem' hC hF E _ _ h H1 ls locs1 hP1 hS1 hL
    · cases h
  · cases h
theorem zr_scld {L : Nat} {xs : Nat → Int32} (hsc : sc = (L + 1, xs)) (hd : decode cc pc = .ok (.iaload, 1)) (hk : zj_KC cc own nL d ret sc (pc + 1) (k)) : zj_KC cc own nL d ret sc (pc) (zi_scld L xs k) := by
  intro p l e R s m args below meth c A g cells slots Q res mem' hC hF E st mem h H ls locs hP hS hL
  unfold zi_scld at h
  split at h
  · next i t r =>
    split at h
    · next hc =>
      obtain ⟨rfl, h1, h2⟩ := hc
      subst hsc
      obtain ⟨x1, x2, x3⟩ := hC.2.2.2.2.2.2.2.2.2 (Nat.succ_pos _)
      exact va_sld hC.1 hC.2.1 x1 x2 x3 hS (fun q => by rcases q with q | q; exact h1 q; simp at q; omega) hd (hk p l e R s m args below meth c A g cells slots Q res mem' hC hF E _ mem h H ls locs hP hS hL)
    · cases h
  · cases h
theorem zr_sclen {L : Nat} {xs : Nat → Int32} (hsc : sc = (L + 1, xs)) (hd : decode cc pc = .ok (.arraylength, 1)) (hk : zj_KC cc own nL d ret sc (pc + 1) (k)) : zj_KC cc own nL d ret sc (pc) (zi_sclen L k) := by
  intro p l e R s m args below meth c A g cells slots Q res mem' hC hF E st mem h H ls locs hP hS hL
  unfold zi_sclen at h
  split at h
  · next t r =>
    split at h
    · next hc =>
      subst hc
      subst hsc
      obtain ⟨x1, x2, x3⟩ := hC.2.2.2.2.2.2.2.2.2 (Nat.succ_pos _)
      obtain ⟨scr, y1, y2, y3, y4, y5⟩ := x1
      have y1' : H[zj_ad g 5000]? = some scr := (hS.2.1 _ x2 x3).trans y1
      exact W.alen hC.1 hC.2.1 (n := Int32.ofNat L) y1' y2 (by rw [y4]; rfl) rfl rfl hd (hk p l e R s m args below meth c A g cells slots Q res mem' hC hF E _ mem h H ls locs hP hS hL)
    · cases h
  · cases h
def zj_sw (cc : ByteArray) (own : String) (nL d : Nat) (ret : Option FieldType) (sc : Nat × (Nat → Int32)) : List Nat → List zj_K → Prop
  | [], [] => True
  | q :: qs, k :: ks => zj_KC cc own nL d ret sc q k ∧ zj_sw cc own nL d ret sc qs ks
  | _, _ => False
theorem zj_sw_at {cc : ByteArray} {own : String} {nL d : Nat} {ret : Option FieldType} {sc : Nat × (Nat → Int32)} : ∀ (qs : List Nat) (ks : List zj_K), zj_sw cc own nL d ret sc qs ks → ∀ (j q : Nat) (k : zj_K), qs[j]? = some q → ks[j]? = some k → zj_KC cc own nL d ret sc q k
  | [], [], _, j, q, k, h, _ => by simp at h
  | [], _ :: _, h, _, _, _, _, _ => h.elim
  | _ :: _, [], h, _, _, _, _, _ => h.elim
  | _ :: qs, _ :: ks, h, 0, q, k, h1, h2 => by
    simp at h1 h2
    subst h1; subst h2
    exact h.1
  | _ :: qs, _ :: ks, h, j + 1, q, k, h1, h2 => zj_sw_at qs ks h.2 j q k (by simpa using h1) (by simpa using h2)
theorem zr_tsw {dflt lo hi : Int} {offs : Array Int} {len tgt : Nat} {ks : List zj_K} {kd : zj_K} (hd : decode cc pc = .ok (.tableswitch dflt lo hi offs, len)) (ht : (pc : Int) + dflt = (tgt : Int)) (hkd : zj_KC cc own nL d ret sc (tgt) (kd)) (tg : List Nat) (hn : hi - lo + 1 = ks.length) (hoff : offs = (tg.map (fun (t : Nat) => (t : Int) - (pc : Int))).toArray) (hl : tg.length = ks.length)
    (hks : zj_sw cc own nL d ret sc tg ks) : zj_KC cc own nL d ret sc (pc) (zi_tsw lo ks kd) := by
  intro p l e R s m args below meth c A g cells slots Q res mem' hC hF E st mem h H ls locs hP hS hL
  unfold zi_tsw at h
  split at h
  · next x r =>
    split at h
    · next hlo => exact lv_tableOut hC.1 hC.2.1 hd (Or.inl hlo) ht (hkd p l e R s m args below meth c A g cells slots Q res mem' hC hF E _ mem h H ls locs hP hS hL)
    · next hlo =>
      split at h
      · next k hk =>
        have hj := (List.getElem?_eq_some_iff.mp hk).1
        have hjt : (x.toInt - lo).toNat < tg.length := by rw [hl]; exact hj
        refine lv_tableIn (tgt := tg[(x.toInt - lo).toNat]) hC.1 hC.2.1 hd hlo (by omega) (by rw [hoff, List.getElem?_toArray, List.getElem?_map, List.getElem?_eq_getElem hjt]; rfl) (by dsimp only; omega) ?_
        exact zj_sw_at _ _ hks _ _ _ (List.getElem?_eq_getElem hjt) hk p l e R s m args below meth c A g cells slots Q res mem' hC hF E _ mem h H ls locs hP hS hL
      · next hk =>
        have hj := List.getElem?_eq_none_iff.mp hk
        exact lv_tableOut hC.1 hC.2.1 hd (Or.inr (by omega)) ht (hkd p l e R s m args below meth c A g cells slots Q res mem' hC hF E _ mem h H ls locs hP hS hL)
  · cases h
theorem zr_lsw2 {dflt a1 o1 a2 o2 : Int} {len tgt t1 t2 : Nat} {k1 k2 kd : zj_K} (hd : decode cc pc = .ok (.lookupswitch dflt #[(a1, o1), (a2, o2)], len)) (hp : a1 < a2) (ht : (pc : Int) + dflt = (tgt : Int)) (ht1 : (pc : Int) + o1 = (t1 : Int)) (ht2 : (pc : Int) + o2 = (t2 : Int)) (hkd : zj_KC cc own nL d ret sc (tgt) (kd)) (hk1 : zj_KC cc own nL d ret sc (t1) (k1)) (hk2 : zj_KC cc own nL d ret sc (t2) (k2)) : zj_KC cc own nL d ret sc (pc) (zi_lsw [(a1, k1), (a2, k2)] kd) := by
  intro p l e R s m args below meth c A g cells slots Q res mem' hC hF E st mem h H ls locs hP hS hL
  unfold zi_lsw at h
  split at h
  · next x r =>
    have hz : (#[(a1, o1), (a2, o2)].toList.zip (#[(a1, o1), (a2, o2)].toList.drop 1)).all (fun (a, next) => a.1 < next.1) = true := by simpa using hp
    by_cases e1 : a1 = x.toInt
    · simp only [if_pos e1] at h
      exact lv_lookup hC.1 hC.2.1 hd hz (off := o1) (by simp [Op.lookupswitch.offset, e1]) ht1 (hk1 p l e R s m args below meth c A g cells slots Q res mem' hC hF E _ mem h H ls locs hP hS hL)
    · by_cases e2 : a2 = x.toInt
      · simp only [if_neg e1, if_pos e2] at h
        exact lv_lookup hC.1 hC.2.1 hd hz (off := o2) (by simp [Op.lookupswitch.offset, e1, e2]) ht2 (hk2 p l e R s m args below meth c A g cells slots Q res mem' hC hF E _ mem h H ls locs hP hS hL)
      · simp only [if_neg e1, if_neg e2] at h
        exact lv_lookup hC.1 hC.2.1 hd hz (off := dflt) (by simp [Op.lookupswitch.offset, e1, e2]) ht (hkd p l e R s m args below meth c A g cells slots Q res mem' hC hF E _ mem h H ls locs hP hS hL)
  · cases h
theorem zr_lsw3 {dflt a1 o1 a2 o2 a3 o3 : Int} {len tgt t1 t2 t3 : Nat} {k1 k2 k3 kd : zj_K} (hd : decode cc pc = .ok (.lookupswitch dflt #[(a1, o1), (a2, o2), (a3, o3)], len)) (hp : a1 < a2) (hp2 : a2 < a3) (ht : (pc : Int) + dflt = (tgt : Int)) (ht1 : (pc : Int) + o1 = (t1 : Int)) (ht2 : (pc : Int) + o2 = (t2 : Int)) (ht3 : (pc : Int) + o3 = (t3 : Int)) (hkd : zj_KC cc own nL d ret sc (tgt) (kd)) (hk1 : zj_KC cc own nL d ret sc (t1) (k1)) (hk2 : zj_KC cc own nL d ret sc (t2) (k2)) (hk3 : zj_KC cc own nL d ret sc (t3) (k3)) : zj_KC cc own nL d ret sc (pc) (zi_lsw [(a1, k1), (a2, k2), (a3, k3)] kd) := by
  intro p l e R s m args below meth c A g cells slots Q res mem' hC hF E st mem h H ls locs hP hS hL
  unfold zi_lsw at h
  split at h
  · next x r =>
    have hz : (#[(a1, o1), (a2, o2), (a3, o3)].toList.zip (#[(a1, o1), (a2, o2), (a3, o3)].toList.drop 1)).all (fun (a, next) => a.1 < next.1) = true := by simpa using ⟨hp, hp2⟩
    by_cases e1 : a1 = x.toInt
    · simp only [if_pos e1] at h
      exact lv_lookup hC.1 hC.2.1 hd hz (off := o1) (by simp [Op.lookupswitch.offset, e1]) ht1 (hk1 p l e R s m args below meth c A g cells slots Q res mem' hC hF E _ mem h H ls locs hP hS hL)
    · by_cases e2 : a2 = x.toInt
      · simp only [if_neg e1, if_pos e2] at h
        exact lv_lookup hC.1 hC.2.1 hd hz (off := o2) (by simp [Op.lookupswitch.offset, e1, e2]) ht2 (hk2 p l e R s m args below meth c A g cells slots Q res mem' hC hF E _ mem h H ls locs hP hS hL)
      · by_cases e3 : a3 = x.toInt
        · simp only [if_neg e1, if_neg e2, if_pos e3] at h
          exact lv_lookup hC.1 hC.2.1 hd hz (off := o3) (by simp [Op.lookupswitch.offset, e1, e2, e3]) ht3 (hk3 p l e R s m args below meth c A g cells slots Q res mem' hC hF E _ mem h H ls locs hP hS hL)
        · simp only [if_neg e1, if_neg e2, if_neg e3] at h
          exact lv_lookup hC.1 hC.2.1 hd hz (off := dflt) (by simp [Op.lookupswitch.offset, e1, e2, e3]) ht (hkd p l e R s m args below meth c A g cells slots Q res mem' hC hF E _ mem h H ls locs hP hS hL)
  · cases h
/-- an instanceof: each class of ys can be cast (or is the class), each of ns can't -/
theorem zr_inst {i : Nat} {nm : String} {ys ns : List Nat} (hd : decode cc pc = .ok (.instanceof i, 3)) (hw : Cond.classLink own i nm ∈ zj_T) (hys : ∀ ci ∈ ys, ∃ (C : String) (T : u_T) (N : Nat), vwCl[ci]? = some (C, T, N) ∧ (C = nm ∨ (C, nm) ∈ zj_yc)) (hns : ∀ ci ∈ ns, ∃ (C : String) (T : u_T) (N : Nat), vwCl[ci]? = some (C, T, N) ∧ (C, nm) ∈ zj_nc) (hk : zj_KC cc own nL d ret sc (pc + 3) (k)) : zj_KC cc own nL d ret sc (pc) (zi_inst ys ns k) := by
  intro p l e R s m args below meth c A g cells slots Q res mem' hC hF E st mem h H ls locs hP hS hL
  unfold zi_inst at h
  split at h
  · next t r =>
    split at h
    · next hc =>
      obtain ⟨h1, h2⟩ := zj_cls_at (g := g) (mem := mem) hc
      have hX := hC.2.2.2.2.2.2.2.1.1
      split at h
      · next hy =>
        obtain ⟨C, T, N, q1, q2⟩ := hys _ hy
        have hr := va_recv hC.2.2.2.2.2.1 hP q1 h2
        rcases q2 with q2 | q2
        · subst q2
          exact va_instS hC.1 hC.2.1 hC.2.2.2.1 (hC.2.2.2.2.1 _ hw) (hC.2.2.2.2.2.1.1 _ _ q1).2 hr hd (hk p l e R s m args below meth c A g cells slots Q res mem' hC hF E _ mem h H ls locs hP hS hL)
        · exact va_instY hC.1 hC.2.1 hC.2.2.2.1 (hC.2.2.2.2.1 _ hw) (hX.2.1 _ q2) hr hd (hk p l e R s m args below meth c A g cells slots Q res mem' hC hF E _ mem h H ls locs hP hS hL)
      · split at h
        · next hy =>
          obtain ⟨C, T, N, q1, q2⟩ := hns _ hy
          have hr := va_recv hC.2.2.2.2.2.1 hP q1 h2
          exact va_instNo hC.1 hC.2.1 hC.2.2.2.1 (hC.2.2.2.2.1 _ hw) (hX.1 _ q2) hr hd (hk p l e R s m args below meth c A g cells slots Q res mem' hC hF E _ mem h H ls locs hP hS hL)
        · cases h
    · cases h
  · cases h
end ZR
