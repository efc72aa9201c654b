/-! THE FRAME: a memory of numbers under tags, a method as a function over it, and what it means that the machine does as the function says -/
abbrev zj_M : Type := Nat → Nat → Int32
abbrev zj_G : Type := va_G × (ClassId × ClassId × ClassId) × (Nat → Nat)
abbrev zj_R : Type := Option (List Value × zj_M)
abbrev zj_E : Type := List (Option Value)
abbrev zj_K : Type := zj_E → List Value → zj_M → zj_R
abbrev zj_F : Type := List Value → zj_M → zj_R
def zj_ad (g : zj_G) : Nat → Nat := g.2.2
def zj_tr (g : zj_G) (v : Value) : Value := match v with
  | .ref t => .ref (zj_ad g t)
  | v => v
def zj_at (t : Nat) : Nat × Nat × List Nat := zj_lay.getD t (9, 0, [])
/-- what a slot of an object is, by its code: 0 a number; 1 null or the tape; 2 + t the cell t -/
def zj_fv (c : Nat) (x : Int32) : Value := if c = 0 then .int x else if c = 1 then (if x = 0 then .null else .ref 37) else .ref (c - 2)
def zj_fl (g : zj_G) : List Nat → Nat → (Nat → Int32) → List Value
  | [], _, _ => []
  | c :: cs, k, f => zj_tr g (zj_fv c (f k)) :: zj_fl g cs (k + 1) f
def zj_cell (g : zj_G) (e : Nat × Nat × List Nat) (f : Nat → Int32) : va_E :=
  if e.1 = 0 then .inl (g.2.1.1, e.2.1, .inl f)
  else if e.1 = 1 then .inl (g.2.1.2.1, e.2.1, .inl f)
  else if e.1 = 2 then .inl (g.2.1.2.2, e.2.1, .inr (.inr (.inr (.inr (fun j => some (zj_ad g (e.2.2.getD j 0)))))))
  else .inr (e.2.1, zj_fl g e.2.2 0 f)
def zj_w (g : zj_G) (m : zj_M) : va_W := (List.range zj_N).map (fun t => (zj_ad g t, zj_cell g (zj_at t) (m t)))
def zj_tys (g : zj_G) : List (ClassId × FieldType) := [(g.2.1.1, .int), (g.2.1.2.1, .boolean), (g.2.1.2.2, .object RX9)]
def zj_A (g : zj_G) : Nat → Prop := fun q => ∃ t, t < zj_N ∧ q = zj_ad g t
def zj_st (m : zj_M) (t k : Nat) (x : Int32) : zj_M := fun u j => if u = t then (if j = k then x else m u j) else m u j
def zj_sr (m : zj_M) (t : Nat) (f : Nat → Int32) : zj_M := fun u => if u = t then f else m u
theorem zj_w_get (g : zj_G) (m : zj_M) {t : Nat} (h : t < zj_N) : (zj_w g m)[t]? = some (zj_ad g t, zj_cell g (zj_at t) (m t)) := by
  unfold zj_w
  rw [List.getElem?_map, List.getElem?_range h]
  rfl
theorem zj_w_set (g : zj_G) (m : zj_M) {t : Nat} (f : Nat → Int32) : (zj_w g m).set t (zj_ad g t, zj_cell g (zj_at t) f) = zj_w g (zj_sr m t f) := by
  apply List.ext_getElem?
  intro i
  by_cases hi : i < zj_N
  · rw [zj_w_get g _ hi]
    by_cases e : t = i
    · subst e
      rw [List.getElem?_set_self (by unfold zj_w; simpa using hi)]
      simp [zj_sr]
    · rw [List.getElem?_set_ne e, zj_w_get g _ hi]
      simp [zj_sr, Ne.symm e]
  · have hl : ∀ m, (zj_w g m).length = zj_N := fun m => by simp [zj_w]
    rw [List.getElem?_eq_none (by simp [hl]; omega), List.getElem?_eq_none (by simp [hl]; omega)]
theorem zj_sr_st (m : zj_M) (t k : Nat) (x : Int32) : zj_sr m t (fun j => if j = k then x else m t j) = zj_st m t k x := by
  funext u j
  unfold zj_sr zj_st
  by_cases h : u = t
  · subst h; simp
  · simp [h]
theorem zj_fl_get (g : zj_G) : ∀ (cs : List Nat) (b k : Nat) (f : Nat → Int32) (c : Nat), cs[k]? = some c → (zj_fl g cs b f)[k]? = some (zj_tr g (zj_fv c (f (b + k))))
  | [], _, _, _, _, h => by simp at h
  | _ :: _, b, 0, f, c, h => by simp at h; subst h; rfl
  | _ :: cs, b, k + 1, f, c, h => by
    rw [List.getElem?_cons_succ] at h
    have := zj_fl_get g cs (b + 1) k f c h
    rw [show b + (k + 1) = b + 1 + k by omega]
    exact this
theorem zj_fl_len (g : zj_G) : ∀ (cs : List Nat) (b : Nat) (f : Nat → Int32), (zj_fl g cs b f).length = cs.length
  | [], _, _ => rfl
  | _ :: cs, b, f => by simp [zj_fl, zj_fl_len g cs (b + 1) f]
theorem zj_fl_same (g : zj_G) : ∀ (cs : List Nat) (b k : Nat) (f : Nat → Int32) (x : Int32), k < b → zj_fl g cs b (fun j => if j = k then x else f j) = zj_fl g cs b f
  | [], _, _, _, _, _ => rfl
  | c :: cs, b, k, f, x, h => by
    have e : ¬ b = k := by omega
    simp only [zj_fl, if_neg e]
    rw [zj_fl_same g cs (b + 1) k f x (by omega)]
theorem zj_fl_set (g : zj_G) : ∀ (cs : List Nat) (b k : Nat) (f : Nat → Int32) (c : Nat) (x : Int32), cs[k]? = some c → (zj_fl g cs b f).set k (zj_tr g (zj_fv c x)) = zj_fl g cs b (fun j => if j = b + k then x else f j)
  | [], _, _, _, _, _, h => by simp at h
  | _ :: cs, b, 0, f, c, x, h => by
    simp at h; subst h
    simp only [zj_fl, List.set_cons_zero, Nat.add_zero, if_true]
    rw [zj_fl_same g cs (b + 1) b f x (by omega)]
  | c0 :: cs, b, k + 1, f, c, x, h => by
    rw [List.getElem?_cons_succ] at h
    have e : ¬ b = b + (k + 1) := by omega
    simp only [zj_fl, List.set_cons_succ, if_neg e]
    rw [zj_fl_set g cs (b + 1) k f c x h, show b + 1 + k = b + (k + 1) by omega]
/-- extra facts: what the tables say is not castable; the String constants -/
def zj_S (g : zj_G) (A : Nat → Prop) (U : State) (H : Heap) : Prop := ∀ i : Nat, i < 10 → va_O "java/lang/String" (zj_ad g (1000 + i)) A U H ∧ va_OF "java/lang/String" "coder" "B" (.int 0) (zj_ad g (1000 + i)) A U H ∧ va_OF "java/lang/String" "value" "[B" (.ref (zj_ad g (2000 + i))) (zj_ad g (1000 + i)) A U H ∧ va_T .byte (zj_ad g (2000 + i)) (zj_len.getD i 0) (fun j => .int ((zj_byt.getD i []).getD j 0)) A U H
theorem zj_S.moved {g : zj_G} {A : Nat → Prop} {u U : State} {H : Heap} (hvm : u.vm.Alike U.vm) (h : zj_S g A u H) : zj_S g A U H := fun i hi => ⟨va_O.moved hvm (h i hi).1, va_OF.moved hvm (h i hi).2.1, va_OF.moved hvm (h i hi).2.2.1, va_T.moved hvm (h i hi).2.2.2⟩
theorem zj_S.kept {g : zj_G} {A : Nat → Prop} {U : State} {H H1 : Heap} (h : zj_S g A U H) (hq : ∀ a : Nat, a < H.size → ¬ A a → H1[a]? = H[a]?) : zj_S g A U H1 := fun i hi => ⟨(h i hi).1.kept hq, (h i hi).2.1.kept hq, (h i hi).2.2.1.kept hq, (h i hi).2.2.2.kept hq⟩
theorem zj_S.narrow {g : zj_G} {A B : Nat → Prop} {U : State} {H : Heap} (h : zj_S g A U H) (hAB : ∀ q, B q → A q) : zj_S g B U H := fun i hi => ⟨(h i hi).1.narrow hAB, (h i hi).2.1.narrow hAB, (h i hi).2.2.1.narrow hAB, (h i hi).2.2.2.narrow hAB⟩
def zj_X (g : zj_G) (A : Nat → Prop) (U : State) (H : Heap) : Prop := ((∀ q ∈ zj_nc, va_Nc q.1 q.2 U) ∧ (∀ q ∈ zj_yc, va_Nw (.castable q.1 q.2) U) ∧ va_Nw (.methodLinkNest RX2 133 yX11_bit RX11) U) ∧ (∀ q ∈ zj_ks, vk_R q.1 q.2.1 q.2.2.1 (zj_ad g q.2.2.2) U) ∧ zj_S g A U H ∧ va_Z "java/lang/String" "COMPACT_STRINGS" "Z" (.int 1) A U H ∧ (va_Z "jdk/internal/util/Preconditions" "SIOOBE_FORMATTER" "Ljava/util/function/BiFunction;" .null A U H ∨ va_Z "jdk/internal/util/Preconditions" "SIOOBE_FORMATTER" "Ljava/util/function/BiFunction;" (.ref (zj_ad g 6000)) A U H)
theorem zj_X.moved {g : zj_G} {A : Nat → Prop} {u U : State} {H : Heap} (hv : u.WarmedH U.vm) (h : zj_X g A u H) : zj_X g A U H :=
  ⟨⟨fun q hq => (h.1.1 q hq).moved hv.alike, fun q hq => va_Nw.warmC hv (h.1.2.1 q hq), va_Nw.warmM hv h.1.2.2⟩, fun q hq => (h.2.1 q hq).warm hv, h.2.2.1.moved hv.alike, va_Z.moved hv.alike h.2.2.2.1, h.2.2.2.2.imp (fun q => va_Z.moved hv.alike q) (fun q => va_Z.moved hv.alike q)⟩
theorem zj_X.kept {g : zj_G} {A : Nat → Prop} {U : State} {H H1 : Heap} (h : zj_X g A U H) (hq : ∀ a : Nat, a < H.size → ¬ A a → H1[a]? = H[a]?) : zj_X g A U H1 := ⟨h.1, h.2.1, h.2.2.1.kept hq, h.2.2.2.1.kept hq, h.2.2.2.2.imp (fun q => q.kept hq) (fun q => q.kept hq)⟩
theorem zj_X.narrow {g : zj_G} {A B : Nat → Prop} {U : State} {H : Heap} (h : zj_X g A U H) (hAB : ∀ q, B q → A q) : zj_X g B U H := ⟨h.1, h.2.1, h.2.2.1.narrow hAB, h.2.2.2.1.narrow hAB, h.2.2.2.2.imp (fun q => q.narrow hAB) (fun q => q.narrow hAB)⟩
def zj_PW (g : zj_G) (mem : zj_M) (U : State) : Prop := va_P g.1 vwCl (zj_w g mem) U.heap ∧ va_K g.1 vwCl (zj_tys g) U ∧ va_D (zj_A g) (zj_w g mem) ∧ zj_X g (zj_A g) U U.heap
def zj_Qc (g : zj_G) (res : List Value) (mem : zj_M) : Array Value → State → Outcome → State → Prop := fun _ st oc t => (oc = .returned (res.map (zj_tr g)).head? ∧ va_P g.1 vwCl (zj_w g mem) t.heap) ∧ va_F (zj_A g) st t
def zj_rm (d : Nat) : Room := { frames := d, cells := 0, slots := 0, locals := 64 * d }
/-- the method y does as the function mf says, at most d calls deep -/
def zj_MS (d : Nat) (y : MethodName) (cc : ByteArray) (nL : Nat) (ret : Option FieldType) (mf : zj_F) : Prop :=
  ∀ (l : Launch) (g : zj_G) (as : List Value) (mem : zj_M) (res : List Value) (mem' : zj_M), mf as mem = some (res, mem') →
    Met l y (.code y cc nL ret :: zj_T) (zj_rm d) (va_Pc (as.map (zj_tr g)) (zj_PW g mem)) (zj_Qc g res mem') 0 0 (zj_A g)
def zj_has (g : zj_G) (ls : Array Slot) (nL : Nat) (E : zj_E) : Prop := ls.size = nL ∧ E.length = nL ∧ lv_wf ls ∧ ∀ (i : Nat) (v : Value), E.getD i none = some v → ls[i]? = some (.val (zj_tr g v))
def zj_wt (st : List Value) : Nat := (st.map fun v => v.category).sum
def zj_rok : Option FieldType → List Value → Bool
  | none, [] => true
  | some .int, [.int _] => true
  | some .boolean, [.int x] => x == 0 || x == 1
  | some .long, [.long _] => true
  | some .char, [.int x] => x.toUInt32.toUInt16.toUInt32.toInt32 == x
  | some .byte, [.int x] => x.toInt8.toInt32 == x
  | some (.object _), [.ref _] => true
  | _, _ => false
def zj_retop : Option FieldType → Instr
  | none => .return_
  | some .int => .ireturn
  | some .boolean => .ireturn
  | some .long => .lreturn
  | some .char => .ireturn
  | some .byte => .ireturn
  | some _ => .areturn
def zj_AT (p : Program) (l : Launch) (e : Env) (R : Room) (s : State) (m : MethodId) (args : Array Value) (below : List Frame) (meth : Method) (c : Code) (A : Nat → Prop) (g : zj_G) (cells slots : Nat) (Q : State → Prop) (nL : Nat) (pc : Nat) (E : zj_E) (st : List Value) (mem : zj_M) : Prop :=
  ∀ (H : Heap) (ls : Array Slot) (locs : List Loc), va_P g.1 vwCl (zj_w g mem) H → va_S A s.heap H locs → zj_has g ls nL E → W p l e R s m args below meth c H locs cells slots Q (F0 m pc ls (st.map (zj_tr g)))
def zj_CX (p : Program) (R : Room) (s : State) (m : MethodId) (args : Array Value) (c : Code) (A : Nat → Prop) (g : zj_G) (cells slots : Nat) (cc : ByteArray) (own : String) (nL d : Nat) (sc : Nat × (Nat → Int32)) : Prop :=
  p.tables.exec = Jvm.exec ∧ c.code = cc ∧ c.maxLocals = nL ∧ s.vm.findClass own = some m.cls ∧ (∀ w ∈ zj_T, w.before args s = true) ∧ va_K g.1 vwCl (zj_tys g) s ∧ (∀ mem, va_D A (zj_w g mem)) ∧ zj_X g A s s.heap ∧ (d ≤ R.frames ∧ 64 * d ≤ R.locals ∧ cells ≤ R.cells ∧ slots ≤ R.slots) ∧ (0 < sc.1 → va_X (zj_ad g 5000) (sc.1 - 1) sc.2 s s.heap ∧ zj_ad g 5000 < s.heap.size ∧ ¬ A (zj_ad g 5000))
def zj_FI (p : Program) (l : Launch) (e : Env) (R : Room) (s : State) (m : MethodId) (args : Array Value) (below : List Frame) (meth : Method) (c : Code) (A : Nat → Prop) (g : zj_G) (cells slots : Nat) (Q : State → Prop) (cc : ByteArray) (nL : Nat) (ret : Option FieldType) (res : List Value) (mem : zj_M) : Prop :=
  zj_rok ret res = true → ∀ (pc : Nat) (H : Heap) (ls : Array Slot) (locs : List Loc), va_P g.1 vwCl (zj_w g mem) H → va_S A s.heap H locs → decode cc pc = .ok (zj_retop ret, 1) → W p l e R s m args below meth c H locs cells slots Q (F0 m pc ls (res.map (zj_tr g)))
/-- from the place a on, the machine does as the function k says -/
def zj_KC (cc : ByteArray) (own : String) (nL d : Nat) (ret : Option FieldType) (sc : Nat × (Nat → Int32)) (a : Nat) (k : zj_K) : Prop :=
  ∀ (p : Program) (l : Launch) (e : Env) (R : Room) (s : State) (m : MethodId) (args : Array Value) (below : List Frame) (meth : Method) (c : Code) (A : Nat → Prop) (g : zj_G) (cells slots : Nat) (Q : State → Prop) (res : List Value) (mem' : zj_M),
    zj_CX p R s m args c A g cells slots cc own nL d sc → zj_FI p l e R s m args below meth c A g cells slots Q cc nL ret res mem' → ∀ (E : zj_E) (st : List Value) (mem : zj_M), k E st mem = some (res, mem') → zj_AT p l e R s m args below meth c A g cells slots Q nL a E st mem
/-! the instructions, as functions -/
def zi_push (v : Value) (k : zj_K) (E : zj_E) (st : List Value) (m : zj_M) : zj_R := k E (v :: st) m
def zi_ild (i : Nat) (k : zj_K) (E : zj_E) (st : List Value) (m : zj_M) : zj_R := match E.getD i none with
  | some (.int x) => k E (.int x :: st) m
  | _ => none
def zi_lld (i : Nat) (k : zj_K) (E : zj_E) (st : List Value) (m : zj_M) : zj_R := match E.getD i none with
  | some (.long x) => k E (.long x :: st) m
  | _ => none
def zi_ald (i : Nat) (k : zj_K) (E : zj_E) (st : List Value) (m : zj_M) : zj_R := match E.getD i none with
  | some (.ref x) => k E (.ref x :: st) m
  | _ => none
def zj_isL : Option Value → Bool
  | some (.int _) => false
  | some (.ref _) => false
  | none => false
  | _ => true
def zj_sok (E : zj_E) (i : Nat) : Bool := decide (i < E.length) && (i == 0 || !zj_isL (E.getD (i - 1) none))
def zi_ist (i : Nat) (k : zj_K) (E : zj_E) (st : List Value) (m : zj_M) : zj_R := match st with
  | .int x :: r => if zj_sok E i = true then k (E.set i (some (.int x))) r m else none
  | _ => none
def zi_ast (i : Nat) (k : zj_K) (E : zj_E) (st : List Value) (m : zj_M) : zj_R := match st with
  | .ref x :: r => if zj_sok E i = true then k (E.set i (some (.ref x))) r m else none
  | _ => none
def zi_lst (i : Nat) (k : zj_K) (E : zj_E) (st : List Value) (m : zj_M) : zj_R := match st with
  | .long x :: r => if zj_sok E i = true ∧ i + 1 < E.length then k ((E.set i (some (.long x))).set (i + 1) none) r m else none
  | _ => none
def zi_inc (i : Nat) (n : Int32) (k : zj_K) (E : zj_E) (st : List Value) (m : zj_M) : zj_R := match E.getD i none with
  | some (.int x) => if zj_sok E i = true then k (E.set i (some (.int (x + n)))) st m else none
  | _ => none
def zi_b (f : Int32 → Int32 → Int32) (k : zj_K) (E : zj_E) (st : List Value) (m : zj_M) : zj_R := match st with
  | .int y :: .int x :: r => k E (.int (f x y) :: r) m
  | _ => none
def zi_bd (f : Int32 → Int32 → Int32) (k : zj_K) (E : zj_E) (st : List Value) (m : zj_M) : zj_R := match st with
  | .int y :: .int x :: r => if y = 0 then none else k E (.int (f x y) :: r) m
  | _ => none
def zi_u (f : Int32 → Int32) (k : zj_K) (E : zj_E) (st : List Value) (m : zj_M) : zj_R := match st with
  | .int x :: r => k E (.int (f x) :: r) m
  | _ => none
def zi_i2l (k : zj_K) (E : zj_E) (st : List Value) (m : zj_M) : zj_R := match st with
  | .int x :: r => k E (.long x.toInt64 :: r) m
  | _ => none
def zi_lb (f : Int64 → Int64 → Int64) (k : zj_K) (E : zj_E) (st : List Value) (m : zj_M) : zj_R := match st with
  | .long y :: .long x :: r => k E (.long (f x y) :: r) m
  | _ => none
def zi_lbd (f : Int64 → Int64 → Int64) (k : zj_K) (E : zj_E) (st : List Value) (m : zj_M) : zj_R := match st with
  | .long y :: .long x :: r => if y = 0 then none else k E (.long (f x y) :: r) m
  | _ => none
def zi_lu (f : Int64 → Int64) (k : zj_K) (E : zj_E) (st : List Value) (m : zj_M) : zj_R := match st with
  | .long x :: r => k E (.long (f x) :: r) m
  | _ => none
def zi_lcmp (k : zj_K) (E : zj_E) (st : List Value) (m : zj_M) : zj_R := match st with
  | .long y :: .long x :: r => k E (.int (lg_cmp x y) :: r) m
  | _ => none
def zi_dup (k : zj_K) (E : zj_E) (st : List Value) (m : zj_M) : zj_R := match st with
  | .int x :: r => k E (.int x :: .int x :: r) m
  | .ref x :: r => k E (.ref x :: .ref x :: r) m
  | _ => none
def zi_dup2 (k : zj_K) (E : zj_E) (st : List Value) (m : zj_M) : zj_R := match st with
  | .int y :: .ref x :: r => k E (.int y :: .ref x :: .int y :: .ref x :: r) m
  | _ => none
def zi_eq (kt kf : zj_K) (E : zj_E) (st : List Value) (m : zj_M) : zj_R := match st with
  | .int x :: r => if x = 0 then kt E r m else kf E r m
  | _ => none
def zi_lt (kt kf : zj_K) (E : zj_E) (st : List Value) (m : zj_M) : zj_R := match st with
  | .int x :: r => if x < 0 then kt E r m else kf E r m
  | _ => none
def zi_le (kt kf : zj_K) (E : zj_E) (st : List Value) (m : zj_M) : zj_R := match st with
  | .int x :: r => if x ≤ 0 then kt E r m else kf E r m
  | _ => none
def zi_ceq (kt kf : zj_K) (E : zj_E) (st : List Value) (m : zj_M) : zj_R := match st with
  | .int y :: .int x :: r => if x = y then kt E r m else kf E r m
  | _ => none
def zi_clt (kt kf : zj_K) (E : zj_E) (st : List Value) (m : zj_M) : zj_R := match st with
  | .int y :: .int x :: r => if x < y then kt E r m else kf E r m
  | _ => none
def zi_cle (kt kf : zj_K) (E : zj_E) (st : List Value) (m : zj_M) : zj_R := match st with
  | .int y :: .int x :: r => if x ≤ y then kt E r m else kf E r m
  | _ => none
def zi_pop (k : zj_K) (E : zj_E) (st : List Value) (m : zj_M) : zj_R := match st with
  | .int _ :: r => k E r m
  | _ => none
def zj_cls (t ci : Nat) : Bool := decide (t < zj_N) && ((zj_at t).1 == 3 && (zj_at t).2.1 == ci)
def zj_fc (t k : Nat) : Nat := (zj_at t).2.2.getD k 9999
def zi_gf (ci k : Nat) (kk : zj_K) (E : zj_E) (st : List Value) (m : zj_M) : zj_R := match st with
  | .ref t :: r => if zj_cls t ci = true ∧ k < (zj_at t).2.2.length then kk E (zj_fv (zj_fc t k) (m t k) :: r) m else none
  | _ => none
def zi_pf (ci k : Nat) (kk : zj_K) (E : zj_E) (st : List Value) (m : zj_M) : zj_R := match st with
  | .int x :: .ref t :: r => if zj_cls t ci = true ∧ zj_fc t k = 0 then kk E r (zj_st m t k x) else none
  | _ => none
def zi_pz (ci k : Nat) (kk : zj_K) (E : zj_E) (st : List Value) (m : zj_M) : zj_R := match st with
  | .int x :: .ref t :: r => if (zj_cls t ci = true ∧ zj_fc t k = 0) ∧ (x = 0 ∨ x = 1) then kk E r (zj_st m t k x) else none
  | _ => none
def zi_pt (ci k : Nat) (kk : zj_K) (E : zj_E) (st : List Value) (m : zj_M) : zj_R := match st with
  | .ref u :: .ref t :: r => if (zj_cls t ci = true ∧ zj_fc t k = 1) ∧ u = 37 then kk E r (zj_st m t k 1) else none
  | _ => none
def zj_in (t kd : Nat) (i : Int32) : Bool := (decide (t < zj_N) && (zj_at t).1 == kd) && (decide (¬ i < 0) && decide (i.toNatClampNeg < (zj_at t).2.1))
def zi_iald (kk : zj_K) (E : zj_E) (st : List Value) (m : zj_M) : zj_R := match st with
  | .int i :: .ref t :: r => if zj_in t 0 i = true then kk E (.int (m t i.toNatClampNeg) :: r) m else none
  | _ => none
def zi_zald (kk : zj_K) (E : zj_E) (st : List Value) (m : zj_M) : zj_R := match st with
  | .int i :: .ref t :: r => if zj_in t 1 i = true then kk E (.int (m t i.toNatClampNeg) :: r) m else none
  | _ => none
def zi_aald (kk : zj_K) (E : zj_E) (st : List Value) (m : zj_M) : zj_R := match st with
  | .int i :: .ref t :: r => if zj_in t 2 i = true then kk E (.ref ((zj_at t).2.2.getD i.toNatClampNeg 0) :: r) m else none
  | _ => none
def zi_iast (kk : zj_K) (E : zj_E) (st : List Value) (m : zj_M) : zj_R := match st with
  | .int x :: .int i :: .ref t :: r => if zj_in t 0 i = true then kk E r (zj_st m t i.toNatClampNeg x) else none
  | _ => none
def zi_zast (kk : zj_K) (E : zj_E) (st : List Value) (m : zj_M) : zj_R := match st with
  | .int x :: .int i :: .ref t :: r => if zj_in t 1 i = true ∧ (x = 0 ∨ x = 1) then kk E r (zj_st m t i.toNatClampNeg x) else none
  | _ => none
def zi_alen (kk : zj_K) (E : zj_E) (st : List Value) (m : zj_M) : zj_R := match st with
  | .ref t :: r => if t < zj_N ∧ (zj_at t).1 = 0 then kk E (.int (Int32.ofNat (zj_at t).2.1) :: r) m else none
  | _ => none
def zi_inst (ys ns : List Nat) (kk : zj_K) (E : zj_E) (st : List Value) (m : zj_M) : zj_R := match st with
  | .ref t :: r => if zj_cls t (zj_at t).2.1 = true then (if (zj_at t).2.1 ∈ ys then kk E (.int 1 :: r) m else if (zj_at t).2.1 ∈ ns then kk E (.int 0 :: r) m else none) else none
  | _ => none
/-- a call of a method that is known: n values are taken -/
def zi_call (n : Nat) (mf : zj_F) (k : zj_K) (E : zj_E) (st : List Value) (m : zj_M) : zj_R := if n ≤ st.length ∧ zj_wt (st.drop n) ≤ 8 then
    match mf (st.take n).reverse m with
    | some ([], m') => k E (st.drop n) m'
    | some ([v], m') => k E (v :: st.drop n) m'
    | _ => none
  else none
/-- a call on a receiver of the class ci; of another class: k2 -/
def zi_vc (ci n : Nat) (mf : zj_F) (kk k2 : zj_K) (E : zj_E) (st : List Value) (m : zj_M) : zj_R := match (st.drop n).head? with
  | some (.ref t) => if zj_cls t ci = true then zi_call (n + 1) mf kk E st m else k2 E st m
  | _ => none
def zi_no (_ : zj_E) (_ : List Value) (_ : zj_M) : zj_R := none
def zi_mmin (kk : zj_K) (E : zj_E) (st : List Value) (m : zj_M) : zj_R := match st with
  | .int y :: .int x :: r => if zj_wt r ≤ 8 then kk E (.int (if y < x then y else x) :: r) m else none
  | _ => none
def zi_mmax (kk : zj_K) (E : zj_E) (st : List Value) (m : zj_M) : zj_R := match st with
  | .int y :: .int x :: r => if zj_wt r ≤ 8 then kk E (.int (if x < y then y else x) :: r) m else none
  | _ => none
def zi_copy (kk : zj_K) (E : zj_E) (st : List Value) (m : zj_M) : zj_R := match st with
  | .int n :: .int dp :: .ref d :: .int sp :: .ref t :: r => if (((t < zj_N ∧ (zj_at t).1 = 0) ∧ (d < zj_N ∧ (zj_at d).1 = 0)) ∧ ((¬ sp < 0 ∧ ¬ dp < 0) ∧ ¬ n < 0)) ∧ ((sp.toNatClampNeg + n.toNatClampNeg ≤ (zj_at t).2.1 ∧ dp.toNatClampNeg + n.toNatClampNeg ≤ (zj_at d).2.1) ∧ zj_wt r ≤ 8) then kk E r (zj_sr m d (va_cpy (m t) (m d) sp.toNatClampNeg dp.toNatClampNeg n.toNatClampNeg)) else none
  | _ => none
def zi_ret (ret : Option FieldType) (_ : zj_E) (st : List Value) (m : zj_M) : zj_R := if zj_rok ret st = true then some (st, m) else none
def zi_scld (L : Nat) (xs : Nat → Int32) (kk : zj_K) (E : zj_E) (st : List Value) (m : zj_M) : zj_R := match st with
  | .int i :: .ref t :: r => if t = 5000 ∧ (¬ i < 0 ∧ i.toNatClampNeg < L) then kk E (.int (xs i.toNatClampNeg) :: r) m else none
  | _ => none
def zi_sclen (L : Nat) (kk : zj_K) (E : zj_E) (st : List Value) (m : zj_M) : zj_R := match st with
  | .ref t :: r => if t = 5000 then kk E (.int (Int32.ofNat L) :: r) m else none
  | _ => none
def zi_tsw (lo : Int) (ks : List zj_K) (kd : zj_K) (E : zj_E) (st : List Value) (m : zj_M) : zj_R := match st with
  | .int x :: r => if x.toInt < lo then kd E r m else match ks[(x.toInt - lo).toNat]? with
    | some k => k E r m
    | none => kd E r m
  | _ => none
def zi_lsw (ks : List (Int × zj_K)) (kd : zj_K) (E : zj_E) (st : List Value) (m : zj_M) : zj_R := match st with
  | .int x :: r => match ks with
    | [(a1, k1), (a2, k2)] => if a1 = x.toInt then k1 E r m else if a2 = x.toInt then k2 E r m else kd E r m
    | [(a1, k1), (a2, k2), (a3, k3)] => if a1 = x.toInt then k1 E r m else if a2 = x.toInt then k2 E r m else if a3 = x.toInt then k3 E r m else kd E r m
    | _ => none
  | _ => none
/-- a loop: what comes back to its head goes on with one turn less -/
def zj_lp (F : zj_K → zj_K) : Nat → zj_K
  | 0 => zi_no
  | n + 1 => F (zj_lp F n)
def zj_fu : Nat := 5000
def zj_rec (B : (Nat → zj_F) → Nat → zj_F) : Nat → Nat → zj_F
  | 0, _ => fun _ _ => none
  | n + 1, i => B (zj_rec B n) i
def zj_e0 : List Value → zj_E
  | [] => []
  | .long x :: vs => some (.long x) :: none :: zj_e0 vs
  | .double x :: vs => some (.double x) :: none :: zj_e0 vs
  | v :: vs => some v :: zj_e0 vs
def zj_E0 (nL : Nat) (as : List Value) : zj_E := zj_e0 as ++ List.replicate (nL - (zj_e0 as).length) none
def zj_run (nL : Nat) (k : zj_K) (as : List Value) (m : zj_M) : zj_R := if (zj_e0 as).length ≤ nL then k (zj_E0 nL as) [] m else none
def zi_gfA (cis : List Nat) (k : Nat) (kk : zj_K) (E : zj_E) (st : List Value) (m : zj_M) : zj_R := match st with
  | .ref t :: r => if (zj_cls t (zj_at t).2.1 = true ∧ (zj_at t).2.1 ∈ cis) ∧ k < (zj_at t).2.2.length then kk E (zj_fv (zj_fc t k) (m t k) :: r) m else none
  | _ => none
def zj_isS (t : Nat) : Bool := decide (1000 ≤ t) && decide (t < 1010)
theorem zj_isS_of {t : Nat} (h : zj_isS t = true) : t - 1000 < 10 ∧ 1000 + (t - 1000) = t := by
  unfold zj_isS at h
  simp only [Bool.and_eq_true, decide_eq_true_eq] at h
  omega
def zi_sc (n : Nat) (mf : zj_F) (k : zj_K) (E : zj_E) (st : List Value) (m : zj_M) : zj_R := match (st.drop n).head? with
  | some (.ref t) => if zj_isS t = true then zi_call (n + 1) mf k E st m else none
  | _ => none
