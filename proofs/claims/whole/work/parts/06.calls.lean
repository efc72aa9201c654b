/-! calls -/
theorem zj_X.same {g : zj_G} {A : Nat → Prop} {u U : State} {H : Heap} (hv : U.vm = u.vm) (h : zj_X g A u H) : zj_X g A U H :=
  ⟨⟨fun q hq => (h.1.1 q hq).moved (by rw [hv]; exact Vm.Alike.refl _), fun q hq => va_Nw.same rfl hv.symm (h.1.2.1 q hq), va_Nw.same rfl hv.symm h.1.2.2⟩, fun q hq => (h.2.1 q hq).same hv, h.2.2.1.moved (by rw [hv]; exact Vm.Alike.refl _), va_Z.moved (by rw [hv]; exact Vm.Alike.refl _) h.2.2.2.1, h.2.2.2.2.imp (fun q => va_Z.moved (by rw [hv]; exact Vm.Alike.refl _) q) (fun q => va_Z.moved (by rw [hv]; exact Vm.Alike.refl _) q)⟩
theorem zj_blind {as : List Value} {g : zj_G} {mem : zj_M} : FrameBlind (va_Pc as (zj_PW g mem)) := by
  intro a U f mk q
  obtain ⟨q0, qP, qK, qD, qX⟩ := q
  exact ⟨q0, qP, va_K.moved (u := U) (U := U.calling f mk a) (Vm.Alike.refl U.vm) qK, qD, zj_X.same (u := U) (U := U.calling f mk a) rfl qX⟩
theorem zj_A_sub {p : Program} {R : Room} {s : State} {m : MethodId} {args : Array Value} {c : Code} {A : Nat → Prop} {g : zj_G} {cells slots : Nat} {cc : ByteArray} {own : String} {nL d : Nat} {sc : Nat × (Nat → Int32)} (hC : zj_CX p R s m args c A g cells slots cc own nL d sc) : ∀ q, zj_A g q → A q := by
  intro q hq
  obtain ⟨t, ht, rfl⟩ := hq
  exact (hC.2.2.2.2.2.2.1 (fun _ _ => 0)).2 t _ (zj_w_get g _ ht)
theorem zj_pre {p : Program} {R : Room} {s : State} {m : MethodId} {args : Array Value} {c : Code} {A : Nat → Prop} {g : zj_G} {cells slots : Nat} {cc : ByteArray} {own : String} {nL d : Nat} {sc : Nat × (Nat → Int32)} {H : Heap} {locs : List Loc} {mem : zj_M} (hC : zj_CX p R s m args c A g cells slots cc own nL d sc) (hP : va_P g.1 vwCl (zj_w g mem) H) (hS : va_S A s.heap H locs) : ∀ U : State, U.heap = H → s.WarmedH U.vm → zj_PW g mem U := by
  intro U hU hW
  refine ⟨by rw [hU]; exact hP, va_K.moved hW.alike hC.2.2.2.2.2.1, (hC.2.2.2.2.2.2.1 mem).weaken (fun k q hq _ => ?_), ?_⟩
  · have hk : k < zj_N := by
      have := (List.getElem?_eq_some_iff.mp hq).1
      simpa [zj_w] using this
    rw [zj_w_get g mem hk] at hq
    cases hq
    exact ⟨k, hk, rfl⟩
  · have hX := hC.2.2.2.2.2.2.2.1
    rw [hU]
    exact ((hX.moved hW).kept hS.2.1).narrow (zj_A_sub hC)
theorem zj_after {p : Program} {l : Launch} {e : Env} {R : Room} {s : State} {m : MethodId} {args : Array Value} {below : List Frame} {meth : Method} {c : Code} {A : Nat → Prop} {g : zj_G} {cells slots : Nat} {Q : State → Prop} {cc : ByteArray} {own : String} {nL d : Nat} {sc : Nat × (Nat → Int32)} {H : Heap} {locs : List Loc} {mem1 : zj_M} {pc : Nat} {ls : Array Slot} {rs rest st0 : List Value} {a : Array Value} (hC : zj_CX p R s m args c A g cells slots cc own nL d sc) (hS : va_S A s.heap H locs)
    (hr : va_Run p l e R s m args below meth c H locs cells slots 0 0 (F0 m pc ls st0) rest (zj_Qc g rs mem1 a) (zj_A g))
    (kk : ∀ (H1 : Heap) (locs1 : List Loc), va_P g.1 vwCl (zj_w g mem1) H1 → va_S A s.heap H1 locs1 → W p l e R s m args below meth c H1 locs1 cells slots Q (F0 m (pc + 3) ls ((rs.map (zj_tr g)).head?.toList ++ rest))) : W p l e R s m args below meth c H locs cells slots Q (F0 m pc ls st0) := by
  intro T hT X
  obtain ⟨v, st₀, t, T', L, h0, X', hL, e1, e2, ⟨⟨hv, hp⟩, hz, hk⟩, st⟩ := hr T hT X
  cases hv
  rw [h0] at hz hk
  obtain ⟨t2, a1, b1⟩ := kk T'.heap (locs ++ L) (by rw [e1]; exact hp)
    ⟨Nat.le_trans hS.1 (by rw [e1]; exact hz), fun q h1 h2 => by rw [e1, hk q (Nat.lt_of_lt_of_le h1 hS.1) (fun z => h2 (zj_A_sub hC q z))]; exact hS.2.1 q h1 h2, fun q hq => by
      rcases List.mem_append.mp hq with h | h
      · exact hS.2.2 q h
      · exact zj_A_sub hC _ (hL q h)⟩ T' rfl X'
  exact ⟨t2, st t2 a1, b1⟩
/-- what a call asks of its callee: depth, words -/
def zj_cal (d d' n : Nat) (y : MethodName) (bytes : ByteArray) (maxL : Nat) (rt : Option FieldType) : Prop := (Cond.code y bytes maxL rt ∈ zj_T ∧ Cond.initialized y.cls ∈ zj_T) ∧ (y.cls ≠ "java/lang/invoke/MethodHandle" ∧ y.cls ≠ "java/lang/invoke/VarHandle" ∧ (parseMethodDescriptor y.desc).map (fun d => d.parameters.length) = some n) ∧ d' + 1 ≤ d ∧ maxL ≤ 45
theorem zj_wt_tr (g : zj_G) (r : List Value) : ((r.map (zj_tr g)).map fun v => v.category).sum = zj_wt r := by unfold zj_wt; rw [List.map_map]; congr 1; exact List.map_congr_left fun v _ => zj_tr_cat g v
theorem zj_stk (g : zj_G) (n : Nat) (st : List Value) : st.map (zj_tr g) = ((st.take n).reverse.map (zj_tr g)).reverse ++ (st.drop n).map (zj_tr g) := by
  rw [← List.map_reverse, List.reverse_reverse, ← List.map_append, List.take_append_drop]
theorem zj_head {n : Nat} {st : List Value} {v : Value} (h : (st.drop n).head? = some v) : (st.take (n + 1)).reverse = v :: (st.take n).reverse ∧ st.drop n = v :: st.drop (n + 1) := by
  have h1 : st[n]? = some v := by rw [← h, List.head?_drop]
  obtain ⟨hl, h2⟩ := List.getElem?_eq_some_iff.mp h1
  refine ⟨by rw [List.take_succ, h1]; simp, by rw [List.drop_eq_getElem_cons hl, h2]⟩
section ZSX
variable {p : Program} {l : Launch} {e : Env} {R : Room} {s : State} {m : MethodId} {args : Array Value} {below : List Frame} {meth : Method} {c : Code}
theorem zj_callSUx {T : State} {locs : List Loc} {cells slots : Nat} (X : Stand p l e R s m args below meth c T locs cells slots) (hexec : p.tables.exec = Jvm.exec) {own owner : String} {index : Nat} {x y : MethodName} {bytes : ByteArray} {maxL : Nat} {ret : Option FieldType} (hyx : y = ⟨owner, x.name, x.desc⟩)
    (hown : s.vm.findClass own = some m.cls) (hlink : (Cond.methodLink own index x).before args s = true) (hsame : (Cond.sameMethod x.cls owner x.name x.desc).before args s = true) (hsup : (Cond.superclass own x.cls).before args s = true) (hsup2 : (Cond.superclass x.cls owner).before args s = true)
    (hinst : (Cond.instanceMethod y).before args s = true) (hcode : (Cond.code y bytes maxL ret).before args s = true) (hno : x.name ≠ "<init>")
    {W : Nat} {Pre : Pt → Array Value → Prop} {Post : Pt → Array Value → Option Value → Pt → Prop} (hK : Back l R p e below s args y 3 W Pre Post)
    {b : Addr} {cellB : Cell} {kB : Class} (hcell : T.heap[b]? = some cellB) (hobj : cellB.vm.isStatics = false) (hkB : s.vm.classes[cellB.cls]? = some kB)
    {g : JFrame} (hg : g.method = m) (hsize : g.locals.size = c.maxLocals) {argsL rest : List Value} (hlen : ∀ sig, parseMethodDescriptor y.desc = some sig → argsL.length = sig.parameters.length)
    (hstack : g.stack = argsL.reverse ++ .ref b :: rest) (hW : 2 * g.monitorRoom + (rest.map fun v => v.category).sum ≤ W) (hdg : decode c.code g.pc = .ok (.invokespecial index, 3))
    (hpre : ∀ vm₁, s.WarmedH vm₁ → Pre ⟨T.setVm vm₁, locs, cells, slots⟩ (Value.ref b :: argsL).toArray) :
    ∃ (v : Option Value) (vm₁ : Vm) (B : Pt), s.WarmedH vm₁ ∧ Stand p l e R s m args below meth c B.U B.locs B.cells B.slots ∧ Post ⟨T.setVm vm₁, locs, cells, slots⟩ (Value.ref b :: argsL).toArray v B ∧
      ∀ target, Steps p.tables e below (B.U.setTop { g with pc := g.pc + 3, stack := v.toList ++ rest }) target → Steps p.tables e below (T.setTop g) target := by
  subst hyx
  obtain ⟨mk, methM, hnamed, hmethM, hstM, habM⟩ := Cond.instanceMethod_spec hinst
  obtain ⟨methM', cM, hmethM', -, -, -, -, -, -, hsigM⟩ := Cond.code_spec hnamed hcode
  cases hmethM.symm.trans hmethM'
  obtain ⟨ps, dk, kp, hps, hdk, hkp, hsuper, -, -, hnid⟩ := Cond.superclass_spec hown hsup
  obtain ⟨p2, dk2, kp2, hps2, hdk2, hkp2, hsuper2, -, -, -⟩ := Cond.superclass_spec hps hsup2
  have hpm : p2 = mk.cls := Option.some.inj (hps2.symm.trans (findClass_of_methodNamed hnamed))
  have hsub : s.vm.isSubclass ps mk.cls = true := by
    rw [← hpm]
    have hsz : 0 < s.vm.classes.size := Nat.lt_of_le_of_lt (Nat.zero_le _) (Array.getElem?_eq_some_iff.mp hdk2).1
    obtain ⟨n, hn⟩ : ∃ n, s.vm.classes.size = n + 1 := ⟨s.vm.classes.size - 1, by omega⟩
    simp [Vm.isSubclass, Vm.isSubclassAux, hn, hdk2, hsuper2]
  obtain ⟨vm₁, X₁, hstep₁⟩ := X.invokespecialUp hexec hown hlink hsame hnamed hmethM hstM habM hno hdk hnid hps hsuper hsub (a := b) (cell := cellB) hcell
    (fun z h => by rw [h] at hobj; cases hobj) hkB (g := g) hg (argsL := argsL) (rest := rest) (hlen _ hsigM) hstack hdg
  obtain ⟨v, B, X', hpost, hsteps⟩ := hK m meth c ⟨T.setVm vm₁, locs, cells, slots⟩ { g with stack := rest } (.invokespecial index) mk (Value.ref b :: argsL).toArray X₁ hg hsize hdg hW (X₁.named hnamed) (hpre vm₁ X₁.warmed)
  exact ⟨v, vm₁, B, X₁.warmed, X', hpost, fun target h => hstep₁ _ (by rw [doInvoke_state]; exact hsteps.trans h)⟩
def zj_CSx (R : Room) (s : State) (args : Array Value) (own owner : String) (index : Nat) (x y : MethodName) (bytes : ByteArray) (maxL : Nat) (ret : Option FieldType) (ws : List Cond) (rm : Room) (n : Nat) : Prop :=
  (rm.cells = 0 ∧ rm.slots = 0 ∧ rm.frames + 1 ≤ R.frames ∧ 8 + (maxL + 11) + rm.locals ≤ R.locals ∧ (∀ w ∈ ws, ∀ (a' : Array Value) (U : State), s.WarmedH U.vm → w.before a' U = true) ∧ Cond.code y bytes maxL ret ∈ ws) ∧
  y = ⟨owner, x.name, x.desc⟩ ∧ (Cond.methodLink own index x).before args s = true ∧ (Cond.sameMethod x.cls owner x.name x.desc).before args s = true ∧ (Cond.superclass own x.cls).before args s = true ∧ (Cond.superclass x.cls owner).before args s = true ∧ (Cond.instanceMethod y).before args s = true ∧ (Cond.initialized y.cls).before args s = true ∧ (Cond.code y bytes maxL ret).before args s = true ∧ x.name ≠ "<init>" ∧ (∀ sig, parseMethodDescriptor y.desc = some sig → n = sig.parameters.length)
theorem zj_runSUx {H : Heap} {locs : List Loc} {cells slots : Nat} {x y : MethodName} {bytes cc : ByteArray} {maxL nL n index : Nat} {ret : Option FieldType} {ws : List Cond} {rm : Room} {Pc : Array Value → State → Prop} {Qc : Array Value → State → Outcome → State → Prop} {free : Addr → Prop} {Ts : List Cond} {own owner C : String} {cC : ClassId} {b : Addr} {As rest : List Value} {g : JFrame}
    (hat : ClassAt s C cC) (S : CallFix p m c cc nL s args Ts own) (hM : Met l y ws rm Pc Qc 0 0 free) (cw : zj_CSx R s args own owner index x y bytes maxL ret ws rm n) (hp : PreV s H C b Pc As)
    (hg : g.method = m) (hn : As.length = n) (hsize : g.locals.size = nL) (hstack : g.stack = As.reverse ++ .ref b :: rest) (hW : 2 * g.monitorRoom + (rest.map fun v => v.category).sum ≤ 8) (hdg : decode cc g.pc = .ok (.invokespecial index, 3)) (hf : cells + 0 ≤ R.cells ∧ slots + 0 ≤ R.slots) :
    va_Run p l e R s m args below meth c H locs cells slots 0 0 g rest (Qc (Value.ref b :: As).toArray) (free) := by
  obtain ⟨⟨hrc, hrs, hfr, hlo, hws, hcw⟩, hyx, hl1, hl2, hl3, hl3b, hl4, hini, hcode, hno, hlen⟩ := cw
  have hK : Back l R p e below s args y 3 8 (PreOf R 0 0 Pc) (PostOf Qc 0 0 free) := back_of (bytes := bytes) (maxL := maxL) (ret := ret) hM hp.1 hrc hrs hfr hlo hws hcw (fun a' U hW => word_at hW (Or.inl (by first | rfl | simp [Cond.onTables, Cond.keeps, Cond.steady])) hini)
  obtain ⟨hx, hb, hml, ho, -⟩ := S
  obtain ⟨-, ⟨cellB, hcB, hoB, hclB⟩, hPc⟩ := hp
  obtain ⟨hfc, kB, hkB, -⟩ := hat
  cases hfc.symm.trans hclB
  intro T hT X
  obtain ⟨v, vm₁, ⟨U', l2, c2, s2⟩, hW₁, X', ⟨g', mk, t, L, e1, e2, hq, h1, hL, h2, h3⟩, st⟩ := zj_callSUx X hx (bytes := bytes) (maxL := maxL) (ret := ret) hyx ho hl1 hl2 hl3 hl3b hl4 hcode hno hK (by rw [hT]; exact hcB) hoB hkB hg (hsize.trans hml.symm) (argsL := As) (rest := rest) (fun sig h => hn.trans (hlen sig h)) hstack hW (by rw [hb]; exact hdg)
    (fun vm₁ hW₁ => ⟨hf.1, hf.2, hPc (T.setVm vm₁) hT hW₁⟩)
  dsimp only [Pt.U, Pt.locs, Pt.cells, Pt.slots] at X' e1 e2 h1 h2 h3 st
  subst h1; subst h2; subst h3
  exact ⟨v, (T.setVm vm₁).calling g' mk (Value.ref b :: As).toArray, t, U', L, hT, X', hL, e1, e2, hq, st⟩
end ZSX
section ZR
variable {cc : ByteArray} {own : String} {nL d : Nat} {ret : Option FieldType} {sc : Nat × (Nat → Int32)} {pc : Nat} {k k2 : zj_K}
theorem zr_callS {i n maxL d' : Nat} {y : MethodName} {bytes : ByteArray} {rt : Option FieldType} {mf : zj_F} (hd : decode cc pc = .ok (.invokestatic i, 3)) (hM : zj_MS d' y bytes maxL rt mf) (hy : zj_cal d d' n y bytes maxL rt) (hl : Cond.methodLink own i y ∈ zj_T) (hs : Cond.static y ∈ zj_T) (hk : zj_KC cc own nL d ret sc (pc + 3) (k)) : zj_KC cc own nL d ret sc (pc) (zi_call n mf k) := by
  intro p l e R s m args below meth c A g cells slots Q res mem' hC hF E st mem h H ls locs hP hS hL
  unfold zi_call at h
  split at h
  · next hn =>
    have hts := hC.2.2.2.2.1
    obtain ⟨r1, r2, r3, r4⟩ := hC.2.2.2.2.2.2.2.2.1
    obtain ⟨⟨y1, y2⟩, y3, y4, y5⟩ := hy
    have hlen : ((st.take n).reverse.map (zj_tr g)).length = n := by simp; omega
    have fin : ∀ rs m1, mf (st.take n).reverse mem = some (rs, m1) → va_Run p l e R s m args below meth c H locs cells slots 0 0 (F0 m pc ls (st.map (zj_tr g))) ((st.drop n).map (zj_tr g)) (zj_Qc g rs m1 ((st.take n).reverse.map (zj_tr g)).toArray) (zj_A g) := fun rs m1 hm =>
      va_runS ⟨hC.1, hC.2.1, hC.2.2.1, hC.2.2.2.1, hts⟩ (hM l g _ mem rs m1 hm) ⟨callB_of n hts (zj_good y1) rfl rfl rfl (hts _ y2) (hts _ hl) y3 ⟨by show d' + 1 ≤ _; omega, by show 8 + (maxL + 11) + 64 * d' ≤ _; omega⟩, hts _ hs⟩ ⟨zj_blind, fun U hU hW => ⟨rfl, zj_pre hC hP hS U hU hW⟩⟩ rfl hlen hL.1 (zj_stk g n st) (lv_room (by rw [zj_wt_tr]; exact hn.2)) hd ⟨by omega, by omega⟩
    split at h
    · next m1 hm => exact zj_after hC hS (fin _ _ hm) (fun H1 locs1 hP1 hS1 => hk p l e R s m args below meth c A g cells slots Q res mem' hC hF E _ _ h H1 ls locs1 hP1 hS1 hL)
    · next v m1 hm => exact zj_after hC hS (fin _ _ hm) (fun H1 locs1 hP1 hS1 => hk p l e R s m args below meth c A g cells slots Q res mem' hC hF E _ _ h H1 ls locs1 hP1 hS1 hL)
    · cases h
  · cases h
theorem zr_callSN {i n maxL d' : Nat} {y : MethodName} {bytes : ByteArray} {rt : Option FieldType} {mf : zj_F} (hd : decode cc pc = .ok (.invokestatic i, 3)) (hM : zj_MS d' y bytes maxL rt mf) (hy : zj_cal d d' n y bytes maxL rt) (hl : y = yX11_bit ∧ own = RX2 ∧ i = 133) (hs : Cond.static y ∈ zj_T) (hk : zj_KC cc own nL d ret sc (pc + 3) (k)) : zj_KC cc own nL d ret sc (pc) (zi_call n mf k) := by
  intro p l e R s m args below meth c A g cells slots Q res mem' hC hF E st mem h H ls locs hP hS hL
  unfold zi_call at h
  split at h
  · next hn =>
    have hts := hC.2.2.2.2.1
    obtain ⟨r1, r2, r3, r4⟩ := hC.2.2.2.2.2.2.2.2.1
    obtain ⟨⟨y1, y2⟩, y3, y4, y5⟩ := hy
    have hlen : ((st.take n).reverse.map (zj_tr g)).length = n := by simp; omega
    have fin : ∀ rs m1, mf (st.take n).reverse mem = some (rs, m1) → va_Run p l e R s m args below meth c H locs cells slots 0 0 (F0 m pc ls (st.map (zj_tr g))) ((st.drop n).map (zj_tr g)) (zj_Qc g rs m1 ((st.take n).reverse.map (zj_tr g)).toArray) (zj_A g) := fun rs m1 hm =>
      va_runSN ⟨hC.1, hC.2.1, hC.2.2.1, hC.2.2.2.1, hts⟩ (hM l g _ mem rs m1 hm) ⟨va_cnB (host := RX11) n hts (zj_good y1) rfl rfl rfl (by obtain ⟨rfl, rfl, rfl⟩ := hl; exact hC.2.2.2.2.2.2.2.1.1.2.2) (hts _ y2) y3 ⟨by show d' + 1 ≤ _; omega, by show 8 + (maxL + 11) + 64 * d' ≤ _; omega⟩, hts _ hs, trivial⟩ ⟨zj_blind, fun U hU hW => ⟨rfl, zj_pre hC hP hS U hU hW⟩⟩ rfl hlen hL.1 (zj_stk g n st) (lv_room (by rw [zj_wt_tr]; exact hn.2)) hd ⟨by omega, by omega⟩
    split at h
    · next m1 hm => exact zj_after hC hS (fin _ _ hm) (fun H1 locs1 hP1 hS1 => hk p l e R s m args below meth c A g cells slots Q res mem' hC hF E _ _ h H1 ls locs1 hP1 hS1 hL)
    · next v m1 hm => exact zj_after hC hS (fin _ _ hm) (fun H1 locs1 hP1 hS1 => hk p l e R s m args below meth c A g cells slots Q res mem' hC hF E _ _ h H1 ls locs1 hP1 hS1 hL)
    · cases h
  · cases h
theorem zr_callV {i n maxL d' ci : Nat} {y : MethodName} {bytes : ByteArray} {rt : Option FieldType} {mf : zj_F} {C : String} {T : u_T} {N : Nat} (hd : decode cc pc = .ok (.invokevirtual i, 3)) (hM : zj_MS d' y bytes maxL rt mf) (hy : zj_cal d d' n y bytes maxL rt) (hcl : vwCl[ci]? = some (C, T, N)) (hC0 : y.cls = C) (hl : Cond.methodLink own i y ∈ zj_T) (hin : Cond.instanceMethod y ∈ zj_T) (hsel : Cond.selects C y y ∈ zj_T) (hk : zj_KC cc own nL d ret sc (pc + 3) (k)) (hk2 : zj_KC cc own nL d ret sc (pc) (k2)) : zj_KC cc own nL d ret sc (pc) (zi_vc ci n mf k k2) := by
  intro p l e R s m args below meth c A g cells slots Q res mem' hC hF E st mem h H ls locs hP hS hL
  unfold zi_vc at h
  split at h
  · next t ht =>
    split at h
    · next hcls =>
      unfold zi_call at h
      split at h
      · next hn =>
        have hts := hC.2.2.2.2.1
        obtain ⟨r1, r2, r3, r4⟩ := hC.2.2.2.2.2.2.2.2.1
        obtain ⟨⟨y1, y2⟩, y3, y4, y5⟩ := hy
        obtain ⟨e1, e2⟩ := zj_head ht
        have hlen : ((st.take n).reverse.map (zj_tr g)).length = n := by simp; omega
        have hrv := va_recv hC.2.2.2.2.2.1 hP hcl (zj_cls_at (g := g) (mem := mem) hcls).2
        have fin : ∀ rs m1, mf (st.take (n + 1)).reverse mem = some (rs, m1) → va_Run p l e R s m args below meth c H locs cells slots 0 0 (F0 m pc ls (st.map (zj_tr g))) ((st.drop (n + 1)).map (zj_tr g)) (zj_Qc g rs m1 (Value.ref (zj_ad g t) :: (st.take n).reverse.map (zj_tr g)).toArray) (zj_A g) := fun rs m1 hm =>
          va_runV ⟨hC.1, hC.2.1, hC.2.2.1, hC.2.2.2.1, hts⟩ (hM l g _ mem rs m1 hm) ⟨callB_of n hts (zj_good y1) rfl rfl rfl (hts _ y2) (hts _ hl) y3 ⟨by show d' + 1 ≤ _; omega, by show 8 + (maxL + 11) + 64 * d' ≤ _; omega⟩, hts _ hin, hts _ hsel⟩ ⟨zj_blind, hrv, fun U hU hW => ⟨by rw [e1]; rfl, zj_pre hC hP hS U hU hW⟩⟩ rfl hlen hL.1 (by show st.map (zj_tr g) = _; rw [zj_stk g n st, e2]; rfl) (lv_room (by rw [zj_wt_tr]; exact hn.2)) hd ⟨by omega, by omega⟩
        split at h
        · next m1 hm => exact zj_after hC hS (fin _ _ hm) (fun H1 locs1 hP1 hS1 => hk p l e R s m args below meth c A g cells slots Q res mem' hC hF E _ _ h H1 ls locs1 hP1 hS1 hL)
        · next v m1 hm => exact zj_after hC hS (fin _ _ hm) (fun H1 locs1 hP1 hS1 => hk p l e R s m args below meth c A g cells slots Q res mem' hC hF E _ _ h H1 ls locs1 hP1 hS1 hL)
        · cases h
      · cases h
    · exact hk2 p l e R s m args below meth c A g cells slots Q res mem' hC hF E _ mem h H ls locs hP hS hL
  · cases h
theorem zr_callU {i n maxL d' ci : Nat} {y : MethodName} {bytes : ByteArray} {rt : Option FieldType} {mf : zj_F} {C : String} {T : u_T} {N : Nat} (hd : decode cc pc = .ok (.invokevirtual i, 3)) (hM : zj_MS d' y bytes maxL rt mf) (hy : zj_cal d d' n y bytes maxL rt) (hcl : vwCl[ci]? = some (C, T, N)) {x : MethodName} {owner : String} {b0 : ByteArray} {m0 : Nat} {rt0 : Option FieldType} (hl : Cond.methodLink own i x ∈ zj_T) (hsm : Cond.sameMethod x.cls owner x.name x.desc ∈ zj_T) (hin0 : Cond.instanceMethod ⟨owner, x.name, x.desc⟩ ∈ zj_T) (hc0 : Cond.code ⟨owner, x.name, x.desc⟩ b0 m0 rt0 ∈ zj_T) (hno : owner ≠ "java/lang/invoke/MethodHandle" ∧ owner ≠ "java/lang/invoke/VarHandle" ∧ (parseMethodDescriptor x.desc).map (fun d => d.parameters.length) = some n) (hin : Cond.instanceMethod y ∈ zj_T) (hsel : Cond.selects C x y ∈ zj_T) (hk : zj_KC cc own nL d ret sc (pc + 3) (k)) (hk2 : zj_KC cc own nL d ret sc (pc) (k2)) : zj_KC cc own nL d ret sc (pc) (zi_vc ci n mf k k2) := by
  intro p l e R s m args below meth c A g cells slots Q res mem' hC hF E st mem h H ls locs hP hS hL
  unfold zi_vc at h
  split at h
  · next t ht =>
    split at h
    · next hcls =>
      unfold zi_call at h
      split at h
      · next hn =>
        have hts := hC.2.2.2.2.1
        obtain ⟨r1, r2, r3, r4⟩ := hC.2.2.2.2.2.2.2.2.1
        obtain ⟨⟨y1, y2⟩, y3, y4, y5⟩ := hy
        obtain ⟨e1, e2⟩ := zj_head ht
        have hlen : ((st.take n).reverse.map (zj_tr g)).length = n := by simp; omega
        have hrv := va_recv hC.2.2.2.2.2.1 hP hcl (zj_cls_at (g := g) (mem := mem) hcls).2
        have fin : ∀ rs m1, mf (st.take (n + 1)).reverse mem = some (rs, m1) → va_Run p l e R s m args below meth c H locs cells slots 0 0 (F0 m pc ls (st.map (zj_tr g))) ((st.drop (n + 1)).map (zj_tr g)) (zj_Qc g rs m1 (Value.ref (zj_ad g t) :: (st.take n).reverse.map (zj_tr g)).toArray) (zj_A g) := fun rs m1 hm =>
          va_runU ⟨hC.1, hC.2.1, hC.2.2.1, hC.2.2.2.1, hts⟩ (hM l g _ mem rs m1 hm) ⟨⟨rfl, rfl, by show d' + 1 ≤ _; omega, by show 8 + (maxL + 11) + 64 * d' ≤ _; omega, pay_in hts (zj_good y1), List.mem_cons_self⟩, hts _ y1, hts _ y2, ⟨hno.1, hno.2.1⟩, (fun sig q => by have q2 := hno.2.2; rw [q] at q2; exact (Option.some.inj q2).symm), hts _ hl, hts _ hsm, va_Decl.of (hts _ hin0) (hts _ hc0), hts _ hsel, hts _ hin⟩ ⟨zj_blind, hrv, fun U hU hW => ⟨by rw [e1]; rfl, zj_pre hC hP hS U hU hW⟩⟩ rfl hlen hL.1 (by show st.map (zj_tr g) = _; rw [zj_stk g n st, e2]; rfl) (lv_room (by rw [zj_wt_tr]; exact hn.2)) hd ⟨by omega, by omega⟩
        split at h
        · next m1 hm => exact zj_after hC hS (fin _ _ hm) (fun H1 locs1 hP1 hS1 => hk p l e R s m args below meth c A g cells slots Q res mem' hC hF E _ _ h H1 ls locs1 hP1 hS1 hL)
        · next v m1 hm => exact zj_after hC hS (fin _ _ hm) (fun H1 locs1 hP1 hS1 => hk p l e R s m args below meth c A g cells slots Q res mem' hC hF E _ _ h H1 ls locs1 hP1 hS1 hL)
        · cases h
      · cases h
    · exact hk2 p l e R s m args below meth c A g cells slots Q res mem' hC hF E _ mem h H ls locs hP hS hL
  · cases h
theorem zr_callSU {i n maxL d' ci : Nat} {y : MethodName} {bytes : ByteArray} {rt : Option FieldType} {mf : zj_F} {C : String} {T : u_T} {N : Nat} (hd : decode cc pc = .ok (.invokespecial i, 3)) (hM : zj_MS d' y bytes maxL rt mf) (hy : zj_cal d d' n y bytes maxL rt) (hcl : vwCl[ci]? = some (C, T, N)) (hl : Cond.methodLink own i y ∈ zj_T) (hsm : Cond.sameMethod y.cls y.cls y.name y.desc ∈ zj_T) (hsp : Cond.superclass own y.cls ∈ zj_T) (hno : y.name ≠ "<init>") (hin : Cond.instanceMethod y ∈ zj_T) (hk : zj_KC cc own nL d ret sc (pc + 3) (k)) (hk2 : zj_KC cc own nL d ret sc (pc) (k2)) : zj_KC cc own nL d ret sc (pc) (zi_vc ci n mf k k2) := by
  intro p l e R s m args below meth c A g cells slots Q res mem' hC hF E st mem h H ls locs hP hS hL
  unfold zi_vc at h
  split at h
  · next t ht =>
    split at h
    · next hcls =>
      unfold zi_call at h
      split at h
      · next hn =>
        have hts := hC.2.2.2.2.1
        obtain ⟨r1, r2, r3, r4⟩ := hC.2.2.2.2.2.2.2.2.1
        obtain ⟨⟨y1, y2⟩, y3, y4, y5⟩ := hy
        obtain ⟨e1, e2⟩ := zj_head ht
        have hlen : ((st.take n).reverse.map (zj_tr g)).length = n := by simp; omega
        have hrv := va_recv hC.2.2.2.2.2.1 hP hcl (zj_cls_at (g := g) (mem := mem) hcls).2
        have fin : ∀ rs m1, mf (st.take (n + 1)).reverse mem = some (rs, m1) → va_Run p l e R s m args below meth c H locs cells slots 0 0 (F0 m pc ls (st.map (zj_tr g))) ((st.drop (n + 1)).map (zj_tr g)) (zj_Qc g rs m1 (Value.ref (zj_ad g t) :: (st.take n).reverse.map (zj_tr g)).toArray) (zj_A g) := fun rs m1 hm =>
          va_runSU (C := C) (hC.2.2.2.2.2.1.1 _ _ hcl).2 ⟨hC.1, hC.2.1, hC.2.2.1, hC.2.2.2.1, hts⟩ (hM l g _ mem rs m1 hm) ⟨⟨rfl, rfl, by show d' + 1 ≤ _; omega, by show 8 + (maxL + 11) + 64 * d' ≤ _; omega, pay_in hts (zj_good y1), List.mem_cons_self⟩, hts _ hl, hts _ hsm, hts _ hsp, hts _ hin, hts _ y2, hts _ y1, hno, (fun sig q => by have q2 := y3.2.2; rw [q] at q2; exact (Option.some.inj q2).symm)⟩ ⟨zj_blind, hrv, fun U hU hW => ⟨by rw [e1]; rfl, zj_pre hC hP hS U hU hW⟩⟩ rfl hlen hL.1 (by show st.map (zj_tr g) = _; rw [zj_stk g n st, e2]; rfl) (lv_room (by rw [zj_wt_tr]; exact hn.2)) hd ⟨by omega, by omega⟩
        split at h
        · next m1 hm => exact zj_after hC hS (fin _ _ hm) (fun H1 locs1 hP1 hS1 => hk p l e R s m args below meth c A g cells slots Q res mem' hC hF E _ _ h H1 ls locs1 hP1 hS1 hL)
        · next v m1 hm => exact zj_after hC hS (fin _ _ hm) (fun H1 locs1 hP1 hS1 => hk p l e R s m args below meth c A g cells slots Q res mem' hC hF E _ _ h H1 ls locs1 hP1 hS1 hL)
        · cases h
      · cases h
    · exact hk2 p l e R s m args below meth c A g cells slots Q res mem' hC hF E _ mem h H ls locs hP hS hL
  · cases h
theorem zr_callSUx {i n maxL d' ci : Nat} {y : MethodName} {bytes : ByteArray} {rt : Option FieldType} {mf : zj_F} {C : String} {T : u_T} {N : Nat} (hd : decode cc pc = .ok (.invokespecial i, 3)) (hM : zj_MS d' y bytes maxL rt mf) (hy : zj_cal d d' n y bytes maxL rt) (hcl : vwCl[ci]? = some (C, T, N)) {x : MethodName} {owner : String} (hyx : y = ⟨owner, x.name, x.desc⟩) (hl : Cond.methodLink own i x ∈ zj_T) (hsm : Cond.sameMethod x.cls owner x.name x.desc ∈ zj_T) (hsp : Cond.superclass own x.cls ∈ zj_T) (hsp2 : Cond.superclass x.cls owner ∈ zj_T) (hno : x.name ≠ "<init>") (hin : Cond.instanceMethod y ∈ zj_T) (hk : zj_KC cc own nL d ret sc (pc + 3) (k)) (hk2 : zj_KC cc own nL d ret sc (pc) (k2)) : zj_KC cc own nL d ret sc (pc) (zi_vc ci n mf k k2) := by
  intro p l e R s m args below meth c A g cells slots Q res mem' hC hF E st mem h H ls locs hP hS hL
  unfold zi_vc at h
  split at h
  · next t ht =>
    split at h
    · next hcls =>
      unfold zi_call at h
      split at h
      · next hn =>
        have hts := hC.2.2.2.2.1
        obtain ⟨r1, r2, r3, r4⟩ := hC.2.2.2.2.2.2.2.2.1
        obtain ⟨⟨y1, y2⟩, y3, y4, y5⟩ := hy
        obtain ⟨e1, e2⟩ := zj_head ht
        have hlen : ((st.take n).reverse.map (zj_tr g)).length = n := by simp; omega
        have hrv := va_recv hC.2.2.2.2.2.1 hP hcl (zj_cls_at (g := g) (mem := mem) hcls).2
        have fin : ∀ rs m1, mf (st.take (n + 1)).reverse mem = some (rs, m1) → va_Run p l e R s m args below meth c H locs cells slots 0 0 (F0 m pc ls (st.map (zj_tr g))) ((st.drop (n + 1)).map (zj_tr g)) (zj_Qc g rs m1 (Value.ref (zj_ad g t) :: (st.take n).reverse.map (zj_tr g)).toArray) (zj_A g) := fun rs m1 hm =>
          zj_runSUx (C := C) (hC.2.2.2.2.2.1.1 _ _ hcl).2 ⟨hC.1, hC.2.1, hC.2.2.1, hC.2.2.2.1, hts⟩ (hM l g _ mem rs m1 hm) ⟨⟨rfl, rfl, by show d' + 1 ≤ _; omega, by show 8 + (maxL + 11) + 64 * d' ≤ _; omega, pay_in hts (zj_good y1), List.mem_cons_self⟩, hyx, hts _ hl, hts _ hsm, hts _ hsp, hts _ hsp2, hts _ hin, hts _ y2, hts _ y1, hno, (fun sig q => by have q2 := y3.2.2; rw [q] at q2; exact (Option.some.inj q2).symm)⟩ ⟨zj_blind, hrv, fun U hU hW => ⟨by rw [e1]; rfl, zj_pre hC hP hS U hU hW⟩⟩ rfl hlen hL.1 (by show st.map (zj_tr g) = _; rw [zj_stk g n st, e2]; rfl) (lv_room (by rw [zj_wt_tr]; exact hn.2)) hd ⟨by omega, by omega⟩
        split at h
        · next m1 hm => exact zj_after hC hS (fin _ _ hm) (fun H1 locs1 hP1 hS1 => hk p l e R s m args below meth c A g cells slots Q res mem' hC hF E _ _ h H1 ls locs1 hP1 hS1 hL)
        · next v m1 hm => exact zj_after hC hS (fin _ _ hm) (fun H1 locs1 hP1 hS1 => hk p l e R s m args below meth c A g cells slots Q res mem' hC hF E _ _ h H1 ls locs1 hP1 hS1 hL)
        · cases h
      · cases h
    · exact hk2 p l e R s m args below meth c A g cells slots Q res mem' hC hF E _ mem h H ls locs hP hS hL
  · cases h
theorem zr_gfA {index kx : Nat} {cis : List Nat} (hd : decode cc pc = .ok (.getfield index, 3)) (hw : ∀ ci ∈ cis, zj_fld own index ci kx) (hk : zj_KC cc own nL d ret sc (pc + 3) (k)) : zj_KC cc own nL d ret sc (pc) (zi_gfA cis kx k) := by
  intro p l e R s m args below meth c A g cells slots Q res mem' hC hF E st mem h H ls locs hP hS hL
  unfold zi_gfA at h
  split at h
  · next t r =>
    split at h
    · next hc =>
      exact zr_gf hd (hw _ hc.1.2) hk p l e R s m args below meth c A g cells slots Q res mem' hC hF E _ mem (by unfold zi_gf; simp only [hc.1.1, hc.2, and_self, if_true]; exact h) H ls locs hP hS hL
    · cases h
  · cases h
/-- a member of a String constant -/
theorem zr_sc {i n maxL d' : Nat} {y : MethodName} {bytes : ByteArray} {rt : Option FieldType} {mf : zj_F} (hd : decode cc pc = .ok (.invokevirtual i, 3)) (hM : zj_MS d' y bytes maxL rt mf) (hy : zj_cal d d' n y bytes maxL rt) (hC0 : y.cls = "java/lang/String") (hl : Cond.methodLink own i y ∈ zj_T) (hin : Cond.instanceMethod y ∈ zj_T) (hsel : Cond.selects "java/lang/String" y y ∈ zj_T) (hk : zj_KC cc own nL d ret sc (pc + 3) (k)) : zj_KC cc own nL d ret sc (pc) (zi_sc n mf k) := by
  intro p l e R s m args below meth c A g cells slots Q res mem' hC hF E st mem h H ls locs hP hS hL
  unfold zi_sc at h
  split at h
  · next t ht =>
    split at h
    · next hcls =>
      unfold zi_call at h
      split at h
      · next hn =>
        have hts := hC.2.2.2.2.1
        obtain ⟨r1, r2, r3, r4⟩ := hC.2.2.2.2.2.2.2.2.1
        obtain ⟨⟨y1, y2⟩, y3, y4, y5⟩ := hy
        obtain ⟨e1, e2⟩ := zj_head ht
        have hlen : ((st.take n).reverse.map (zj_tr g)).length = n := by simp; omega
        have hrv : ∃ cell : Cell, H[zj_ad g (1000 + (t - 1000))]? = some cell ∧ cell.vm.isStatics = false ∧ s.vm.findClass "java/lang/String" = some cell.cls := by
          obtain ⟨cell, h1, h2, h3, -⟩ := (hC.2.2.2.2.2.2.2.1.2.2.1 (t - 1000) (zj_isS_of hcls).1).1.kept hS.2.1
          exact ⟨cell, h1, h2, h3⟩
        rw [(zj_isS_of hcls).2] at hrv
        have fin : ∀ rs m1, mf (st.take (n + 1)).reverse mem = some (rs, m1) → va_Run p l e R s m args below meth c H locs cells slots 0 0 (F0 m pc ls (st.map (zj_tr g))) ((st.drop (n + 1)).map (zj_tr g)) (zj_Qc g rs m1 (Value.ref (zj_ad g t) :: (st.take n).reverse.map (zj_tr g)).toArray) (zj_A g) := fun rs m1 hm =>
          va_runV (C := "java/lang/String") ⟨hC.1, hC.2.1, hC.2.2.1, hC.2.2.2.1, hts⟩ (hM l g _ mem rs m1 hm) ⟨callB_of n hts (zj_good y1) rfl rfl rfl (hts _ y2) (hts _ hl) y3 ⟨by show d' + 1 ≤ _; omega, by show 8 + (maxL + 11) + 64 * d' ≤ _; omega⟩, hts _ hin, hts _ hsel⟩ ⟨zj_blind, hrv, fun U hU hW => ⟨by rw [e1]; rfl, zj_pre hC hP hS U hU hW⟩⟩ rfl hlen hL.1 (by show st.map (zj_tr g) = _; rw [zj_stk g n st, e2]; rfl) (lv_room (by rw [zj_wt_tr]; exact hn.2)) hd ⟨by omega, by omega⟩
        split at h
        · next m1 hm => exact zj_after hC hS (fin _ _ hm) (fun H1 locs1 hP1 hS1 => hk p l e R s m args below meth c A g cells slots Q res mem' hC hF E _ _ h H1 ls locs1 hP1 hS1 hL)
        · next v m1 hm => exact zj_after hC hS (fin _ _ hm) (fun H1 locs1 hP1 hS1 => hk p l e R s m args below meth c A g cells slots Q res mem' hC hF E _ _ h H1 ls locs1 hP1 hS1 hL)
        · cases h
      · cases h
    · cases h
  · cases h
end ZR
/-- a method out of its body -/
theorem zj_met {d : Nat} {y : MethodName} {cc : ByteArray} {nL : Nat} {ret : Option FieldType} {k : zj_K} {own : String} (ho : own = y.cls) (hpn : plainName y.cls = true) (hrt : ret = none ∨ ret = some .int ∨ ret = some .boolean ∨ ret = some .long ∨ ∃ C, ret = some (.object C)) (hk : zj_KC cc own nL d ret (0, fun _ => 0) 0 k) : zj_MS d y cc nL ret (zj_run nL k) := by
  subst ho
  intro l g as mem res mem' hm
  unfold zj_run at hm
  split at hm
  · next hlen =>
    refine Met.ofW (cc := cc) (maxL := nL) (ret := ret) hpn rfl ?_
    intro p e s m args below meth c s₁ B hml hv
    obtain ⟨rfl, hP, hK, hD, hX⟩ := hv
    have hts : ∀ w ∈ zj_T, w.before _ s = true := fun w hw => atoms_spec (ws := .code y cc nL ret :: zj_T) B.pre w (List.mem_cons_of_mem _ hw)
    have hown : s.vm.findClass y.cls = some m.cls := findClass_of_methodNamed B.named
    have hlocks := B.notSynchronized
    have hr := B.returns
    rw [lg_entry_eq]
    have hL := zj_entry g as hlen
    refine hk p l e (zj_rm d) s m (as.map (zj_tr g)).toArray below meth c (zj_A g) g 0 0 (MQ below (zj_Qc g res mem') (as.map (zj_tr g)).toArray s 0 0 (zj_A g)) res mem' ?_ ?_ (zj_E0 nL as) [] mem hm s.heap _ [] hP va_S.rf hL
    · refine ⟨B.exec, B.bytes, hml, hown, hts, hK, fun mem2 => ?_, hX, ⟨Nat.le_refl _, Nat.le_refl _, Nat.le_refl _, Nat.le_refl _⟩, fun h => absurd h (Nat.lt_irrefl 0)⟩
      refine ⟨fun i j a b hi hj hab => ?_, fun i a hi => ?_⟩
      · have hi' : i < zj_N := by simpa [zj_w] using (List.getElem?_eq_some_iff.mp hi).1
        have hj' : j < zj_N := by simpa [zj_w] using (List.getElem?_eq_some_iff.mp hj).1
        rw [zj_w_get g mem2 hi'] at hi
        rw [zj_w_get g mem2 hj'] at hj
        cases hi; cases hj
        exact hD.1 i j _ _ (zj_w_get g mem hi') (zj_w_get g mem hj') hab
      · have hi' : i < zj_N := by simpa [zj_w] using (List.getElem?_eq_some_iff.mp hi).1
        rw [zj_w_get g mem2 hi'] at hi
        cases hi
        exact ⟨i, hi', rfl⟩
    · intro hok pc H ls locs hP1 hS1 hdg
      have fin : ∀ t : State, t.heap = H → zj_Qc g res mem' (as.map (zj_tr g)).toArray s (.returned (res.map (zj_tr g)).head?) t := fun t ht => ⟨⟨rfl, by rw [ht]; exact hP1⟩, hS1.F ht⟩
      rcases hrt with rfl | rfl | rfl | rfl | ⟨C, rfl⟩
      · match res, hok, fin with
        | [], _, fin => exact W.vret B.exec B.bytes hr (fun t ht _ => fin t ht) hS1.2.2 hdg
      · match res, hok, fin with
        | [.int x], _, fin => exact W.iret (v := x) B.exec B.bytes hr (fun t ht _ => fin t ht) hS1.2.2 hdg
      · match res, hok, fin with
        | [.int x], hok, fin =>
          have hx : x = 0 ∨ x = 1 := by simpa [zj_rok] using hok
          exact W.zret (v := x) B.exec B.bytes hr (by rcases hx with q | q <;> rw [q] <;> rfl) (fun t ht _ => fin t ht) hS1.2.2 hdg
      · match res, hok, fin with
        | [.long x], _, fin => exact W.lret (v := x) B.exec B.bytes hr (fun t ht _ => fin t ht) hS1.2.2 hdg
      · match res, hok, fin with
        | [.ref x], _, fin => exact W.aret (v := .ref (zj_ad g x)) B.exec B.bytes hr (Or.inl ⟨C, rfl⟩) (Or.inr ⟨_, rfl⟩) (fun t ht _ => fin t ht) hS1.2.2 hdg
  · cases hm
/-- .. that gives a char or a byte -/
theorem zj_metB {d : Nat} {y : MethodName} {cc : ByteArray} {nL : Nat} {ret : Option FieldType} {k : zj_K} {own : String} (ho : own = y.cls) (hpn : plainName y.cls = true) (hrt : ret = some .char ∨ ret = some .byte) (hk : zj_KC cc own nL d ret (0, fun _ => 0) 0 k) : zj_MS d y cc nL ret (zj_run nL k) := by
  subst ho
  intro l g as mem res mem' hm
  unfold zj_run at hm
  split at hm
  · next hlen =>
    refine Met.ofW (cc := cc) (maxL := nL) (ret := ret) hpn rfl ?_
    intro p e s m args below meth c s₁ B hml hv
    obtain ⟨rfl, hP, hK, hD, hX⟩ := hv
    have hts : ∀ w ∈ zj_T, w.before _ s = true := fun w hw => atoms_spec (ws := .code y cc nL ret :: zj_T) B.pre w (List.mem_cons_of_mem _ hw)
    have hown : s.vm.findClass y.cls = some m.cls := findClass_of_methodNamed B.named
    have hlocks := B.notSynchronized
    have hr := B.returns
    rw [lg_entry_eq]
    have hL := zj_entry g as hlen
    refine hk p l e (zj_rm d) s m (as.map (zj_tr g)).toArray below meth c (zj_A g) g 0 0 (MQ below (zj_Qc g res mem') (as.map (zj_tr g)).toArray s 0 0 (zj_A g)) res mem' ?_ ?_ (zj_E0 nL as) [] mem hm s.heap _ [] hP va_S.rf hL
    · refine ⟨B.exec, B.bytes, hml, hown, hts, hK, fun mem2 => ?_, hX, ⟨Nat.le_refl _, Nat.le_refl _, Nat.le_refl _, Nat.le_refl _⟩, fun h => absurd h (Nat.lt_irrefl 0)⟩
      refine ⟨fun i j a b hi hj hab => ?_, fun i a hi => ?_⟩
      · have hi' : i < zj_N := by simpa [zj_w] using (List.getElem?_eq_some_iff.mp hi).1
        have hj' : j < zj_N := by simpa [zj_w] using (List.getElem?_eq_some_iff.mp hj).1
        rw [zj_w_get g mem2 hi'] at hi
        rw [zj_w_get g mem2 hj'] at hj
        cases hi; cases hj
        exact hD.1 i j _ _ (zj_w_get g mem hi') (zj_w_get g mem hj') hab
      · have hi' : i < zj_N := by simpa [zj_w] using (List.getElem?_eq_some_iff.mp hi).1
        rw [zj_w_get g mem2 hi'] at hi
        cases hi
        exact ⟨i, hi', rfl⟩
    · intro hok pc H ls locs hP1 hS1 hdg
      have fin : ∀ t : State, t.heap = H → zj_Qc g res mem' (as.map (zj_tr g)).toArray s (.returned (res.map (zj_tr g)).head?) t := fun t ht => ⟨⟨rfl, by rw [ht]; exact hP1⟩, hS1.F ht⟩
      rcases hrt with rfl | rfl
      · match res, hok, fin with
        | [.int x], hok, fin =>
          have hx : x.toUInt32.toUInt16.toUInt32.toInt32 = x := by simpa [zj_rok] using hok
          exact W.zret (v := x) B.exec B.bytes hr (by show Value.int _ = _; rw [hx]) (fun t ht _ => fin t ht) hS1.2.2 hdg
      · match res, hok, fin with
        | [.int x], hok, fin =>
          have hx : x.toInt8.toInt32 = x := by simpa [zj_rok] using hok
          exact W.zret (v := x) B.exec B.bytes hr (by show Value.int _ = _; rw [hx]) (fun t ht _ => fin t ht) hS1.2.2 hdg
  · cases hm
