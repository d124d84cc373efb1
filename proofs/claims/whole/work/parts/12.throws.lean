/-! THROWS: a contract for the road on which a method throws a new object of class X, all old cells as they were -/
def tXo (X : String) (st : State) (o : Outcome) (t : State) : Prop := ∃ (x : Nat) (cell : Cell), o = .threw x ∧ t.heap[x]? = some cell ∧ cell.vm = .none ∧ st.vm.findClass X = some cell.cls
def tXf (st t : State) : Prop := st.WarmedH t.vm ∧ st.sameButNew ({ t with vm := st.vm } : State) [] 1 6
def MetX (l : Launch) (y : MethodName) (ws : List Cond) (rm : Room) (Pc : Array Value → State → Prop) (X : String) : Prop :=
  MetFree l y (headSpec ws rm) Pc (fun _ _ _ _ _ => True) (fun _ st o t => tXo X st o t ∧ tXf st t)
def XQ (below : List Frame) (X : String) (s : State) : State → Prop := fun t => ∃ o, t.status = .running ∧ Ended t below o ∧ tXo X s o t ∧ tXf s t
theorem MetX.ofW {l : Launch} {y : MethodName} {ws ws' : List Cond} {rm : Room} {Pc : Array Value → State → Prop} {X : String} {cc : ByteArray} {maxL : Nat} {ret : Option FieldType}
    (hy : plainName y.cls = true) (hw : ws = Cond.code y cc maxL ret :: ws')
    (body : ∀ p e s m args below meth c s₁, BodyLoose p l y (headSpec ws rm) cc maxL ret e s m args below meth c s₁ → c.maxLocals = maxL → Pc args s →
      W p l e (headSpec ws rm).room s m args below meth c s.heap [] 0 0 (XQ below X s) (entryFrame m args maxL)) : MetX l y ws rm Pc X := by
  refine MetFree.of_bodyS (code := cc) (maxLocals := maxL) (ret := ret) hy ?_ ?_
  · intro args s m h hn
    obtain ⟨meth, c, h1, h2, h3, h4, h5, h6, -, -⟩ := Cond.code_spec hn (atoms_spec (ws := ws) h _ (by rw [hw]; exact List.mem_cons_self))
    exact ⟨meth, c, h1, h2, h3, h4, h5, h6⟩
  · intro p e s m args below meth c s₁ B hml hP _
    have hh0 : s₁.heap = s.heap := by rw [B.state]; rfl
    obtain ⟨t, a1, o, b1, b2, b3⟩ := body p e s m args below meth c s₁ B hml hP s₁ hh0 (Stand.of_body B)
    exact ⟨t, o, a1, b1, b2, b3⟩
def tNo : Nat → Prop := fun _ => False
theorem tNo_nil {H0 H : Heap} {locs : List Loc} (h : va_S tNo H0 H locs) : locs = [] := by
  cases locs with
  | nil => rfl
  | cons a l => exact (h.2.2 a List.mem_cons_self).elim
theorem tx_none {c : Code} (h : c.exceptionTable.isEmpty = true) {k : Nat} : ∀ x ∈ c.exceptionTable.toList, covers x k = false := by
  intro x hx
  have h1 : c.exceptionTable.toList = [] := by simpa using h
  rw [h1] at hx
  cases hx
section TXW
variable {p : Program} {l : Launch} {e : Env} {R : Room} {s : State} {m : MethodId} {args : Array Value} {below : List Frame} {meth : Method} {c : Code} {H : Heap} {locs : List Loc} {cells slots : Nat} {Q : State → Prop}
variable {cc : ByteArray} {pc : Nat} {ls : Array Slot} {rest : List Value}
/-- new X; dup; ldc; <init>(String); athrow -/
theorem tr_throw {own X text : String} {names : List String} {i1 i2 i3 q : Nat} (hexec : p.tables.exec = Jvm.exec) (hb : c.code = cc) (hlocks : meth.locks = false) (hne : c.exceptionTable.isEmpty = true) (htr : l.stackTraces = false) (hown : s.vm.findClass own = some m.cls) (hml : c.maxLocals = ls.size)
    (hX : Bundle.fit X = true) (hnames : ∀ n ∈ names, Bundle.fit n = true) (hw : ∀ a ∈ Bundle.ownAtoms own i3 X names, a.before args s = true) (hcl : (Cond.classLink own i1 X).before args s = true) (hins : (Cond.instantiable X 6).before args s = true) (hini : (Cond.initialized X).before args s = true) (hZ : vk_R own i2 text q s)
    (hS : va_S tNo s.heap H locs) (hR : 1 ≤ R.cells ∧ 6 ≤ R.slots ∧ names.length + 3 < R.frames ∧ 1 + (13 * (names.length + 1) + 42) ≤ R.locals)
    (d1 : decode cc pc = .ok (.new i1, 3)) (d2 : decode cc (pc + 3) = .ok (.dup, 1)) (d3 : decode cc (pc + 4) = .ok (.ldc i2, 2)) (d4 : decode cc (pc + 6) = .ok (.invokespecial i3, 3)) (d5 : decode cc (pc + 9) = .ok (.athrow, 1)) :
    W p l e R s m args below meth c H locs 0 0 (XQ below X s) (F0 m pc ls []) := by
  have hl0 := tNo_nil hS
  subst hl0
  obtain ⟨cX, kX, hfX, hkX, -⟩ := Cond.instantiable_spec hins
  refine W.newcK hexec hb hown hcl hins hini rfl d1 (by omega) (by omega) hfX rfl fun H' kC hkC h1 h2 h3 => ?_
  refine lv_dup hexec hb (pc := pc + 3) d2 rfl ?_
  refine va_ldcS hexec hb hown hZ d3 ?_
  intro T hT X9
  subst hb
  have hcell : T.heap[H.size]? = some (freshCell cX kC) := by rw [hT]; exact h1
  obtain ⟨U, st, hrun, hend, hW, hsame, ce, hce, hoc⟩ := X9.ctorThrowS hexec (by rw [X9.admits.platform]; exact htr) hown hX hnames hw (fun x hx => by cases hx) hfX hkC hcell hS.1 (msg := .ref q) rfl
    (g := F0 m (pc + 6) ls (.ref q :: .ref H.size :: .ref H.size :: [])) rfl hml.symm rfl rfl (rest := []) rfl d4 d5 (tx_none hne) hR.2.2.1 (by show 2 * 0 + _ + _ ≤ _; have := hR.2.2.2; simp [Value.category]; omega) hlocks
  exact ⟨U, st, .threw H.size, hrun, hend, ⟨H.size, ce, rfl, hce, hoc.vm, hoc.cls⟩, hW, hsame⟩
/-- a call that throws: the machine stands with the exception noted over the caller's frame -/
def tX_Run (p : Program) (l : Launch) (e : Env) (R : Room) (s : State) (m : MethodId) (args : Array Value) (below : List Frame) (meth : Method) (c : Code) (H : Heap) (locs : List Loc) (g : JFrame) (rest : List Value) (X : String) : Prop :=
  ∀ T : State, T.heap = H → Stand p l e R s m args below meth c T locs 0 0 → ∃ (x : Nat) (T' : State), Stand p l e R s m args below meth c T' locs 1 6 ∧ (∃ cell : Cell, T'.heap[x]? = some cell ∧ cell.vm = .none ∧ s.vm.findClass X = some cell.cls) ∧ H.size ≤ T'.heap.size ∧ (∀ a : Nat, a < H.size → T'.heap[a]? = H[a]?) ∧
    ∀ target, Steps p.tables e below ((T'.setTop { g with stack := rest }).pushFrame (.throwing x)) target → Steps p.tables e below (T.setTop g) target
theorem tx_back {T : State} (X9 : Stand p l e R s m args below meth c T locs 0 0) {y : MethodName} {ws : List Cond} {rm : Room} {Pc : Array Value → State → Prop} {X : String} {bytes : ByteArray} {maxL : Nat} {ret : Option FieldType} (hM : MetX l y ws rm Pc X)
    (hws : ∀ w ∈ ws, ∀ (a' : Array Value) (U : State), s.WarmedH U.vm → w.before a' U = true) (hcode : Cond.code y bytes maxL ret ∈ ws) (hini : ∀ (a' : Array Value) (U : State), s.WarmedH U.vm → (Cond.initialized y.cls).before a' U = true)
    (hr : rm.cells ≤ R.cells ∧ rm.slots ≤ R.slots ∧ rm.frames + 1 ≤ R.frames ∧ 8 + (maxL + 11) + rm.locals ≤ R.locals)
    {g : JFrame} {ig : Instr} {mk : MethodId} {a : Array Value} (hg : g.method = m) (hsize : g.locals.size = c.maxLocals) (hdg : decode c.code g.pc = .ok (ig, 3)) (hW : 2 * g.monitorRoom + (g.stack.map fun v => v.category).sum ≤ 8) (hn : T.methodNamed? y = some mk) (hp : Pc a (T.calling g mk a)) :
    ∃ (x : Nat) (T' : State), Stand p l e R s m args below meth c T' locs 1 6 ∧ (∃ cell : Cell, T'.heap[x]? = some cell ∧ cell.vm = .none ∧ s.vm.findClass X = some cell.cls) ∧ T.heap.size ≤ T'.heap.size ∧ (∀ b : Nat, b < T.heap.size → T'.heap[b]? = T.heap[b]?) ∧
      Steps p.tables e below (doInvoke e (T.setTop g) [] mk a).1 ((T'.setTop g).pushFrame (.throwing x)) := by
  obtain ⟨methY, cY, hmY, hcY, -, hlY, -, -, -, -⟩ := Cond.code_spec hn (hws _ hcode a T X9.warmed)
  obtain ⟨kY, hkY, -⟩ := className_of_methodNamed hn
  have hinitY : kY.init = .initialized := Cond.initialized_spec (findClass_of_methodNamed hn) hkY (hini a T X9.warmed)
  have h : At T g.method c below := by rw [hg]; exact X9.here
  have happ : (headSpec ws rm).appliesLoose y e.platform (T.calling g mk a) = true :=
    Spec.appliesLoose_calling (g := g) h hdg hn hkY hinitY
      (X9.room_calling (g := g) (R' := (headSpec ws rm).room) hsize hmY hcY hr.2.2.1 (by rw [hlY]; show _ + _ + (maxL + 11) + rm.locals ≤ _; omega) (by show 0 + rm.cells ≤ _; omega) (by show 0 + rm.slots ≤ _; omega)) (atoms_intro fun w hw => hws w hw _ _ X9.warmed)
  have hfr0 : (T.setTop g).frames = .java g :: below := by rw [State.frames_setTop' g h.top, X9.tail]
  have hfr : (T.setTop g).frames = [.java g] ++ below := hfr0
  obtain ⟨o, t, hsteps, -, hend, ⟨⟨x, cell, rfl, hx1, hx2, hx3⟩, hW2, hsame⟩⟩ := Steps.callFree hM p X9.admits X9.cas X9.clock (acts := []) hfr happ hp trivial
  rw [hfr0] at hend
  have hW2' : (T.calling g mk a).WarmedH t.vm := hW2
  have hsame' : (T.calling g mk a).sameButNew ({ t with vm := (T.calling g mk a).vm } : State) [] 1 6 := hsame
  obtain ⟨T', X', hW3, hsame3, ht⟩ := X9.outOfThrown hg hend hW2' hsame'
  have hheap : t.heap = T'.heap := by rw [ht]; exact Stand.throwing_heap T' g x
  rw [List.append_nil, Nat.zero_add, Nat.zero_add] at X'
  refine ⟨x, T', X', ⟨cell, by rw [← hheap]; exact hx1, hx2, ?_⟩, hsame3.2.1, fun b hb => ?_, by rw [← ht]; exact hsteps⟩
  · have h1 : T.vm.findClass X = some cell.cls := hx3
    rw [← X9.warmed.alike.findClass]; exact h1
  · obtain ⟨cb, hcb⟩ : ∃ cb, T.heap[b]? = some cb := ⟨_, Array.getElem?_eq_some_iff.mpr ⟨hb, rfl⟩⟩
    rw [hcb]
    exact hsame3.old_cell hcb
theorem tx_runV {own C : String} {index nL : Nat} {y : MethodName} {bytes : ByteArray} {maxL : Nat} {ret : Option FieldType} {ws : List Cond} {rm : Room} {Pc : Array Value → State → Prop} {X : String} {Ts : List Cond} {b : Addr} {As : List Value} {g : JFrame}
    (S : CallFix p m c cc nL s args Ts own) (hM : MetX l y ws rm Pc X) (cw : (∀ w ∈ ws, ∀ (a' : Array Value) (U : State), s.WarmedH U.vm → w.before a' U = true) ∧ Cond.code y bytes maxL ret ∈ ws ∧ (Cond.initialized y.cls).before args s = true ∧ (rm.cells ≤ R.cells ∧ rm.slots ≤ R.slots ∧ rm.frames + 1 ≤ R.frames ∧ 8 + (maxL + 11) + rm.locals ≤ R.locals))
    (hlink : (Cond.methodLink own index y).before args s = true) (hinst : (Cond.instanceMethod y).before args s = true) (hsel : (Cond.selects C y y).before args s = true) (hcode : (Cond.code y bytes maxL ret).before args s = true) (hy : y.cls ≠ "java/lang/invoke/MethodHandle" ∧ y.cls ≠ "java/lang/invoke/VarHandle")
    (hp : PreV s H C b Pc As) (hg : g.method = m) (hn : (parseMethodDescriptor y.desc).map (fun d => d.parameters.length) = some As.length) (hsize : g.locals.size = nL) (hstack : g.stack = As.reverse ++ .ref b :: rest) (hW : 2 * g.monitorRoom + (rest.map fun v => v.category).sum ≤ 8) (hdg : decode cc g.pc = .ok (.invokevirtual index, 3)) :
    tX_Run p l e R s m args below meth c H locs g rest X := by
  obtain ⟨hx, hb, hml, ho, -⟩ := S
  obtain ⟨hws, hcw, hini, hrm⟩ := cw
  obtain ⟨hbl, ⟨cellB, hcB, hoB, hclB⟩, hPc⟩ := hp
  intro T hT X9
  subst hb
  obtain ⟨mk, methM, hnamed, hmethM, hstM, habM⟩ := Cond.instanceMethod_spec hinst
  obtain ⟨methM', cM, hmethM', -, -, -, -, -, -, hsigM⟩ := Cond.code_spec hnamed hcode
  cases hmethM.symm.trans hmethM'
  obtain ⟨c2, r2, m2, q1, q2, q3, q4, kP, hkP, hkPi⟩ := Cond.selects_spec hsel
  cases hclB.symm.trans q1
  cases (State.methodFound?_of_named hnamed hy).symm.trans q2
  cases hnamed.symm.trans q3
  have hselP : selectMethod e.platform s.vm cellB.cls mk = .method mk := by rw [Launch.admits_selectMethod X9.admits]; exact q4
  rw [hsigM] at hn
  obtain ⟨vm₁, X₁, hstep₁⟩ := X9.invokevirtual hx ho hlink hnamed hmethM hstM hkP hkPi hy (a := b) (cell := cellB) (by rw [hT]; exact hcB)
    (fun z h => by rw [h] at hoB; cases hoB) hselP hmethM habM hkP hkPi (g := g) hg (argsL := As) (rest := rest) (Option.some.inj hn).symm hstack hdg
  obtain ⟨x, T', X', hc, hz, ho2, hst⟩ := tx_back X₁ hM hws hcw (fun a' U hW => word_at hW (Or.inl (by first | rfl | simp [Cond.onTables, Cond.keeps, Cond.steady])) hini) hrm (g := { g with stack := rest }) (ig := .invokevirtual index) (mk := mk) (a := (Value.ref b :: As).toArray) hg (hsize.trans hml.symm) hdg hW (X₁.named hnamed) (hbl _ _ _ _ (hPc (T.setVm vm₁) hT X₁.warmed))
  refine ⟨x, T', X', hc, by rw [← hT]; exact hz, fun a ha => by rw [← hT]; exact ho2 a (by rw [← hT] at ha; exact ha), fun target h => hstep₁ _ fun acts => by rw [doInvoke_state]; exact hst.trans h⟩
theorem tx_runS {own : String} {index nL : Nat} {y : MethodName} {bytes : ByteArray} {maxL : Nat} {ret : Option FieldType} {ws : List Cond} {rm : Room} {Pc : Array Value → State → Prop} {X : String} {Ts : List Cond} {As : List Value} {g : JFrame}
    (S : CallFix p m c cc nL s args Ts own) (hM : MetX l y ws rm Pc X) (cw : (∀ w ∈ ws, ∀ (a' : Array Value) (U : State), s.WarmedH U.vm → w.before a' U = true) ∧ Cond.code y bytes maxL ret ∈ ws ∧ (Cond.initialized y.cls).before args s = true ∧ (rm.cells ≤ R.cells ∧ rm.slots ≤ R.slots ∧ rm.frames + 1 ≤ R.frames ∧ 8 + (maxL + 11) + rm.locals ≤ R.locals))
    (hlink : (Cond.methodLink own index y).before args s = true) (hstat : (Cond.static y).before args s = true) (hcode : (Cond.code y bytes maxL ret).before args s = true) (hy : y.cls ≠ "java/lang/invoke/MethodHandle" ∧ y.cls ≠ "java/lang/invoke/VarHandle")
    (hp : PreS s H Pc As) (hg : g.method = m) (hn : (parseMethodDescriptor y.desc).map (fun d => d.parameters.length) = some As.length) (hsize : g.locals.size = nL) (hstack : g.stack = As.reverse ++ rest) (hW : 2 * g.monitorRoom + (rest.map fun v => v.category).sum ≤ 8) (hdg : decode cc g.pc = .ok (.invokestatic index, 3)) :
    tX_Run p l e R s m args below meth c H locs g rest X := by
  obtain ⟨hx, hb, hml, ho, -⟩ := S
  obtain ⟨hws, hcw, hini, hrm⟩ := cw
  obtain ⟨hbl, hPc⟩ := hp
  intro T hT X9
  subst hb
  obtain ⟨mk, hnamed⟩ := Cond.code_named hcode
  obtain ⟨methM, cM, hmethM, -, -, -, -, -, -, hsigM⟩ := Cond.code_spec hnamed hcode
  have hstatic : methM.isStatic = true := Cond.static_spec hnamed hmethM hstat
  obtain ⟨kP, hkP, -⟩ := className_of_methodNamed hnamed
  have hinitP : kP.init = .initialized := Cond.initialized_spec (findClass_of_methodNamed hnamed) hkP hini
  rw [hsigM] at hn
  obtain ⟨vm₁, X₁, hstep₁⟩ := X9.invokestatic hx ho hlink hnamed hmethM hstatic hkP hinitP hy (g := g) hg (argsL := As) (rest := rest) (Option.some.inj hn).symm hstack hdg
  obtain ⟨x, T', X', hc, hz, ho2, hst⟩ := tx_back X₁ hM hws hcw (fun a' U hW => word_at hW (Or.inl (by first | rfl | simp [Cond.onTables, Cond.keeps, Cond.steady])) hini) hrm (g := { g with stack := rest }) (ig := .invokestatic index) (mk := mk) (a := As.toArray) hg (hsize.trans hml.symm) hdg hW (X₁.named hnamed) (hbl _ _ _ _ (hPc (T.setVm vm₁) hT X₁.warmed))
  refine ⟨x, T', X', hc, by rw [← hT]; exact hz, fun a ha => by rw [← hT]; exact ho2 a (by rw [← hT] at ha; exact ha), fun target h => hstep₁ _ fun acts => by rw [doInvoke_state]; exact hst.trans h⟩
/-- the callee throws, and nothing here catches it -/
theorem tr_pass {X : String} {st0 : List Value} (hr : tX_Run p l e R s m args below meth c H locs (F0 m pc ls st0) rest X) (hlocks : meth.locks = false) (hne : c.exceptionTable.isEmpty = true) (hS : va_S tNo s.heap H locs) : W p l e R s m args below meth c H locs 0 0 (XQ below X s) (F0 m pc ls st0) := by
  have hl0 := tNo_nil hS
  subst hl0
  intro T hT X9
  obtain ⟨x, T', X', ⟨cell, h1, h2, h3⟩, hz, ho2, hst⟩ := hr T hT X9
  obtain ⟨l1, l2, l3, l4, l5⟩ := X'.leaveThrown x (g := F0 m pc ls rest) rfl rfl rfl (tx_none hne) hlocks
  exact ⟨_, hst _ l1, .threw x, l2, l3, ⟨x, cell, rfl, h1, h2, h3⟩, l4, l5⟩
end TXW
