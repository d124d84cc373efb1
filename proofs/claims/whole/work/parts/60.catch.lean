/-! CATCHING: an entry of the handler table whose class may not have been looked up yet -/
theorem cf_go {e : Env} {s : State} {f : JFrame} {a : Addr} {Q : Handler → Pre} {E : CtlPost} {d : Bool} {acts : List Action} {x : ExceptionTableEntry} {t : List ExceptionTableEntry} {c : ClassId} {cell : Cell} {vm' : Vm} (hx : covers x f.pc = true) (h0 : x.catchType ≠ 0)
    (hg : (Jvm.resolveClass f.method.cls x.catchType).Gives e.toSetting s.vm (.ok c) vm') (hsz : vm'.classes.size ≤ s.vm.classes.size) (hcell : s.heap[a]? = some cell) (hobj : ∀ k, cell.vm ≠ .statics k) (hk : ∃ k, vm'.classes[cell.cls]? = some k) (hc : ∃ k, vm'.classes[c]? = some k) :
    wp (findHandler.go f a (x :: t)) Q E e d acts s ↔ if vm'.assignable cell.cls c = true then Q (.found x.handlerPc) d acts (s.setVm vm') else wp (findHandler.go f a t) Q E e d acts (s.setVm vm') := by
  simp only [covers] at hx
  obtain ⟨ha, ht⟩ := hg.op (op := VmOp.resolveClass f.method.cls x.catchType) rfl
  cases hfit : vm'.assignable cell.cls c <;>
    simp [findHandler.go, hx, h0, ha, ht, hsz, hcell, hobj, hk, hc, hfit, VmOp.dirties, VmOp.acts]
/-- the search ends at a handler, with warmer tables -/
def cFinds (e : Env) (s : State) (f : JFrame) (a : Addr) (pc : Nat) (vm' : Vm) : Prop :=
  ∀ (Q : Handler → Pre) (E : CtlPost) (d : Bool) (acts : List Action), wp (findHandler f a) Q E e d acts s ↔ Q (.found pc) d acts (s.setVm vm')
theorem cf_catch {e : Env} {s : State} {a : Addr} {f : JFrame} {r : List Frame} {pc : Nat} {vm' : Vm} (hfind : cFinds e s f a pc vm') :
    (stepThrowing e s a (.java f :: r)).Is ((s.setVm vm').setFrames (.java { f with pc := pc, stack := [.ref a] } :: r)) [] := by
  simp only [stepThrowing, searchFrame, vmDo]
  generalize hr : Sem.go _ e false [] s = res
  obtain ⟨as, rfl, ha⟩ := Sem.eq_ok_of hr (a := Handler.found pc) (s' := s.setVm vm') (acts' := []) (by simp [hfind _ _ _ _])
  exact ⟨rfl, ha⟩
theorem cf_steps {tb : Tables} {e : Env} {s target : State} {g : JFrame} {c : Code} {below : List Frame} {a : Addr} (h : At s g.method c below) {pc : Nat} {vm' : Vm} (hfind : cFinds e ((s.setTop g).pushFrame (.throwing a)) g a pc vm')
    (hrest : Steps tb e below ((s.setVm vm').setTop { g with pc := pc, stack := [.ref a] }) target) : Steps tb e below ((s.setTop g).pushFrame (.throwing a)) target := by
  obtain ⟨hgo, hw⟩ := h.throwing a
  refine Steps.head hgo hw ?_
  rw [stepThread_throwing (frames_entered h.top _), (cf_catch (s := (s.setTop g).pushFrame (.throwing a)) hfind).1]
  obtain ⟨g₀, hg⟩ := Option.isSome_iff_exists.mp h.top
  obtain ⟨r, hr⟩ := State.topJava?_eq_some.mp hg
  have hr' : (s.setVm vm').frames = .java g₀ :: r := hr
  rw [State.setTop_of_frames _ hr'] at hrest
  have e1 : (((s.setTop g).pushFrame (.throwing a)).setVm vm').setFrames (.java { g with pc := pc, stack := [.ref a] } :: s.frames.tail) = (s.setVm vm').setFrames (.java { g with pc := pc, stack := [.ref a] } :: r) := by
    rw [State.pushFrame, State.setTop_of_frames _ hr, State.setFrames_setFrames, hr]
    obtain ⟨th, hth, -⟩ := State.frames_cons hr
    have hcur : s.cur < s.threads.size := (Array.getElem?_eq_some_iff.mp hth).1
    show ((s.setFrames _).setVm vm').setFrames _ = _
    rw [show ((s.setFrames (.throwing a :: (s.setFrames (.java g :: r)).frames)).setVm vm') = (s.setVm vm').setFrames (.throwing a :: (s.setFrames (.java g :: r)).frames) from rfl, State.setFrames_setFrames]
    rfl
  rw [e1]
  exact hrest
section CTC
variable {p : Program} {l : Launch} {e : Env} {R : Room} {s : State} {m : MethodId} {args : Array Value} {below : List Frame} {meth : Method} {c : Code} {H : Heap} {locs : List Loc} {Q : State → Prop}
variable {cc : ByteArray} {pc : Nat} {ls : Array Slot} {rest st0 : List Value}
/-- what the walk holds at the handler -/
abbrev cK (p : Program) (l : Launch) (e : Env) (R : Room) (s : State) (m : MethodId) (args : Array Value) (below : List Frame) (meth : Method) (c : Code) (H : Heap) (locs : List Loc) (Q : State → Prop) (ls : Array Slot) (hpc : Nat) : Prop :=
  ∀ (x : Nat) (H1 : Heap), H.size ≤ H1.size → (∀ a : Nat, a < H.size → H1[a]? = H[a]?) → W p l e R s m args below meth c H1 locs 1 6 Q (F0 m hpc ls [.ref x])
/-- caught by the first entry -/
theorem tr_catch1 {own X : String} {sp ep hp ct : Nat} {more : List (Nat × Nat × Nat × Nat)} (hr : tX_Run p l e R s m args below meth c H locs (F0 m pc ls st0) rest X) (hown : s.vm.findClass own = some m.cls) (htab : c.exceptionTable.toList.map (fun h => (h.startPc, h.endPc, h.handlerPc, h.catchType)) = (sp, ep, hp, ct) :: more)
    (hcl : (Cond.classLink own ct X).before args s = true) (hca : (Cond.castable X X).before args s = true) (hin : sp ≤ pc ∧ pc < ep) (h0 : ct ≠ 0) (kk : cK p l e R s m args below meth c H locs Q ls hp) : W p l e R s m args below meth c H locs 0 0 Q (F0 m pc ls st0) := by
  intro T hT X9
  obtain ⟨x, T', X', ⟨cell, h1, h2, h3⟩, hz, ho2, hst⟩ := hr T hT X9
  have hpl : e.platform.magicAccessors = ({} : Platform).magicAccessors := by rw [X9.admits.platform]
  obtain ⟨c1, t1, hc1, ht1, hasg⟩ := Cond.castable_spec hca
  cases hc1.symm.trans ht1
  cases h3.symm.trans hc1
  obtain ⟨cX, hfX, hlk⟩ := Cond.classLink_spec hown hcl e.platform hpl
  cases hc1.symm.trans hfX
  obtain ⟨hg₁, hwarm₁, -⟩ := State.classEntry (e := e) X'.warmed hlk
  generalize T'.vm.noted m.cls ct (.cls cell.cls) = vm₁ at hg₁ hwarm₁
  obtain ⟨kX, hkX, -⟩ := Vm.findClass_spec hc1
  obtain ⟨k₁, hk₁, -⟩ := hwarm₁.alike.2.2 _ _ hkX
  have hsz : vm₁.classes.size ≤ T'.vm.classes.size := by have a1 := hwarm₁.alike.2.1; have a2 := X'.warmed.alike.2.1; omega
  obtain ⟨en, tl, htl, he1, he2, he3, he4⟩ : ∃ en tl, c.exceptionTable.toList = en :: tl ∧ en.startPc = sp ∧ en.endPc = ep ∧ en.handlerPc = hp ∧ en.catchType = ct := by
    cases hct : c.exceptionTable.toList with
    | nil => rw [hct] at htab; cases htab
    | cons en tl =>
      rw [hct] at htab
      simp only [List.map_cons, List.cons.injEq, Prod.mk.injEq] at htab
      exact ⟨en, tl, rfl, htab.1.1, htab.1.2.1, htab.1.2.2.1, htab.1.2.2.2⟩
  have hcov : covers en (F0 m pc ls rest).pc = true := by simp [covers, he1, he2, hin.1, hin.2]
  have hfind : cFinds e ((T'.setTop (F0 m pc ls rest)).pushFrame (.throwing x)) (F0 m pc ls rest) x hp vm₁ := by
    intro Q9 E9 d9 acts9
    rw [W.findHandler_eq (meth := meth) (code := c) (by rw [Stand.throwing_vm]; exact X'.method') X'.code, htl,
      cf_go (c := cell.cls) (cell := cell) (vm' := vm₁) hcov (by rw [he4]; exact h0) (by rw [he4, Stand.throwing_vm]; exact hg₁) (by rw [Stand.throwing_vm]; exact hsz) (by rw [Stand.throwing_heap]; exact h1) (fun k hk => by rw [h2] at hk; cases hk) ⟨k₁, hk₁⟩ ⟨k₁, hk₁⟩]
    rw [if_pos (by rw [hwarm₁.alike.assignable]; exact hasg), he3]
  obtain ⟨t2, a1, b1⟩ := kk x T'.heap hz ho2 (T'.setVm vm₁) rfl (X'.noted hwarm₁)
  exact ⟨t2, hst _ (cf_steps (g := F0 m pc ls rest) X'.here hfind a1), b1⟩
/-- passed by the first entry, caught by the second -/
theorem tr_catch2 {own X Y : String} {sp ep hp ct sp2 ep2 hp2 ct2 : Nat} {more : List (Nat × Nat × Nat × Nat)} (hr : tX_Run p l e R s m args below meth c H locs (F0 m pc ls st0) rest X) (hown : s.vm.findClass own = some m.cls) (htab : c.exceptionTable.toList.map (fun h => (h.startPc, h.endPc, h.handlerPc, h.catchType)) = (sp, ep, hp, ct) :: (sp2, ep2, hp2, ct2) :: more)
    (hcl : (Cond.classLink own ct Y).before args s = true) (hno : va_Nc X Y s) (hcl2 : (Cond.classLink own ct2 X).before args s = true) (hca : (Cond.castable X X).before args s = true) (hin : sp ≤ pc ∧ pc < ep) (hin2 : sp2 ≤ pc ∧ pc < ep2) (h0 : ct ≠ 0) (h02 : ct2 ≠ 0) (kk : cK p l e R s m args below meth c H locs Q ls hp2) : W p l e R s m args below meth c H locs 0 0 Q (F0 m pc ls st0) := by
  intro T hT X9
  obtain ⟨x, T', X', ⟨cell, h1, h2, h3⟩, hz, ho2, hst⟩ := hr T hT X9
  have hpl : e.platform.magicAccessors = ({} : Platform).magicAccessors := by rw [X9.admits.platform]
  obtain ⟨c1, t1, hc1, ht1, hasg⟩ := Cond.castable_spec hca
  cases hc1.symm.trans ht1
  cases h3.symm.trans hc1
  obtain ⟨cN, tN9, hn1, hn2, hn3⟩ := hno
  cases hc1.symm.trans hn1
  obtain ⟨cY, hfY, hlkY⟩ := Cond.classLink_spec hown hcl e.platform hpl
  cases hn2.symm.trans hfY
  obtain ⟨hgY, hwY, -⟩ := State.classEntry (e := e) X'.warmed hlkY
  generalize T'.vm.noted m.cls ct (.cls tN9) = vmY at hgY hwY
  obtain ⟨cX, hfX, hlk⟩ := Cond.classLink_spec hown hcl2 e.platform hpl
  cases hc1.symm.trans hfX
  obtain ⟨hg₁, hwarm₁, -⟩ := State.classEntry (e := e) hwY hlk
  generalize vmY.noted m.cls ct2 (.cls cell.cls) = vm₁ at hg₁ hwarm₁
  obtain ⟨kX, hkX, -⟩ := Vm.findClass_spec hc1
  obtain ⟨kY, hkY, -⟩ := Vm.findClass_spec hn2
  obtain ⟨k₁, hk₁, -⟩ := hwarm₁.alike.2.2 _ _ hkX
  obtain ⟨k₂, hk₂, -⟩ := hwY.alike.2.2 _ _ hkX
  obtain ⟨k₃, hk₃, -⟩ := hwY.alike.2.2 _ _ hkY
  have hszY : vmY.classes.size ≤ T'.vm.classes.size := by have a1 := hwY.alike.2.1; have a2 := X'.warmed.alike.2.1; omega
  have hsz : vm₁.classes.size ≤ vmY.classes.size := by have a1 := hwarm₁.alike.2.1; have a2 := hwY.alike.2.1; omega
  obtain ⟨en, en2, tl, htl, he1, he2, he3, he4, hf1, hf2, hf3, hf4⟩ : ∃ en en2 tl, c.exceptionTable.toList = en :: en2 :: tl ∧ en.startPc = sp ∧ en.endPc = ep ∧ en.handlerPc = hp ∧ en.catchType = ct ∧ en2.startPc = sp2 ∧ en2.endPc = ep2 ∧ en2.handlerPc = hp2 ∧ en2.catchType = ct2 := by
    cases hct : c.exceptionTable.toList with
    | nil => rw [hct] at htab; cases htab
    | cons en tl =>
      cases tl with
      | nil => rw [hct] at htab; simp at htab
      | cons en2 tl =>
        rw [hct] at htab
        simp only [List.map_cons, List.cons.injEq, Prod.mk.injEq] at htab
        exact ⟨en, en2, tl, rfl, htab.1.1, htab.1.2.1, htab.1.2.2.1, htab.1.2.2.2, htab.2.1.1, htab.2.1.2.1, htab.2.1.2.2.1, htab.2.1.2.2.2⟩
  have hcov : covers en (F0 m pc ls rest).pc = true := by simp [covers, he1, he2, hin.1, hin.2]
  have hcov2 : covers en2 (F0 m pc ls rest).pc = true := by simp [covers, hf1, hf2, hin2.1, hin2.2]
  have hfind : cFinds e ((T'.setTop (F0 m pc ls rest)).pushFrame (.throwing x)) (F0 m pc ls rest) x hp2 vm₁ := by
    intro Q9 E9 d9 acts9
    rw [W.findHandler_eq (meth := meth) (code := c) (by rw [Stand.throwing_vm]; exact X'.method') X'.code, htl,
      cf_go (c := tN9) (cell := cell) (vm' := vmY) hcov (by rw [he4]; exact h0) (by rw [he4, Stand.throwing_vm]; exact hgY) (by rw [Stand.throwing_vm]; exact hszY) (by rw [Stand.throwing_heap]; exact h1) (fun k hk => by rw [h2] at hk; cases hk) ⟨k₂, hk₂⟩ ⟨k₃, hk₃⟩,
      if_neg (by rw [hwY.alike.assignable, hn3]; decide),
      cf_go (c := cell.cls) (cell := cell) (vm' := vm₁) hcov2 (by rw [hf4]; exact h02) (by rw [hf4]; exact hg₁) hsz (by show ((T'.setTop (F0 m pc ls rest)).pushFrame (.throwing x)).heap[x]? = _; rw [Stand.throwing_heap]; exact h1) (fun k hk => by rw [h2] at hk; cases hk) ⟨k₁, hk₁⟩ ⟨k₁, hk₁⟩,
      if_pos (by rw [hwarm₁.alike.assignable]; exact hasg), hf3]
    rfl
  obtain ⟨t2, a1, b1⟩ := kk x T'.heap hz ho2 (T'.setVm vm₁) rfl (X'.noted hwarm₁)
  exact ⟨t2, hst _ (cf_steps (g := F0 m pc ls rest) X'.here hfind a1), b1⟩
end CTC
