/-! THE LAW'S BODY: what stands fast, the two worlds apart -/
def lB (s : State) : Nat → Prop := fun q => s.heap.size ≤ q
def lJ (s : State) (adC adR : Nat → Nat) (o : Nat) : Prop := tD 37 adC ∧ tD 26 adR ∧ (∀ k, k < 37 → adC k ≠ o) ∧ (∀ k, k < 26 → adR k ≠ o) ∧ (∀ j, j < 37 → ∀ k, k < 26 → adC j ≠ adR k) ∧ (∀ k, k < 37 → s.heap.size ≤ adC k) ∧ (∀ k, k < 26 → s.heap.size ≤ adR k) ∧ s.heap.size ≤ o
theorem lr_kept {s : State} {D : va_G} {adC adR : Nat → Nat} {taR : Nat → ClassId} {o : Nat} {τ : tS} {H H1 : Heap} (hJ : lJ s adC adR o) (hR : va_P D clS (cwR adR taR τ) H) (hk : ∀ q : Nat, q < H.size → ¬ lA adC o q → H1[q]? = H[q]?) : va_P D clS (cwR adR taR τ) H1 := by
  obtain ⟨-, hdR, -, hoR, hCR, -⟩ := hJ
  refine hR.kept (fun k q hq => hk q.1 ((hR k q hq).lt) ?_)
  obtain ⟨j, hj, e⟩ := (cwR_D (ta := taR) (σ := τ) hdR).2 k q hq
  rintro (⟨i, hi, e2⟩ | e2)
  · exact hCR i hi j hj (by rw [← e2]; exact e)
  · exact hoR j hj (by rw [← e]; exact e2)
theorem lc_kept {s : State} {D : va_G} {adC adR : Nat → Nat} {taC : Nat → ClassId} {o : Nat} {cO : ClassId} {f : Nat → Int64} {σ : tS} {A : Nat → Prop} {H H1 : Heap} (hJ : lJ s adC adR o) (hA : ∀ q, A q → tA 26 adR q) (hP : va_P D clS (cwC adC taC σ ++ lO o cO f) H) (hk : ∀ q : Nat, q < H.size → ¬ A q → H1[q]? = H[q]?) : va_P D clS (cwC adC taC σ ++ lO o cO f) H1 := by
  obtain ⟨hdC, -, hoC, hoR, hCR, -⟩ := hJ
  refine hP.kept (fun k q hq => hk q.1 ((hP k q hq).lt) (fun h => ?_))
  obtain ⟨j, hj, e⟩ := hA q.1 h
  rcases (lD_of (ta := taC) (σ := σ) (cO := cO) (f := f) hdC hoC).2 k q hq with ⟨i, hi, e2⟩ | e2
  · exact hCR i hi j hj (by rw [← e2]; exact e)
  · exact hoR j hj (by rw [← e]; exact e2)
theorem lc_in {s : State} {adC adR : Nat → Nat} {o : Nat} (hJ : lJ s adC adR o) : ∀ q, lA adC o q → lB s q := by
  rintro q (⟨k, hk, rfl⟩ | rfl)
  · exact hJ.2.2.2.2.2.1 k hk
  · exact hJ.2.2.2.2.2.2.2
theorem lr_in {s : State} {adC adR : Nat → Nat} {o : Nat} (hJ : lJ s adC adR o) : ∀ q, tA 26 adR q → lB s q := by
  rintro q ⟨k, hk, rfl⟩
  exact hJ.2.2.2.2.2.2.1 k hk
theorem tT_law {s U : State} {H : Heap} {locs : List Loc} (h : tT s) (hS : va_S (lB s) s.heap H locs) (hU : U.heap = H) (hW : s.WarmedH U.vm) : tT U := by
  obtain ⟨h1, h2, h3, h4⟩ := h
  have hk : ∀ a : Nat, a < s.heap.size → ¬ tNo a → U.heap[a]? = s.heap[a]? := fun a ha _ => by rw [hU]; exact hS.2.1 a ha (Nat.not_le.mpr ha)
  refine ⟨fun w hw => tk_warm hW (List.mem_filter.mp hw).2 (h1 w hw), (h2.kept hk).moved hW.alike, (h3.kept hk).moved hW.alike, fun q hq => ?_⟩
  obtain ⟨a, ha⟩ := h4 q hq
  exact ⟨a, ha.warm hW⟩
theorem li_in {i k L : Nat} {v : Int32} (hv : v = nI k) (h : i + k < L) (hL : L ≤ 3072) : vp_in (nI i + v) L := by
  rw [hv, nI_add]
  exact vp_in_nI h (by omega)
section LSW9
variable {p : Program} {l : Launch} {e : Env} {R : Room} {s : State} {m : MethodId} {args : Array Value} {below : List Frame} {meth : Method} {c : Code} {H : Heap} {locs : List Loc} {cells slots : Nat}
theorem tr_runSW {y : MethodName} {bytes cc : ByteArray} {maxL nL mc ms index : Nat} {ret : Option FieldType} {hh : List (Nat × Nat × Nat × Nat)} {ws : List Cond} {rm : Room} {Pc : Array Value → State → Prop} {Qc : Array Value → State → Outcome → State → Prop} {free : Addr → Prop} {Ts : List Cond} {own : String} {As rest : List Value} {g : JFrame}
    (S : CallFix p m c cc nL s args Ts own) (hM : Met l y ws rm Pc Qc mc ms free) (cw : rm.cells = mc ∧ rm.slots = ms ∧ rm.frames + 1 ≤ R.frames ∧ 8 + (maxL + 11) + rm.locals ≤ R.locals ∧ (∀ w ∈ ws, ∀ (a' : Array Value) (U : State), s.WarmedH U.vm → w.before a' U = true) ∧ Cond.codeWith y bytes maxL ret hh ∈ ws)
    (hcode : (Cond.codeWith y bytes maxL ret hh).before args s = true) (hini : (Cond.initialized y.cls).before args s = true) (hlink : (Cond.methodLink own index y).before args s = true) (hstat : (Cond.static y).before args s = true) (hy : y.cls ≠ "java/lang/invoke/MethodHandle" ∧ y.cls ≠ "java/lang/invoke/VarHandle") (hn : (parseMethodDescriptor y.desc).map (fun d => d.parameters.length) = some As.length)
    (hp : PreS s H Pc As) (hg : g.method = m) (hsize : g.locals.size = nL) (hstack : g.stack = As.reverse ++ rest) (hW : 2 * g.monitorRoom + (rest.map fun v => v.category).sum ≤ 8) (hdg : decode cc g.pc = .ok (.invokestatic index, 3)) (hf : cells + mc ≤ R.cells ∧ slots + ms ≤ R.slots) :
    va_Run p l e R s m args below meth c H locs cells slots mc ms g rest (Qc As.toArray) (free) := by
  obtain ⟨hrc, hrs, hfr, hlo, hws, hcw⟩ := cw
  have hK : Back l R p e below s args y 3 8 (PreOf R mc ms Pc) (PostOf Qc mc ms free) := va_backW (hh := hh) (bytes := bytes) (maxL := maxL) (ret := ret) hM hp.1 hrc hrs hfr hlo hws hcw (fun a' U hW => word_at hW (Or.inl (by first | rfl | simp [Cond.onTables, Cond.keeps, Cond.steady])) hini)
  obtain ⟨hx, hb, hml, ho, -⟩ := S
  intro T hT X
  subst hb
  obtain ⟨mk, methM, cM, hnamed, hmethM, -, -, -, -, -, -, hsigM⟩ := Cond.codeWith_spec hcode
  have hstatic : methM.isStatic = true := Cond.static_spec hnamed hmethM hstat
  obtain ⟨kP, hkP, -⟩ := className_of_methodNamed hnamed
  have hinitP : kP.init = .initialized := Cond.initialized_spec (findClass_of_methodNamed hnamed) hkP hini
  rw [hsigM] at hn
  obtain ⟨vm₁, X₁, hstep₁⟩ := X.invokestatic hx ho hlink hnamed hmethM hstatic hkP hinitP hy (g := g) hg (argsL := As) (rest := rest) (Option.some.inj hn).symm hstack hdg
  obtain ⟨v, ⟨U', l2, c2, s2⟩, X', ⟨g', mk', t, L, e1, e2, hq, h1, hL, h2, h3⟩, st⟩ := hK m meth c ⟨T.setVm vm₁, locs, cells, slots⟩ { g with stack := rest } (.invokestatic index) mk As.toArray X₁ hg (hsize.trans hml.symm) hdg hW (X₁.named hnamed) ⟨hf.1, hf.2, hp.2 (T.setVm vm₁) hT X₁.warmed⟩
  dsimp only [Pt.U, Pt.locs, Pt.cells, Pt.slots] at X' e1 e2 h1 h2 h3 st
  subst h1; subst h2; subst h3
  exact ⟨v, (T.setVm vm₁).calling g' mk' As.toArray, t, U', L, hT, X', hL, e1, e2, hq, fun target h => hstep₁ _ fun acts => by rw [doInvoke_state]; exact st.trans h⟩
end LSW9
