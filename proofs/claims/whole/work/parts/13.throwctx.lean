/-! WHAT A THROW RESTS ON: words of the tables, two statics of Throwable, the texts -/
def xIA : String := "java/lang/IllegalArgumentException"
def xIS : String := "java/lang/IllegalStateException"
def xNs : List String := ["java/lang/RuntimeException", "java/lang/Exception"]
def exc (k : Nat) : String := if k = 1 then xIA else xIS
def tkw : Cond → Bool
  | .declares _ => true
  | .castable _ _ => true
  | _ => false
def tk : List Cond := lw_tbl.filter tkw
def tZ1 : Cond := .isRef (.static Bundle.tN "UNASSIGNED_STACK" Bundle.steD)
def tZ2 : Cond := .isRef (.static Bundle.tN "SUPPRESSED_SENTINEL" Bundle.listD)
def tL1 : Cond := .laysStatic Bundle.tN "UNASSIGNED_STACK" Bundle.steD
def tL2 : Cond := .laysStatic Bundle.tN "SUPPRESSED_SENTINEL" Bundle.listD
theorem oa_IA : ∀ w ∈ Bundle.ownAtoms R_T 84 xIA xNs, ((w ∈ lw_tbl ∧ (goodWord w = true ∨ tkw w = true)) ∨ w = tZ1 ∨ w = tZ2 ∨ w = tL1 ∨ w = tL2) := by decide +kernel
theorem oa_IS : ∀ w ∈ Bundle.ownAtoms R_T 59 xIS xNs, ((w ∈ lw_tbl ∧ (goodWord w = true ∨ tkw w = true)) ∨ w = tZ1 ∨ w = tZ2 ∨ w = tL1 ∨ w = tL2) := by decide +kernel
def xTx : List (Nat × String) := [(57, "there are 12 nodes"), (74, "there are 6 zones"), (82, "both nodes are one"), (87, "there are 40 streets"), (158, "k is below 0"), (195, "nothing was assigned"), (204, "there is no such node"), (206, "there is no such zone"), (208, "there is no such street"), (210, "a number is out of its bounds")]
/-- a static that holds a reference or null, with all that the tables say of its place -/
def tZ (C n d : String) (A : Nat → Prop) (U : State) (H : Heap) : Prop := ∃ (c : ClassId) (k : Class) (i : Nat) (f : Field) (a : Nat) (cell : Cell) (v : Value), U.vm.findClass C = some c ∧ U.fieldFound? C n d = some (c, k, i, f) ∧ f.isStatic = true ∧ k.statics = some a ∧ H[a]? = some cell ∧ cell.vm.isStatics = true ∧ cell.cls = c ∧ f.slot < cell.slots.size ∧ k.staticTypes[f.slot]? = some f.type ∧ cell.slots[f.slot]? = some v ∧ (v = .null ∨ ∃ t, v = .ref t) ∧ ¬ A a
theorem tZ.moved {C n d : String} {A : Nat → Prop} {u U : State} {H : Heap} (hvm : u.vm.Alike U.vm) (h : tZ C n d A u H) : tZ C n d A U H := by
  obtain ⟨c, k, i, f, a, cell, v, h0, h1, h2, h3, h4, h5, h6, h7, h8, h9⟩ := h
  obtain ⟨k', hi', he⟩ := State.fieldFound?_setVm hvm h1
  exact ⟨c, k', i, f, a, cell, v, by rw [hvm.findClass]; exact h0, hi', h2, by rw [he]; exact h3, h4, h5, h6, h7, by rw [he]; exact h8, h9⟩
theorem tZ.kept {C n d : String} {A : Nat → Prop} {U : State} {H H1 : Heap} (h : tZ C n d A U H) (hq : ∀ a : Nat, a < H.size → ¬ A a → H1[a]? = H[a]?) : tZ C n d A U H1 := by
  obtain ⟨c, k, i, f, a, cell, v, h0, h1, h2, h3, h4, h5, h6, h7, h8, h9, h10, h11⟩ := h
  exact ⟨c, k, i, f, a, cell, v, h0, h1, h2, h3, by rw [hq a (Array.getElem?_eq_some_iff.mp h4).1 h11]; exact h4, h5, h6, h7, h8, h9, h10, h11⟩
theorem tZ.narrow {C n d : String} {A B : Nat → Prop} {U : State} {H : Heap} (h : tZ C n d A U H) (hAB : ∀ q, B q → A q) : tZ C n d B U H := by
  obtain ⟨c, k, i, f, a, cell, v, h0, h1, h2, h3, h4, h5, h6, h7, h8, h9, h10, h11⟩ := h
  exact ⟨c, k, i, f, a, cell, v, h0, h1, h2, h3, h4, h5, h6, h7, h8, h9, h10, fun z => h11 (hAB a z)⟩
theorem tZ.lay {C n d : String} {A : Nat → Prop} {U : State} {args : Array Value} (h : tZ C n d A U U.heap) : (Cond.laysStatic C n d).before args U = true := by
  obtain ⟨c, k, i, f, a, cell, v, h0, h1, h2, h3, h4, h5, h6, h7, h8, h9, h10, h11⟩ := h
  simp [Cond.before, Cond.holds, Cond.value, h0, h1, h2, h3, h4, h5, h6, h7, h8]
theorem tZ.is {C n d : String} {A : Nat → Prop} {U : State} {args : Array Value} (h : tZ C n d A U U.heap) : (Cond.isRef (.static C n d)).before args U = true := by
  obtain ⟨c, k, i, f, a, cell, v, h0, h1, h2, h3, h4, h5, h6, h7, h8, h9, h10, h11⟩ := h
  rcases h10 with rfl | ⟨t, rfl⟩
  · simp [Cond.before, Cond.holds, Cond.value, Term.eval, State.fieldNamed?, h1, h2, h3, h4, h5, h9]
  · simp [Cond.before, Cond.holds, Cond.value, Term.eval, State.fieldNamed?, h1, h2, h3, h4, h5, h9]
theorem tZ.of {C n d : String} {A : Nat → Prop} {s : State} {args : Array Value} (hl : (Cond.laysStatic C n d).before args s = true) (h : (Cond.isRef (.static C n d)).before args s = true) (hA : ∀ a : Nat, a < s.heap.size → ¬ A a) : tZ C n d A s s.heap := by
  obtain ⟨c, k, i, f, a, cell, h0, h1, h2, h3, h4, h5, h6, h7, h8⟩ := Cond.laysStatic_spec (args := args) (first := s) (o := none) (s := s) (idx := []) hl
  obtain ⟨v, hv⟩ : ∃ v, cell.slots[f.slot]? = some v := ⟨_, Array.getElem?_eq_some_iff.mpr ⟨h7, rfl⟩⟩
  refine ⟨c, k, i, f, a, cell, v, h0, h1, h2, h3, h4, h5, h6, h7, h8, hv, ?_, hA a (Array.getElem?_eq_some_iff.mp h4).1⟩
  simp [Cond.before, Cond.holds, Cond.value, Term.eval, State.fieldNamed?, h1, h2, h3, h4, h5, hv] at h
  cases v with
  | null => exact Or.inl rfl
  | ref t => exact Or.inr ⟨t, rfl⟩
  | _ => simp at h
def tT (U : State) : Prop := (∀ w ∈ tk, va_Nw w U) ∧ tZ Bundle.tN "UNASSIGNED_STACK" Bundle.steD tNo U U.heap ∧ tZ Bundle.tN "SUPPRESSED_SENTINEL" Bundle.listD tNo U U.heap ∧ ∀ q ∈ xTx, ∃ a, vk_R R_T q.1 q.2 a U
theorem tkw_on {w : Cond} (h : tkw w = true) : w.onTables = true := by
  cases w <;> first | rfl | (simp [tkw] at h; done)
theorem tk_warm {s U : State} {w : Cond} (hW : s.WarmedH U.vm) (hk : tkw w = true) (h : va_Nw w s) : va_Nw w U := by
  cases w <;> first | exact va_Nw.warmD hW h | exact va_Nw.warmC hW h | (simp [tkw] at hk; done)
theorem tT_go {s U : State} {H : Heap} {locs : List Loc} (h : tT s) (hS : va_S tNo s.heap H locs) (hU : U.heap = H) (hW : s.WarmedH U.vm) : tT U := by
  obtain ⟨h1, h2, h3, h4⟩ := h
  have hk : ∀ a : Nat, a < s.heap.size → ¬ tNo a → U.heap[a]? = s.heap[a]? := fun a ha hn => by rw [hU]; exact hS.2.1 a ha hn
  refine ⟨fun w hw => tk_warm hW (List.mem_filter.mp hw).2 (h1 w hw), (h2.kept hk).moved hW.alike, (h3.kept hk).moved hW.alike, fun q hq => ?_⟩
  obtain ⟨a, ha⟩ := h4 q hq
  exact ⟨a, ha.warm hW⟩
theorem tT_calling {U : State} {g : JFrame} {mk : MethodId} {a : Array Value} (h : tT U) : tT (U.calling g mk a) := by
  obtain ⟨h1, h2, h3, h4⟩ := h
  refine ⟨fun w hw => va_Nw.same (u := U) (tkw_on (List.mem_filter.mp hw).2) rfl (h1 w hw), tZ.moved (u := U) (U := U.calling g mk a) (Vm.Alike.refl U.vm) h2, tZ.moved (u := U) (U := U.calling g mk a) (Vm.Alike.refl U.vm) h3, fun q hq => ?_⟩
  obtain ⟨b, hb⟩ := h4 q hq
  exact ⟨b, vk_R.same (u := U) rfl hb⟩
theorem oa_hold {args : Array Value} {s : State} (ht : ∀ w ∈ tw, w.before args s = true) (hT : tT s) {ws : List Cond} (h : ∀ w ∈ ws, ((w ∈ lw_tbl ∧ (goodWord w = true ∨ tkw w = true)) ∨ w = tZ1 ∨ w = tZ2 ∨ w = tL1 ∨ w = tL2)) : ∀ w ∈ ws, w.before args s = true := by
  intro w hw
  rcases h w hw with ⟨hm, hg | hk⟩ | rfl | rfl | rfl | rfl
  · exact ht w (List.mem_filter.mpr ⟨hm, hg⟩)
  · exact va_Nw.use (tkw_on hk) (hT.1 w (List.mem_filter.mpr ⟨hm, hk⟩))
  · exact hT.2.1.is
  · exact hT.2.2.1.is
  · exact hT.2.1.lay
  · exact hT.2.2.1.lay
/-- the start of a throwing road -/
def tPX (D : va_G) (cl : List vw_C) (tys : List (ClassId × FieldType)) (w : va_W) (av : List Value) : Array Value → State → Prop := fun v U => tP D cl tys w av v U ∧ tT U
theorem tPX_blind {D : va_G} {cl : List vw_C} {tys : List (ClassId × FieldType)} {w : va_W} {av : List Value} : FrameBlind (tPX D cl tys w av) := fun a U g mk q => ⟨tP_blind a U g mk q.1, tT_calling q.2⟩
