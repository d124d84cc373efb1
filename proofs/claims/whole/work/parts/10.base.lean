/-! STATES OF A COMPONENT: its int fields, its int and boolean arrays, its long arrays, each by a number -/
abbrev tS : Type := (Nat → Int32) × (Nat → Nat → Int32) × (Nat → Nat → Int64)
def tF (σ : tS) (j : Nat) (v : Int32) : tS := (upd σ.1 j v, σ.2)
def tI (σ : tS) (a k : Nat) (v : Int32) : tS := (σ.1, (fun b => if b = a then upd (σ.2.1 a) k v else σ.2.1 b), σ.2.2)
def tJ (σ : tS) (a k : Nat) (v : Int64) : tS := (σ.1, σ.2.1, (fun b => if b = a then vp_updL (σ.2.2 a) k v else σ.2.2 b))
def tIf (σ : tS) (a : Nat) (v : Int32) : tS := (σ.1, (fun b => if b = a then (fun _ => v) else σ.2.1 b), σ.2.2)
def tJf (σ : tS) (a : Nat) (v : Int64) : tS := (σ.1, σ.2.1, (fun b => if b = a then (fun _ => v) else σ.2.2 b))
/-! THE WORDS OF THE PURE FUNCTIONS: none where the machine would throw by itself or a counter runs out -/
def tg {α : Type} (i : Int32) (n : Nat) (k : Option α) : Option α := if i < 0 ∨ n ≤ i.toNatClampNeg then none else k
def tz {α : Type} (y : Int64) (k : Option α) : Option α := if y = 0 then none else k
def ty {α : Type} (y : Int32) (k : Option α) : Option α := if y = 0 then none else k
def tb {α : Type} (v : Int32) (k : Option α) : Option α := if v = 0 ∨ v = 1 then k else none
def tb1 {α β : Type} (o : Option α) (k : α → Option β) : Option β := match o with
  | none => none
  | some a => k a
def tb2 {α β : Type} (o : Option (α × tS)) (k : α → tS → Option β) : Option β := match o with
  | none => none
  | some q => k q.1 q.2
def tx {α : Type} (o k : Option α) : Option α := match o with
  | none => k
  | some a => some a
def tit {F : Type} (z : F) (st : F → F) : Nat → F
  | 0 => z
  | n + 1 => st (tit z st n)
theorem tg_of {α : Type} {i : Int32} {n : Nat} {k : Option α} {r : α} (h : tg i n k = some r) : vp_in i n ∧ k = some r := by
  unfold tg at h
  by_cases c : i < 0 ∨ n ≤ i.toNatClampNeg
  · rw [if_pos c] at h; cases h
  · rw [if_neg c] at h; exact ⟨c, h⟩
theorem tz_of {α : Type} {y : Int64} {k : Option α} {r : α} (h : tz y k = some r) : (¬ y = 0) ∧ k = some r := by
  unfold tz at h
  by_cases c : y = 0
  · rw [if_pos c] at h; cases h
  · rw [if_neg c] at h; exact ⟨c, h⟩
theorem ty_of {α : Type} {y : Int32} {k : Option α} {r : α} (h : ty y k = some r) : (¬ y = 0) ∧ k = some r := by
  unfold ty at h
  by_cases c : y = 0
  · rw [if_pos c] at h; cases h
  · rw [if_neg c] at h; exact ⟨c, h⟩
theorem tb_of {α : Type} {v : Int32} {k : Option α} {r : α} (h : tb v k = some r) : (v = 0 ∨ v = 1) ∧ k = some r := by
  unfold tb at h
  by_cases c : v = 0 ∨ v = 1
  · rw [if_pos c] at h; exact ⟨c, h⟩
  · rw [if_neg c] at h; cases h
theorem tb_nar {v : Int32} (h : v = 0 ∨ v = 1) : narrow .boolean (.int v) = .int v := by
  rcases h with rfl | rfl <;> decide
theorem tb1_of {α β : Type} {o : Option α} {k : α → Option β} {r : β} (h : tb1 o k = some r) : ∃ a, o = some a ∧ k a = some r := by
  cases o with
  | none => cases h
  | some a => exact ⟨a, rfl, h⟩
theorem tb2_of {α β : Type} {o : Option (α × tS)} {k : α → tS → Option β} {r : β} (h : tb2 o k = some r) : ∃ v s, o = some (v, s) ∧ k v s = some r := by
  cases o with
  | none => cases h
  | some a => exact ⟨a.1, a.2, rfl, h⟩
theorem tx_of {α : Type} {o k : Option α} {r : α} (h : tx o k = some r) : o = some r ∨ k = some r := by
  cases o with
  | none => exact Or.inr h
  | some a => exact Or.inl h
theorem tn_no {α : Type} {P : Prop} {r : α} (h : (none : Option α) = some r) : P := by cases h
theorem ts_of {α : Type} {a r : α} (h : some a = some r) : a = r := Option.some.inj h
theorem tp_of {α β : Type} {a r : α} {b t : β} (h : some (a, b) = some (r, t)) : a = r ∧ b = t := by cases h; exact ⟨rfl, rfl⟩
theorem ti_pos {c : Prop} [Decidable c] {α : Type} {a b r : α} (h : c) (hf : (if c then a else b) = r) : a = r := by rw [if_pos h] at hf; exact hf
theorem ti_neg {c : Prop} [Decidable c] {α : Type} {a b r : α} (h : ¬ c) (hf : (if c then a else b) = r) : b = r := by rw [if_neg h] at hf; exact hf
/-! ADDRESSES AND CONTRACTS -/
def tA (n : Nat) (ad : Nat → Nat) : Nat → Prop := fun q => ∃ k, k < n ∧ q = ad k
def tD (n : Nat) (ad : Nat → Nat) : Prop := ∀ i j : Nat, i < n → j < n → ad i = ad j → i = j
theorem tD_of {n : Nat} {ad : Nat → Nat} {ws : va_W} (h : ws.map Prod.fst = (List.range n).map ad) (hd : tD n ad) : va_D (tA n ad) ws := by
  have at' : ∀ (i : Nat) (p : Nat × va_E), ws[i]? = some p → i < n ∧ p.1 = ad i := by
    intro i p hp
    have h1 : (ws.map Prod.fst)[i]? = some p.1 := by rw [List.getElem?_map, hp]; rfl
    rw [h, List.getElem?_map] at h1
    by_cases hi : i < n
    · rw [List.getElem?_range hi] at h1
      exact ⟨hi, (Option.some.inj h1).symm⟩
    · rw [List.getElem?_eq_none (by simpa using hi)] at h1
      cases h1
  refine ⟨fun i j p q hi hj e => ?_, fun k q hk => ?_⟩
  · obtain ⟨a1, a2⟩ := at' i p hi
    obtain ⟨b1, b2⟩ := at' j q hj
    exact hd i j a1 b1 (by rw [← a2, ← b2]; exact e)
  · obtain ⟨a1, a2⟩ := at' k q hk
    exact ⟨k, a1, a2⟩
/-- a method's start: its arguments, the cells of its component -/
def tP (D : va_G) (cl : List vw_C) (tys : List (ClassId × FieldType)) (w : va_W) (av : List Value) : Array Value → State → Prop := fun v U => v = av.toArray ∧ va_P D cl w U.heap ∧ va_K D cl tys U ∧ tW U
theorem tP_blind {D : va_G} {cl : List vw_C} {tys : List (ClassId × FieldType)} {w : va_W} {av : List Value} : FrameBlind (tP D cl tys w av) := fun a U g mk q => ⟨q.1, q.2.1, va_K.moved (u := U) (U := U.calling g mk a) (Vm.Alike.refl U.vm) q.2.2.1, va_Nw.same (u := U) rfl rfl q.2.2.2⟩
/-- its end: what it answers, the cells as they are then; nothing else has changed -/
def tQ (D : va_G) (cl : List vw_C) (w : va_W) (v : Option Value) (A : Nat → Prop) : Array Value → State → Outcome → State → Prop := fun _ st oc t => oc = .returned v ∧ va_P D cl w t.heap ∧ va_F A st t
/-- what stands fast in a method's walk -/
def tC (p : Program) (s : State) (m : MethodId) (args : Array Value) (meth : Method) (c : Code) (cc : ByteArray) (ret : Option FieldType) (nL : Nat) (own : String) (D : va_G) (cl : List vw_C) (tys : List (ClassId × FieldType)) : Prop :=
  p.tables.exec = Jvm.exec ∧ c.code = cc ∧ meth.sig.returnType = ret ∧ c.maxLocals = nL ∧ s.vm.findClass own = some m.cls ∧ (∀ w ∈ tw, w.before args s = true) ∧ meth.locks = false ∧ va_K D cl tys s ∧ tW s
theorem tw_cb {R : Room} {s : State} {args : Array Value} {own : String} {index maxL n : Nat} {y : MethodName} {bytes : ByteArray} {ret : Option FieldType} {rm : Room} (ht : ∀ w ∈ tw, w.before args s = true) (hc : Cond.code y bytes maxL ret ∈ tw) (hi : Cond.initialized y.cls ∈ tw) (hl : Cond.methodLink own index y ∈ tw) (hz : rm.cells = 0 ∧ rm.slots = 0)
    (hd : y.cls ≠ "java/lang/invoke/MethodHandle" ∧ y.cls ≠ "java/lang/invoke/VarHandle" ∧ (parseMethodDescriptor y.desc).map (fun d => d.parameters.length) = some n) (hR : rm.frames + 1 ≤ R.frames ∧ 8 + (maxL + 11) + rm.locals ≤ R.locals) :
    CallB R s args own index y bytes maxL ret (Cond.code y bytes maxL ret :: tw) rm 0 0 n := callB_of n ht (tw_G hc) rfl hz.1 hz.2 (ht _ hi) (ht _ hl) hd hR
section TRC
variable {p : Program} {l : Launch} {e : Env} {R : Room} {s : State} {m : MethodId} {args : Array Value} {below : List Frame} {meth : Method} {c : Code} {H : Heap} {locs : List Loc} {cells slots : Nat} {Q : State → Prop}
variable {pc : Nat} {ls : Array Slot} {rest st0 : List Value} {a : Array Value} {A0 A1 : Nat → Prop} {H0 : Heap} {mc ms : Nat} {free : Addr → Prop} {D : va_G} {cl : List vw_C} {w : va_W}
theorem tr_call {v : Option Value} (hr : va_Run p l e R s m args below meth c H locs cells slots mc ms (F0 m pc ls st0) rest (tQ D cl w v A1 a) free) (hS : va_S A0 H0 H locs) (hA : ∀ q, A1 q → A0 q) (hf : ∀ q, free q → A0 q)
    (kk : ∀ (H1 : Heap) (locs1 : List Loc), va_P D cl w H1 → (∀ q : Nat, q < H.size → ¬ A1 q → H1[q]? = H[q]?) → H.size ≤ H1.size → va_S A0 H0 H1 locs1 → W p l e R s m args below meth c H1 locs1 (cells + mc) (slots + ms) Q (F0 m (pc + 3) ls (v.toList ++ rest))) : W p l e R s m args below meth c H locs cells slots Q (F0 m pc ls st0) := by
  intro T hT X
  obtain ⟨v9, st₀, t, T', L, h0, X', hL, e1, e2, ⟨hv, hp, hz, hk⟩, st⟩ := hr T hT X
  cases hv
  rw [h0] at hz hk
  obtain ⟨t2, a1, b1⟩ := kk T'.heap (locs ++ L) (by rw [e1]; exact hp) (fun q h1 h2 => by rw [e1]; exact hk q h1 h2) (by rw [e1]; exact hz)
    ⟨Nat.le_trans hS.1 (by rw [e1]; exact hz), fun q h1 h2 => by rw [e1, hk q (Nat.lt_of_lt_of_le h1 hS.1) (fun z => h2 (hA q z))]; exact hS.2.1 q h1 h2, fun q hq => by
      rcases List.mem_append.mp hq with h | h
      · exact hS.2.2 q h
      · exact hf _ (hL q h)⟩ T' rfl X'
  exact ⟨t2, st t2 a1, b1⟩
theorem tr_calli {r : Int32} (hr : va_Run p l e R s m args below meth c H locs cells slots 0 0 (F0 m pc ls st0) rest (tQ D cl w (some (.int r)) A1 a) free) (hS : va_S A0 H0 H locs) (hA : ∀ q, A1 q → A0 q) (hf : ∀ q, free q → A0 q)
    (kk : ∀ (H1 : Heap) (locs1 : List Loc), va_P D cl w H1 → va_S A0 H0 H1 locs1 → W p l e R s m args below meth c H1 locs1 cells slots Q (F0 m (pc + 3) ls (.int r :: rest))) : W p l e R s m args below meth c H locs cells slots Q (F0 m pc ls st0) :=
  tr_call hr hS hA hf (fun H1 locs1 hP _ _ hS => kk H1 locs1 hP hS)
theorem tr_calll {r : Int64} (hr : va_Run p l e R s m args below meth c H locs cells slots 0 0 (F0 m pc ls st0) rest (tQ D cl w (some (.long r)) A1 a) free) (hS : va_S A0 H0 H locs) (hA : ∀ q, A1 q → A0 q) (hf : ∀ q, free q → A0 q)
    (kk : ∀ (H1 : Heap) (locs1 : List Loc), va_P D cl w H1 → va_S A0 H0 H1 locs1 → W p l e R s m args below meth c H1 locs1 cells slots Q (F0 m (pc + 3) ls (.long r :: rest))) : W p l e R s m args below meth c H locs cells slots Q (F0 m pc ls st0) :=
  tr_call hr hS hA hf (fun H1 locs1 hP _ _ hS => kk H1 locs1 hP hS)
theorem tr_callv (hr : va_Run p l e R s m args below meth c H locs cells slots 0 0 (F0 m pc ls st0) rest (tQ D cl w none A1 a) free) (hS : va_S A0 H0 H locs) (hA : ∀ q, A1 q → A0 q) (hf : ∀ q, free q → A0 q)
    (kk : ∀ (H1 : Heap) (locs1 : List Loc), va_P D cl w H1 → va_S A0 H0 H1 locs1 → W p l e R s m args below meth c H1 locs1 cells slots Q (F0 m (pc + 3) ls rest)) : W p l e R s m args below meth c H locs cells slots Q (F0 m pc ls st0) :=
  tr_call hr hS hA hf (fun H1 locs1 hP _ _ hS => kk H1 locs1 hP hS)
end TRC
