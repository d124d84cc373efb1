/-! THE LAW'S OWN METHODS: a call of the class inside a try; its world is the class's and the row of one long -/
def lA (ad : Nat → Nat) (o : Nat) : Nat → Prop := fun q => tA 37 ad q ∨ q = o
abbrev lO (o : Nat) (cO : ClassId) (f : Nat → Int64) : va_W := [(o, .inl (cO, 1, .inr (.inl f)))]
def lP (D : va_G) (ad : Nat → Nat) (ta : Nat → ClassId) (σ : tS) (o : Nat) (cO : ClassId) (f : Nat → Int64) (av : List Value) : Array Value → State → Prop := fun v U => v = av.toArray ∧ va_P D clS (cwC ad ta σ ++ lO o cO f) U.heap ∧ va_K D clS (tyC ta ++ [(cO, .long)]) U ∧ tW U ∧ tT U ∧ va_Nc xIS xIA U
abbrev lQ (D : va_G) (ad : Nat → Nat) (ta : Nat → ClassId) (o : Nat) (cO : ClassId) (res : Int32 × tS × (Nat → Int64)) : Array Value → State → Outcome → State → Prop := tQ D clS (cwC ad ta res.2.1 ++ lO o cO res.2.2) (some (.int res.1)) (lA ad o)
theorem lP_blind {D : va_G} {ad : Nat → Nat} {ta : Nat → ClassId} {σ : tS} {o : Nat} {cO : ClassId} {f : Nat → Int64} {av : List Value} : FrameBlind (lP D ad ta σ o cO f av) := fun a U g mk q => by
  obtain ⟨q0, qP, qK, qW, qT, qN⟩ := q
  exact ⟨q0, qP, va_K.moved (u := U) (U := U.calling g mk a) (Vm.Alike.refl U.vm) qK, va_Nw.same (u := U) rfl rfl qW, tT_calling qT, va_Nc.moved (u := U) (U := U.calling g mk a) (Vm.Alike.refl U.vm) qN⟩
theorem lp_left {D : va_G} {cl : List vw_C} {w1 w2 : va_W} {H : Heap} (h : va_P D cl (w1 ++ w2) H) : va_P D cl w1 H := fun k q hq => h k q (by rw [List.getElem?_append_left (List.getElem?_eq_some_iff.mp hq).1]; exact hq)
theorem lp_right {D : va_G} {cl : List vw_C} {w1 w2 : va_W} {H : Heap} (h : va_P D cl (w1 ++ w2) H) : va_P D cl w2 H := fun k q hq => h (w1.length + k) q (by rw [List.getElem?_append_right (Nat.le_add_right _ _), Nat.add_sub_cancel_left]; exact hq)
theorem lk_left {D : va_G} {cl : List vw_C} {t1 t2 : List (ClassId × FieldType)} {U : State} (h : va_K D cl (t1 ++ t2) U) : va_K D cl t1 U := ⟨h.1, fun k q hq => h.2 k q (by rw [List.getElem?_append_left (List.getElem?_eq_some_iff.mp hq).1]; exact hq)⟩
theorem lD_of {ad : Nat → Nat} {ta : Nat → ClassId} {σ : tS} {o : Nat} {cO : ClassId} {f : Nat → Int64} (hd : tD 37 ad) (ho : ∀ k, k < 37 → ad k ≠ o) : va_D (lA ad o) (cwC ad ta σ ++ lO o cO f) := by
  have h1 : va_D (tA 37 ad) (cwC ad ta σ) := cwC_D hd
  refine va_D.app (h1.weaken (fun _ _ _ h => Or.inl h)) ⟨fun i j x y hi hj _ => ?_, fun k q hk => ?_⟩ (fun i j x y hx hy hxy => ?_)
  · have a1 : i < 1 := (List.getElem?_eq_some_iff.mp hi).1
    have a2 : j < 1 := (List.getElem?_eq_some_iff.mp hj).1
    omega
  · have hz : k < 1 := (List.getElem?_eq_some_iff.mp hk).1
    rw [show k = 0 by omega] at hk
    cases hk
    exact Or.inr rfl
  · have hz : j < 1 := (List.getElem?_eq_some_iff.mp hy).1
    rw [show j = 0 by omega] at hy
    cases hy
    obtain ⟨k, hk, e⟩ := h1.2 i x hx
    exact ho k hk (by rw [← e]; exact hxy)
theorem lo_kept {D : va_G} {cl : List vw_C} {ad : Nat → Nat} {o : Nat} {cO : ClassId} {f : Nat → Int64} {A : Nat → Prop} {H H1 : Heap} (h : va_P D cl (lO o cO f) H) (hA : ¬ A o) (hk : ∀ q : Nat, q < H.size → ¬ A q → H1[q]? = H[q]?) : va_P D cl (lO o cO f) H1 := by
  refine h.kept (fun k q hq => ?_)
  have hlt := (h k q hq).lt
  have hz : k < 1 := (List.getElem?_eq_some_iff.mp hq).1
  rw [show k = 0 by omega] at hq
  cases hq
  exact hk o hlt hA
theorem lA_no {ad : Nat → Nat} {o : Nat} (ho : ∀ k, k < 37 → ad k ≠ o) : ¬ tA 37 ad o := fun ⟨k, h1, h2⟩ => ho k h1 h2.symm
theorem vp_in01 : vp_in (0 : Int32) 1 := by unfold vp_in; decide
def lf1 (k0 : Nat) (x : Option Nat) (σ : tS) (f : Nat → Int64) (n : Option (Int32 × tS × (Nat → Int64))) : Option (Int32 × tS × (Nat → Int64)) := match x with
  | some k => if k = k0 then some (1, σ, f) else none
  | none => n
def lf2 (x : Option Nat) (σ : tS) (f : Nat → Int64) (n : Option (Int32 × tS × (Nat → Int64))) : Option (Int32 × tS × (Nat → Int64)) := match x with
  | some k => if k = 1 then some (1, σ, f) else if k = 2 then some (2, σ, f) else none
  | none => n
theorem lf1_of {k0 : Nat} {x : Option Nat} {σ : tS} {f : Nat → Int64} {n : Option (Int32 × tS × (Nat → Int64))} {r : Int32 × tS × (Nat → Int64)} (h : lf1 k0 x σ f n = some r) : (x = some k0 ∧ (1, σ, f) = r) ∨ n = some r := by
  cases x with
  | none => exact Or.inr h
  | some k =>
    replace h : (if k = k0 then some (1, σ, f) else none) = some r := h
    by_cases hk : k = k0
    · rw [if_pos hk] at h
      exact Or.inl ⟨by rw [hk], Option.some.inj h⟩
    · rw [if_neg hk] at h; cases h
theorem lf2_of {x : Option Nat} {σ : tS} {f : Nat → Int64} {n : Option (Int32 × tS × (Nat → Int64))} {r : Int32 × tS × (Nat → Int64)} (h : lf2 x σ f n = some r) : (x = some 1 ∧ (1, σ, f) = r) ∨ (x = some 2 ∧ (2, σ, f) = r) ∨ n = some r := by
  cases x with
  | none => exact Or.inr (Or.inr h)
  | some k =>
    replace h : (if k = 1 then some (1, σ, f) else if k = 2 then some (2, σ, f) else none) = some r := h
    by_cases hk : k = 1
    · rw [if_pos hk] at h
      exact Or.inl ⟨by rw [hk], Option.some.inj h⟩
    · rw [if_neg hk] at h
      by_cases hk2 : k = 2
      · rw [if_pos hk2] at h
        exact Or.inr (Or.inl ⟨by rw [hk2], Option.some.inj h⟩)
      · rw [if_neg hk2] at h; cases h
theorem lb_tab {p : Program} {l : Launch} {x : MethodName} {S : Spec} {code : ByteArray} {maxLocals : Nat} {ret : Option FieldType} {e : Env} {s : State} {m : MethodId} {args : Array Value} {below : List Frame} {meth : Method} {c : Code} {s₁ : State} (B : BodyLoose p l x S code maxLocals ret e s m args below meth c s₁) {hh : List (Nat × Nat × Nat × Nat)} (h : (Cond.codeWith x code maxLocals ret hh).before args s = true) : c.exceptionTable.toList.map (fun h => (h.startPc, h.endPc, h.handlerPc, h.catchType)) = hh := by
  obtain ⟨m', meth', c', hn, hm, hc, -, -, ht, -⟩ := Cond.codeWith_spec h
  cases B.named.symm.trans hn
  cases B.method.symm.trans hm
  cases (Stand.of_body B).code.symm.trans hc
  exact ht
theorem tk_of {w : Cond} {i : Nat} (h : lw_tbl[i]? = some w) (hg : tkw w = true) : w ∈ tk := List.mem_filter.mpr ⟨List.mem_of_getElem? h, hg⟩
set_option maxRecDepth 30000 in
theorem ck_IS : (.castable xIS xIS : Cond) ∈ tk := tk_of (i := 326) rfl rfl
set_option maxRecDepth 30000 in
theorem ck_IA : (.castable xIA xIA : Cond) ∈ tk := tk_of (i := 405) rfl rfl
/-- the law's node: its answer, the class and the row behind it -/
def lf_node  (σ : tS) (f : Nat → Int64) : Option (Int32 × tS × (Nat → Int64)) :=
  lf1 2 (mx_T_node σ) σ f (tb2 (mf_T_node σ) (fun r s => some (0, s, vp_updL f 0 r.toInt64)))
abbrev rl_node : Room := { frames := 7, cells := 1, slots := 6, locals := 102 }
set_option maxHeartbeats 4000000 in
set_option maxRecDepth 100000 in
theorem lm_node (l : Launch) (h9 : l.stackTraces = false) {D : va_G} {ad : Nat → Nat} {ta : Nat → ClassId} (hd : tD 37 ad) {o : Nat} {cO : ClassId} {f : Nat → Int64} (ho : ∀ k, k < 37 → ad k ≠ o) {σ : tS}  {res : Int32 × tS × (Nat → Int64)} (hc : lf_node  σ f = some res) : Met l y_L_node (.codeWith y_L_node b_L_node 3 (some .int) [(0, 8, 11, 13)] :: tw) rl_node (lP D ad ta σ o cO f [.ref (ad 0), .ref o]) (lQ D ad ta o cO res) 1 6 (lA ad o) := by
  refine va_MetW (cc := b_L_node) (maxL := 3) (ret := (some .int)) (hh := [(0, 8, 11, 13)]) (by decide) rfl ?_
  intro p e s m args below meth c s₁ B hml hv
  obtain ⟨rfl, hP, hK, hN, hT, hNc⟩ := hv
  have hx := B.exec
  have hb := B.bytes
  have hr := B.returns
  have hts := atoms_spec (ws := (.codeWith y_L_node b_L_node 3 (some .int) [(0, 8, 11, 13)] :: tw)) B.pre
  have ht : ∀ w ∈ tw, w.before [.ref (ad 0), .ref o].toArray s = true := fun w h => hts w (List.mem_cons_of_mem _ h)
  have htab := lb_tab B (hts _ List.mem_cons_self)
  have hown : s.vm.findClass R_L = some m.cls := findClass_of_methodNamed B.named
  have hlocks := B.notSynchronized
  have hS : va_S (lA ad o) s.heap s.heap [] := va_S.rf
  have hS0 : va_S tNo s.heap s.heap [] := va_S.rf
  have hPl := lp_left hP
  have hO := lp_right hP
  have hKl := lk_left hK
  have hl := lv_entry ([.ref (ad 0), .ref o]) (n := 3) (Nat.le_of_ble_eq_true rfl)
  rw [lg_entry_eq]
  generalize (lg_sl ([.ref (ad 0), .ref o]) ++ List.replicate (3 - (lg_sl ([.ref (ad 0), .ref o])).length) Slot.unset).toArray = ls at hl ⊢
  replace hl : lv_has ls 3 [(0, .ref (ad 0)), (1, .ref o)] := hl
  unfold lf_node at hc
  rcases lf1_of hc with ⟨hm, rfl⟩ | hc
  · refine lv_aload_n hx hb d_L_node_0 rfl (lv_at hl 1 rfl) ?_
    refine lv_iconst (v := (0 : Int32)) hx hb d_L_node_1 (by decide) ?_
    refine lv_aload_n hx hb d_L_node_2 rfl (lv_at hl 0 rfl) ?_
    refine tr_catch1 (X := xIS) (tx_runV (C := R_T) (As := []) (rest := [.int (0 : Int32), .ref o]) ⟨hx, hb, hml, hown, ht⟩ (xc_T_node l h9 hd hm) ⟨pay_in ht (tw_G wc_T_node), List.mem_cons_self, ht _ wd_34, ⟨(Nat.le_of_ble_eq_true rfl), (Nat.le_of_ble_eq_true rfl), (Nat.le_of_ble_eq_true rfl), (Nat.le_of_ble_eq_true rfl)⟩⟩ (ht _ wd_320) (ht _ wd_321) (ht _ wd_322) (ht _ wc_T_node) (by decide +kernel) ⟨tPX_blind, va_recv hKl hPl (ci := 0) (q0 := 0) rfl rfl, fun U hU hW => ⟨⟨rfl, by rw [hU]; exact hPl, va_K.moved hW.alike hKl, tW_warm hW hN⟩, tT_go hT hS0 hU hW⟩⟩ rfl (show (parseMethodDescriptor y_T_node.desc).map (fun d => d.parameters.length) = some 0 by decide +kernel) hl.1 rfl (lv_room (Nat.le_of_ble_eq_true rfl)) d_L_node_3) hown htab (ht _ wd_319) (va_Nw.use rfl (hT.1 _ ck_IS)) ⟨by decide, by decide⟩ (by decide) (fun x H1 hz hk => ?_)
    refine lv_astore_n (lv' := [(2, .ref x), (0, .ref (ad 0)), (1, .ref o)]) hx hb d_L_node_11 rfl hl (by decide) rfl (fun ls hl => ?_)
    refine lv_iconst (v := (1 : Int32)) hx hb d_L_node_12 (by decide) ?_
    have hP := hP.kept (fun k q hq => hk q.1 ((hP k q hq).lt))
    have hS : va_S (lA ad o) s.heap H1 [] := ⟨hz, fun q h1 _ => hk q h1, fun _ h => by cases h⟩
    exact W.iret (v := (1 : Int32)) hx hb hr (fun t ht9 hW => ⟨rfl, by rw [ht9]; exact hP, hS.F ht9⟩) hS.2.2 d_L_node_13
  · obtain ⟨r1, s1, hq, hc⟩ := tb2_of hc
    obtain rfl := ts_of hc
    refine lv_aload_n hx hb d_L_node_0 rfl (lv_at hl 1 rfl) ?_
    refine lv_iconst (v := (0 : Int32)) hx hb d_L_node_1 (by decide) ?_
    refine lv_aload_n hx hb d_L_node_2 rfl (lv_at hl 0 rfl) ?_
    refine tr_call (va_runV (C := R_T) (As := []) (rest := [.int (0 : Int32), .ref o]) ⟨hx, hb, hml, hown, ht⟩ (mc_T_node l hd hq) ⟨(tw_cb (n := 0) ht wc_T_node wd_34 wd_320 ⟨rfl, rfl⟩ (by decide +kernel) ⟨(Nat.le_of_ble_eq_true rfl), (Nat.le_of_ble_eq_true rfl)⟩), ht _ wd_321, ht _ wd_322⟩ ⟨tP_blind, va_recv hKl hPl (ci := 0) (q0 := 0) rfl rfl, fun U hU hW => ⟨rfl, by rw [hU]; exact hPl, va_K.moved hW.alike hKl, tW_warm hW hN⟩⟩ rfl rfl hl.1 rfl (lv_room (Nat.le_of_ble_eq_true rfl)) d_L_node_3 ⟨(Nat.le_of_ble_eq_true rfl), (Nat.le_of_ble_eq_true rfl)⟩) hS (fun _ h => Or.inl h) (fun _ h => Or.inl h) (fun H locs hP1 hk hz hS => ?_)
    replace hP : va_P D clS (cwC ad ta s1 ++ lO o cO f) H := hP1.app (lo_kept (ad := ad) hO (lA_no ho) hk)
    refine W.eq (g2 := F0 m 6 ls [.int r1, .int (0 : Int32), .ref o]) rfl ?_
    refine lv_i2l hx hb d_L_node_6 rfl ?_
    refine va_last (f := f) (x := r1.toInt64) hx hb hK hP (lD_of hd ho) hS 37 28 rfl rfl vp_in01 d_L_node_7 (fun H locs hP _ hS => ?_)
    replace hP : va_P D clS (cwC ad ta s1 ++ lO o cO (vp_updL f 0 r1.toInt64)) H := hP
    refine lv_goto (tgt := 14) hx hb d_L_node_8 (by decide) ?_
    refine lv_iconst (v := (0 : Int32)) hx hb d_L_node_14 (by decide) ?_
    refine W.widen (k := 1) (n := 6) (Nat.zero_le _) (Nat.zero_le _) ?_
    exact W.iret (v := (0 : Int32)) hx hb hr (fun t ht9 hW => ⟨rfl, by rw [ht9]; exact hP, hS.F ht9⟩) hS.2.2 d_L_node_15
/-- the law's zone: its answer, the class and the row behind it -/
def lf_zone (p0 : Int32) (p1 : Int32) (p2 : Int32) (σ : tS) (f : Nat → Int64) : Option (Int32 × tS × (Nat → Int64)) :=
  lf2 (mx_T_zone p0 p1 p2 σ) σ f (tb2 (mf_T_zone p0 p1 p2 σ) (fun r s => some (0, s, vp_updL f 0 r.toInt64)))
abbrev rl_zone : Room := { frames := 8, cells := 1, slots := 6, locals := 127 }
set_option maxHeartbeats 4000000 in
set_option maxRecDepth 100000 in
theorem lm_zone (l : Launch) (h9 : l.stackTraces = false) {D : va_G} {ad : Nat → Nat} {ta : Nat → ClassId} (hd : tD 37 ad) {o : Nat} {cO : ClassId} {f : Nat → Int64} (ho : ∀ k, k < 37 → ad k ≠ o) {σ : tS} {p0 : Int32} {p1 : Int32} {p2 : Int32} {res : Int32 × tS × (Nat → Int64)} (hc : lf_zone p0 p1 p2 σ f = some res) : Met l y_L_zone (.codeWith y_L_zone b_L_zone 6 (some .int) [(0, 12, 15, 19), (0, 12, 19, 13)] :: tw) rl_zone (lP D ad ta σ o cO f [.ref (ad 0), .int p0, .int p1, .int p2, .ref o]) (lQ D ad ta o cO res) 1 6 (lA ad o) := by
  refine va_MetW (cc := b_L_zone) (maxL := 6) (ret := (some .int)) (hh := [(0, 12, 15, 19), (0, 12, 19, 13)]) (by decide) rfl ?_
  intro p e s m args below meth c s₁ B hml hv
  obtain ⟨rfl, hP, hK, hN, hT, hNc⟩ := hv
  have hx := B.exec
  have hb := B.bytes
  have hr := B.returns
  have hts := atoms_spec (ws := (.codeWith y_L_zone b_L_zone 6 (some .int) [(0, 12, 15, 19), (0, 12, 19, 13)] :: tw)) B.pre
  have ht : ∀ w ∈ tw, w.before [.ref (ad 0), .int p0, .int p1, .int p2, .ref o].toArray s = true := fun w h => hts w (List.mem_cons_of_mem _ h)
  have htab := lb_tab B (hts _ List.mem_cons_self)
  have hown : s.vm.findClass R_L = some m.cls := findClass_of_methodNamed B.named
  have hlocks := B.notSynchronized
  have hS : va_S (lA ad o) s.heap s.heap [] := va_S.rf
  have hS0 : va_S tNo s.heap s.heap [] := va_S.rf
  have hPl := lp_left hP
  have hO := lp_right hP
  have hKl := lk_left hK
  have hl := lv_entry ([.ref (ad 0), .int p0, .int p1, .int p2, .ref o]) (n := 6) (Nat.le_of_ble_eq_true rfl)
  rw [lg_entry_eq]
  generalize (lg_sl ([.ref (ad 0), .int p0, .int p1, .int p2, .ref o]) ++ List.replicate (6 - (lg_sl ([.ref (ad 0), .int p0, .int p1, .int p2, .ref o])).length) Slot.unset).toArray = ls at hl ⊢
  replace hl : lv_has ls 6 [(0, .ref (ad 0)), (1, .int p0), (2, .int p1), (3, .int p2), (4, .ref o)] := hl
  unfold lf_zone at hc
  rcases lf2_of hc with ⟨hm, rfl⟩ | ⟨hm, rfl⟩ | hc
  · refine lv_aload hx hb d_L_zone_0 (lv_at hl 4 rfl) ?_
    refine lv_iconst (v := (0 : Int32)) hx hb d_L_zone_2 (by decide) ?_
    refine lv_aload_n hx hb d_L_zone_3 rfl (lv_at hl 0 rfl) ?_
    refine lv_iload_n hx hb d_L_zone_4 rfl (lv_at hl 1 rfl) ?_
    refine lv_iload_n hx hb d_L_zone_5 rfl (lv_at hl 2 rfl) ?_
    refine lv_iload_n hx hb d_L_zone_6 rfl (lv_at hl 3 rfl) ?_
    refine tr_catch1 (X := xIA) (tx_runV (C := R_T) (As := [.int p0, .int p1, .int p2]) (rest := [.int (0 : Int32), .ref o]) ⟨hx, hb, hml, hown, ht⟩ (xc_T_zone l h9 hd hm) ⟨pay_in ht (tw_G wc_T_zone), List.mem_cons_self, ht _ wd_34, ⟨(Nat.le_of_ble_eq_true rfl), (Nat.le_of_ble_eq_true rfl), (Nat.le_of_ble_eq_true rfl), (Nat.le_of_ble_eq_true rfl)⟩⟩ (ht _ wd_395) (ht _ wd_396) (ht _ wd_397) (ht _ wc_T_zone) (by decide +kernel) ⟨tPX_blind, va_recv hKl hPl (ci := 0) (q0 := 0) rfl rfl, fun U hU hW => ⟨⟨rfl, by rw [hU]; exact hPl, va_K.moved hW.alike hKl, tW_warm hW hN⟩, tT_go hT hS0 hU hW⟩⟩ rfl (show (parseMethodDescriptor y_T_zone.desc).map (fun d => d.parameters.length) = some 3 by decide +kernel) hl.1 rfl (lv_room (Nat.le_of_ble_eq_true rfl)) d_L_zone_7) hown htab (ht _ wd_394) (va_Nw.use rfl (hT.1 _ ck_IA)) ⟨by decide, by decide⟩ (by decide) (fun x H1 hz hk => ?_)
    refine lv_astore (lv' := [(5, .ref x), (0, .ref (ad 0)), (1, .int p0), (2, .int p1), (3, .int p2), (4, .ref o)]) hx hb d_L_zone_15 hl (by decide) rfl (fun ls hl => ?_)
    refine lv_iconst (v := (1 : Int32)) hx hb d_L_zone_17 (by decide) ?_
    have hP := hP.kept (fun k q hq => hk q.1 ((hP k q hq).lt))
    have hS : va_S (lA ad o) s.heap H1 [] := ⟨hz, fun q h1 _ => hk q h1, fun _ h => by cases h⟩
    exact W.iret (v := (1 : Int32)) hx hb hr (fun t ht9 hW => ⟨rfl, by rw [ht9]; exact hP, hS.F ht9⟩) hS.2.2 d_L_zone_18
  · refine lv_aload hx hb d_L_zone_0 (lv_at hl 4 rfl) ?_
    refine lv_iconst (v := (0 : Int32)) hx hb d_L_zone_2 (by decide) ?_
    refine lv_aload_n hx hb d_L_zone_3 rfl (lv_at hl 0 rfl) ?_
    refine lv_iload_n hx hb d_L_zone_4 rfl (lv_at hl 1 rfl) ?_
    refine lv_iload_n hx hb d_L_zone_5 rfl (lv_at hl 2 rfl) ?_
    refine lv_iload_n hx hb d_L_zone_6 rfl (lv_at hl 3 rfl) ?_
    refine tr_catch2 (X := xIS) (Y := xIA) (tx_runV (C := R_T) (As := [.int p0, .int p1, .int p2]) (rest := [.int (0 : Int32), .ref o]) ⟨hx, hb, hml, hown, ht⟩ (xc_T_zone l h9 hd hm) ⟨pay_in ht (tw_G wc_T_zone), List.mem_cons_self, ht _ wd_34, ⟨(Nat.le_of_ble_eq_true rfl), (Nat.le_of_ble_eq_true rfl), (Nat.le_of_ble_eq_true rfl), (Nat.le_of_ble_eq_true rfl)⟩⟩ (ht _ wd_395) (ht _ wd_396) (ht _ wd_397) (ht _ wc_T_zone) (by decide +kernel) ⟨tPX_blind, va_recv hKl hPl (ci := 0) (q0 := 0) rfl rfl, fun U hU hW => ⟨⟨rfl, by rw [hU]; exact hPl, va_K.moved hW.alike hKl, tW_warm hW hN⟩, tT_go hT hS0 hU hW⟩⟩ rfl (show (parseMethodDescriptor y_T_zone.desc).map (fun d => d.parameters.length) = some 3 by decide +kernel) hl.1 rfl (lv_room (Nat.le_of_ble_eq_true rfl)) d_L_zone_7) hown htab (ht _ wd_394) hNc (ht _ wd_319) (va_Nw.use rfl (hT.1 _ ck_IS)) ⟨by decide, by decide⟩ ⟨by decide, by decide⟩ (by decide) (by decide) (fun x H1 hz hk => ?_)
    refine lv_astore (lv' := [(5, .ref x), (0, .ref (ad 0)), (1, .int p0), (2, .int p1), (3, .int p2), (4, .ref o)]) hx hb d_L_zone_19 hl (by decide) rfl (fun ls hl => ?_)
    refine lv_iconst (v := (2 : Int32)) hx hb d_L_zone_21 (by decide) ?_
    have hP := hP.kept (fun k q hq => hk q.1 ((hP k q hq).lt))
    have hS : va_S (lA ad o) s.heap H1 [] := ⟨hz, fun q h1 _ => hk q h1, fun _ h => by cases h⟩
    exact W.iret (v := (2 : Int32)) hx hb hr (fun t ht9 hW => ⟨rfl, by rw [ht9]; exact hP, hS.F ht9⟩) hS.2.2 d_L_zone_22
  · obtain ⟨r1, s1, hq, hc⟩ := tb2_of hc
    obtain rfl := ts_of hc
    refine lv_aload hx hb d_L_zone_0 (lv_at hl 4 rfl) ?_
    refine lv_iconst (v := (0 : Int32)) hx hb d_L_zone_2 (by decide) ?_
    refine lv_aload_n hx hb d_L_zone_3 rfl (lv_at hl 0 rfl) ?_
    refine lv_iload_n hx hb d_L_zone_4 rfl (lv_at hl 1 rfl) ?_
    refine lv_iload_n hx hb d_L_zone_5 rfl (lv_at hl 2 rfl) ?_
    refine lv_iload_n hx hb d_L_zone_6 rfl (lv_at hl 3 rfl) ?_
    refine tr_call (va_runV (C := R_T) (As := [.int p0, .int p1, .int p2]) (rest := [.int (0 : Int32), .ref o]) ⟨hx, hb, hml, hown, ht⟩ (mc_T_zone l hd hq) ⟨(tw_cb (n := 3) ht wc_T_zone wd_34 wd_395 ⟨rfl, rfl⟩ (by decide +kernel) ⟨(Nat.le_of_ble_eq_true rfl), (Nat.le_of_ble_eq_true rfl)⟩), ht _ wd_396, ht _ wd_397⟩ ⟨tP_blind, va_recv hKl hPl (ci := 0) (q0 := 0) rfl rfl, fun U hU hW => ⟨rfl, by rw [hU]; exact hPl, va_K.moved hW.alike hKl, tW_warm hW hN⟩⟩ rfl rfl hl.1 rfl (lv_room (Nat.le_of_ble_eq_true rfl)) d_L_zone_7 ⟨(Nat.le_of_ble_eq_true rfl), (Nat.le_of_ble_eq_true rfl)⟩) hS (fun _ h => Or.inl h) (fun _ h => Or.inl h) (fun H locs hP1 hk hz hS => ?_)
    replace hP : va_P D clS (cwC ad ta s1 ++ lO o cO f) H := hP1.app (lo_kept (ad := ad) hO (lA_no ho) hk)
    refine W.eq (g2 := F0 m 10 ls [.int r1, .int (0 : Int32), .ref o]) rfl ?_
    refine lv_i2l hx hb d_L_zone_10 rfl ?_
    refine va_last (f := f) (x := r1.toInt64) hx hb hK hP (lD_of hd ho) hS 37 28 rfl rfl vp_in01 d_L_zone_11 (fun H locs hP _ hS => ?_)
    replace hP : va_P D clS (cwC ad ta s1 ++ lO o cO (vp_updL f 0 r1.toInt64)) H := hP
    refine lv_goto (tgt := 23) hx hb d_L_zone_12 (by decide) ?_
    refine lv_iconst (v := (0 : Int32)) hx hb d_L_zone_23 (by decide) ?_
    refine W.widen (k := 1) (n := 6) (Nat.zero_le _) (Nat.zero_le _) ?_
    exact W.iret (v := (0 : Int32)) hx hb hr (fun t ht9 hW => ⟨rfl, by rw [ht9]; exact hP, hS.F ht9⟩) hS.2.2 d_L_zone_24
/-- the law's street: its answer, the class and the row behind it -/
def lf_street (p0 : Int32) (p1 : Int32) (p2 : Int32) (p3 : Int32) (p4 : Int32) (σ : tS) (f : Nat → Int64) : Option (Int32 × tS × (Nat → Int64)) :=
  lf2 (mx_T_street p0 p1 p2 p3 p4 σ) σ f (tb2 (mf_T_street p0 p1 p2 p3 p4 σ) (fun r s => some (0, s, vp_updL f 0 r.toInt64)))
abbrev rl_street : Room := { frames := 8, cells := 1, slots := 6, locals := 129 }
set_option maxHeartbeats 4000000 in
set_option maxRecDepth 100000 in
theorem lm_street (l : Launch) (h9 : l.stackTraces = false) {D : va_G} {ad : Nat → Nat} {ta : Nat → ClassId} (hd : tD 37 ad) {o : Nat} {cO : ClassId} {f : Nat → Int64} (ho : ∀ k, k < 37 → ad k ≠ o) {σ : tS} {p0 : Int32} {p1 : Int32} {p2 : Int32} {p3 : Int32} {p4 : Int32} {res : Int32 × tS × (Nat → Int64)} (hc : lf_street p0 p1 p2 p3 p4 σ f = some res) : Met l y_L_street (.codeWith y_L_street b_L_street 8 (some .int) [(0, 16, 19, 19), (0, 16, 23, 13)] :: tw) rl_street (lP D ad ta σ o cO f [.ref (ad 0), .int p0, .int p1, .int p2, .int p3, .int p4, .ref o]) (lQ D ad ta o cO res) 1 6 (lA ad o) := by
  refine va_MetW (cc := b_L_street) (maxL := 8) (ret := (some .int)) (hh := [(0, 16, 19, 19), (0, 16, 23, 13)]) (by decide) rfl ?_
  intro p e s m args below meth c s₁ B hml hv
  obtain ⟨rfl, hP, hK, hN, hT, hNc⟩ := hv
  have hx := B.exec
  have hb := B.bytes
  have hr := B.returns
  have hts := atoms_spec (ws := (.codeWith y_L_street b_L_street 8 (some .int) [(0, 16, 19, 19), (0, 16, 23, 13)] :: tw)) B.pre
  have ht : ∀ w ∈ tw, w.before [.ref (ad 0), .int p0, .int p1, .int p2, .int p3, .int p4, .ref o].toArray s = true := fun w h => hts w (List.mem_cons_of_mem _ h)
  have htab := lb_tab B (hts _ List.mem_cons_self)
  have hown : s.vm.findClass R_L = some m.cls := findClass_of_methodNamed B.named
  have hlocks := B.notSynchronized
  have hS : va_S (lA ad o) s.heap s.heap [] := va_S.rf
  have hS0 : va_S tNo s.heap s.heap [] := va_S.rf
  have hPl := lp_left hP
  have hO := lp_right hP
  have hKl := lk_left hK
  have hl := lv_entry ([.ref (ad 0), .int p0, .int p1, .int p2, .int p3, .int p4, .ref o]) (n := 8) (Nat.le_of_ble_eq_true rfl)
  rw [lg_entry_eq]
  generalize (lg_sl ([.ref (ad 0), .int p0, .int p1, .int p2, .int p3, .int p4, .ref o]) ++ List.replicate (8 - (lg_sl ([.ref (ad 0), .int p0, .int p1, .int p2, .int p3, .int p4, .ref o])).length) Slot.unset).toArray = ls at hl ⊢
  replace hl : lv_has ls 8 [(0, .ref (ad 0)), (1, .int p0), (2, .int p1), (3, .int p2), (4, .int p3), (5, .int p4), (6, .ref o)] := hl
  unfold lf_street at hc
  rcases lf2_of hc with ⟨hm, rfl⟩ | ⟨hm, rfl⟩ | hc
  · refine lv_aload hx hb d_L_street_0 (lv_at hl 6 rfl) ?_
    refine lv_iconst (v := (0 : Int32)) hx hb d_L_street_2 (by decide) ?_
    refine lv_aload_n hx hb d_L_street_3 rfl (lv_at hl 0 rfl) ?_
    refine lv_iload_n hx hb d_L_street_4 rfl (lv_at hl 1 rfl) ?_
    refine lv_iload_n hx hb d_L_street_5 rfl (lv_at hl 2 rfl) ?_
    refine lv_iload_n hx hb d_L_street_6 rfl (lv_at hl 3 rfl) ?_
    refine lv_iload hx hb d_L_street_7 (lv_at hl 4 rfl) ?_
    refine lv_iload hx hb d_L_street_9 (lv_at hl 5 rfl) ?_
    refine tr_catch1 (X := xIA) (tx_runV (C := R_T) (As := [.int p0, .int p1, .int p2, .int p3, .int p4]) (rest := [.int (0 : Int32), .ref o]) ⟨hx, hb, hml, hown, ht⟩ (xc_T_street l h9 hd hm) ⟨pay_in ht (tw_G wc_T_street), List.mem_cons_self, ht _ wd_34, ⟨(Nat.le_of_ble_eq_true rfl), (Nat.le_of_ble_eq_true rfl), (Nat.le_of_ble_eq_true rfl), (Nat.le_of_ble_eq_true rfl)⟩⟩ (ht _ wd_432) (ht _ wd_433) (ht _ wd_434) (ht _ wc_T_street) (by decide +kernel) ⟨tPX_blind, va_recv hKl hPl (ci := 0) (q0 := 0) rfl rfl, fun U hU hW => ⟨⟨rfl, by rw [hU]; exact hPl, va_K.moved hW.alike hKl, tW_warm hW hN⟩, tT_go hT hS0 hU hW⟩⟩ rfl (show (parseMethodDescriptor y_T_street.desc).map (fun d => d.parameters.length) = some 5 by decide +kernel) hl.1 rfl (lv_room (Nat.le_of_ble_eq_true rfl)) d_L_street_11) hown htab (ht _ wd_394) (va_Nw.use rfl (hT.1 _ ck_IA)) ⟨by decide, by decide⟩ (by decide) (fun x H1 hz hk => ?_)
    refine lv_astore (lv' := [(7, .ref x), (0, .ref (ad 0)), (1, .int p0), (2, .int p1), (3, .int p2), (4, .int p3), (5, .int p4), (6, .ref o)]) hx hb d_L_street_19 hl (by decide) rfl (fun ls hl => ?_)
    refine lv_iconst (v := (1 : Int32)) hx hb d_L_street_21 (by decide) ?_
    have hP := hP.kept (fun k q hq => hk q.1 ((hP k q hq).lt))
    have hS : va_S (lA ad o) s.heap H1 [] := ⟨hz, fun q h1 _ => hk q h1, fun _ h => by cases h⟩
    exact W.iret (v := (1 : Int32)) hx hb hr (fun t ht9 hW => ⟨rfl, by rw [ht9]; exact hP, hS.F ht9⟩) hS.2.2 d_L_street_22
  · refine lv_aload hx hb d_L_street_0 (lv_at hl 6 rfl) ?_
    refine lv_iconst (v := (0 : Int32)) hx hb d_L_street_2 (by decide) ?_
    refine lv_aload_n hx hb d_L_street_3 rfl (lv_at hl 0 rfl) ?_
    refine lv_iload_n hx hb d_L_street_4 rfl (lv_at hl 1 rfl) ?_
    refine lv_iload_n hx hb d_L_street_5 rfl (lv_at hl 2 rfl) ?_
    refine lv_iload_n hx hb d_L_street_6 rfl (lv_at hl 3 rfl) ?_
    refine lv_iload hx hb d_L_street_7 (lv_at hl 4 rfl) ?_
    refine lv_iload hx hb d_L_street_9 (lv_at hl 5 rfl) ?_
    refine tr_catch2 (X := xIS) (Y := xIA) (tx_runV (C := R_T) (As := [.int p0, .int p1, .int p2, .int p3, .int p4]) (rest := [.int (0 : Int32), .ref o]) ⟨hx, hb, hml, hown, ht⟩ (xc_T_street l h9 hd hm) ⟨pay_in ht (tw_G wc_T_street), List.mem_cons_self, ht _ wd_34, ⟨(Nat.le_of_ble_eq_true rfl), (Nat.le_of_ble_eq_true rfl), (Nat.le_of_ble_eq_true rfl), (Nat.le_of_ble_eq_true rfl)⟩⟩ (ht _ wd_432) (ht _ wd_433) (ht _ wd_434) (ht _ wc_T_street) (by decide +kernel) ⟨tPX_blind, va_recv hKl hPl (ci := 0) (q0 := 0) rfl rfl, fun U hU hW => ⟨⟨rfl, by rw [hU]; exact hPl, va_K.moved hW.alike hKl, tW_warm hW hN⟩, tT_go hT hS0 hU hW⟩⟩ rfl (show (parseMethodDescriptor y_T_street.desc).map (fun d => d.parameters.length) = some 5 by decide +kernel) hl.1 rfl (lv_room (Nat.le_of_ble_eq_true rfl)) d_L_street_11) hown htab (ht _ wd_394) hNc (ht _ wd_319) (va_Nw.use rfl (hT.1 _ ck_IS)) ⟨by decide, by decide⟩ ⟨by decide, by decide⟩ (by decide) (by decide) (fun x H1 hz hk => ?_)
    refine lv_astore (lv' := [(7, .ref x), (0, .ref (ad 0)), (1, .int p0), (2, .int p1), (3, .int p2), (4, .int p3), (5, .int p4), (6, .ref o)]) hx hb d_L_street_23 hl (by decide) rfl (fun ls hl => ?_)
    refine lv_iconst (v := (2 : Int32)) hx hb d_L_street_25 (by decide) ?_
    have hP := hP.kept (fun k q hq => hk q.1 ((hP k q hq).lt))
    have hS : va_S (lA ad o) s.heap H1 [] := ⟨hz, fun q h1 _ => hk q h1, fun _ h => by cases h⟩
    exact W.iret (v := (2 : Int32)) hx hb hr (fun t ht9 hW => ⟨rfl, by rw [ht9]; exact hP, hS.F ht9⟩) hS.2.2 d_L_street_26
  · obtain ⟨r1, s1, hq, hc⟩ := tb2_of hc
    obtain rfl := ts_of hc
    refine lv_aload hx hb d_L_street_0 (lv_at hl 6 rfl) ?_
    refine lv_iconst (v := (0 : Int32)) hx hb d_L_street_2 (by decide) ?_
    refine lv_aload_n hx hb d_L_street_3 rfl (lv_at hl 0 rfl) ?_
    refine lv_iload_n hx hb d_L_street_4 rfl (lv_at hl 1 rfl) ?_
    refine lv_iload_n hx hb d_L_street_5 rfl (lv_at hl 2 rfl) ?_
    refine lv_iload_n hx hb d_L_street_6 rfl (lv_at hl 3 rfl) ?_
    refine lv_iload hx hb d_L_street_7 (lv_at hl 4 rfl) ?_
    refine lv_iload hx hb d_L_street_9 (lv_at hl 5 rfl) ?_
    refine tr_call (va_runV (C := R_T) (As := [.int p0, .int p1, .int p2, .int p3, .int p4]) (rest := [.int (0 : Int32), .ref o]) ⟨hx, hb, hml, hown, ht⟩ (mc_T_street l hd hq) ⟨(tw_cb (n := 5) ht wc_T_street wd_34 wd_432 ⟨rfl, rfl⟩ (by decide +kernel) ⟨(Nat.le_of_ble_eq_true rfl), (Nat.le_of_ble_eq_true rfl)⟩), ht _ wd_433, ht _ wd_434⟩ ⟨tP_blind, va_recv hKl hPl (ci := 0) (q0 := 0) rfl rfl, fun U hU hW => ⟨rfl, by rw [hU]; exact hPl, va_K.moved hW.alike hKl, tW_warm hW hN⟩⟩ rfl rfl hl.1 rfl (lv_room (Nat.le_of_ble_eq_true rfl)) d_L_street_11 ⟨(Nat.le_of_ble_eq_true rfl), (Nat.le_of_ble_eq_true rfl)⟩) hS (fun _ h => Or.inl h) (fun _ h => Or.inl h) (fun H locs hP1 hk hz hS => ?_)
    replace hP : va_P D clS (cwC ad ta s1 ++ lO o cO f) H := hP1.app (lo_kept (ad := ad) hO (lA_no ho) hk)
    refine W.eq (g2 := F0 m 14 ls [.int r1, .int (0 : Int32), .ref o]) rfl ?_
    refine lv_i2l hx hb d_L_street_14 rfl ?_
    refine va_last (f := f) (x := r1.toInt64) hx hb hK hP (lD_of hd ho) hS 37 28 rfl rfl vp_in01 d_L_street_15 (fun H locs hP _ hS => ?_)
    replace hP : va_P D clS (cwC ad ta s1 ++ lO o cO (vp_updL f 0 r1.toInt64)) H := hP
    refine lv_goto (tgt := 27) hx hb d_L_street_16 (by decide) ?_
    refine lv_iconst (v := (0 : Int32)) hx hb d_L_street_27 (by decide) ?_
    refine W.widen (k := 1) (n := 6) (Nat.zero_le _) (Nat.zero_le _) ?_
    exact W.iret (v := (0 : Int32)) hx hb hr (fun t ht9 hW => ⟨rfl, by rw [ht9]; exact hP, hS.F ht9⟩) hS.2.2 d_L_street_28
/-- the law's toll: its answer, the class and the row behind it -/
def lf_toll (p0 : Int32) (p1 : Int32) (σ : tS) (f : Nat → Int64) : Option (Int32 × tS × (Nat → Int64)) :=
  lf1 1 (mx_T_toll p0 p1 σ) σ f (tb2 (mf_T_toll p0 p1 σ) (fun r s => some (0, s, vp_updL f 0 r.toInt64)))
abbrev rl_toll : Room := { frames := 8, cells := 1, slots := 6, locals := 127 }
set_option maxHeartbeats 4000000 in
set_option maxRecDepth 100000 in
theorem lm_toll (l : Launch) (h9 : l.stackTraces = false) {D : va_G} {ad : Nat → Nat} {ta : Nat → ClassId} (hd : tD 37 ad) {o : Nat} {cO : ClassId} {f : Nat → Int64} (ho : ∀ k, k < 37 → ad k ≠ o) {σ : tS} {p0 : Int32} {p1 : Int32} {res : Int32 × tS × (Nat → Int64)} (hc : lf_toll p0 p1 σ f = some res) : Met l y_L_toll (.codeWith y_L_toll b_L_toll 5 (some .int) [(0, 10, 13, 19)] :: tw) rl_toll (lP D ad ta σ o cO f [.ref (ad 0), .int p0, .int p1, .ref o]) (lQ D ad ta o cO res) 1 6 (lA ad o) := by
  refine va_MetW (cc := b_L_toll) (maxL := 5) (ret := (some .int)) (hh := [(0, 10, 13, 19)]) (by decide) rfl ?_
  intro p e s m args below meth c s₁ B hml hv
  obtain ⟨rfl, hP, hK, hN, hT, hNc⟩ := hv
  have hx := B.exec
  have hb := B.bytes
  have hr := B.returns
  have hts := atoms_spec (ws := (.codeWith y_L_toll b_L_toll 5 (some .int) [(0, 10, 13, 19)] :: tw)) B.pre
  have ht : ∀ w ∈ tw, w.before [.ref (ad 0), .int p0, .int p1, .ref o].toArray s = true := fun w h => hts w (List.mem_cons_of_mem _ h)
  have htab := lb_tab B (hts _ List.mem_cons_self)
  have hown : s.vm.findClass R_L = some m.cls := findClass_of_methodNamed B.named
  have hlocks := B.notSynchronized
  have hS : va_S (lA ad o) s.heap s.heap [] := va_S.rf
  have hS0 : va_S tNo s.heap s.heap [] := va_S.rf
  have hPl := lp_left hP
  have hO := lp_right hP
  have hKl := lk_left hK
  have hl := lv_entry ([.ref (ad 0), .int p0, .int p1, .ref o]) (n := 5) (Nat.le_of_ble_eq_true rfl)
  rw [lg_entry_eq]
  generalize (lg_sl ([.ref (ad 0), .int p0, .int p1, .ref o]) ++ List.replicate (5 - (lg_sl ([.ref (ad 0), .int p0, .int p1, .ref o])).length) Slot.unset).toArray = ls at hl ⊢
  replace hl : lv_has ls 5 [(0, .ref (ad 0)), (1, .int p0), (2, .int p1), (3, .ref o)] := hl
  unfold lf_toll at hc
  rcases lf1_of hc with ⟨hm, rfl⟩ | hc
  · refine lv_aload_n hx hb d_L_toll_0 rfl (lv_at hl 3 rfl) ?_
    refine lv_iconst (v := (0 : Int32)) hx hb d_L_toll_1 (by decide) ?_
    refine lv_aload_n hx hb d_L_toll_2 rfl (lv_at hl 0 rfl) ?_
    refine lv_iload_n hx hb d_L_toll_3 rfl (lv_at hl 1 rfl) ?_
    refine lv_iload_n hx hb d_L_toll_4 rfl (lv_at hl 2 rfl) ?_
    refine tr_catch1 (X := xIA) (tx_runV (C := R_T) (As := [.int p0, .int p1]) (rest := [.int (0 : Int32), .ref o]) ⟨hx, hb, hml, hown, ht⟩ (xc_T_toll l h9 hd hm) ⟨pay_in ht (tw_G wc_T_toll), List.mem_cons_self, ht _ wd_34, ⟨(Nat.le_of_ble_eq_true rfl), (Nat.le_of_ble_eq_true rfl), (Nat.le_of_ble_eq_true rfl), (Nat.le_of_ble_eq_true rfl)⟩⟩ (ht _ wd_446) (ht _ wd_447) (ht _ wd_448) (ht _ wc_T_toll) (by decide +kernel) ⟨tPX_blind, va_recv hKl hPl (ci := 0) (q0 := 0) rfl rfl, fun U hU hW => ⟨⟨rfl, by rw [hU]; exact hPl, va_K.moved hW.alike hKl, tW_warm hW hN⟩, tT_go hT hS0 hU hW⟩⟩ rfl (show (parseMethodDescriptor y_T_toll.desc).map (fun d => d.parameters.length) = some 2 by decide +kernel) hl.1 rfl (lv_room (Nat.le_of_ble_eq_true rfl)) d_L_toll_5) hown htab (ht _ wd_394) (va_Nw.use rfl (hT.1 _ ck_IA)) ⟨by decide, by decide⟩ (by decide) (fun x H1 hz hk => ?_)
    refine lv_astore (lv' := [(4, .ref x), (0, .ref (ad 0)), (1, .int p0), (2, .int p1), (3, .ref o)]) hx hb d_L_toll_13 hl (by decide) rfl (fun ls hl => ?_)
    refine lv_iconst (v := (1 : Int32)) hx hb d_L_toll_15 (by decide) ?_
    have hP := hP.kept (fun k q hq => hk q.1 ((hP k q hq).lt))
    have hS : va_S (lA ad o) s.heap H1 [] := ⟨hz, fun q h1 _ => hk q h1, fun _ h => by cases h⟩
    exact W.iret (v := (1 : Int32)) hx hb hr (fun t ht9 hW => ⟨rfl, by rw [ht9]; exact hP, hS.F ht9⟩) hS.2.2 d_L_toll_16
  · obtain ⟨r1, s1, hq, hc⟩ := tb2_of hc
    obtain rfl := ts_of hc
    refine lv_aload_n hx hb d_L_toll_0 rfl (lv_at hl 3 rfl) ?_
    refine lv_iconst (v := (0 : Int32)) hx hb d_L_toll_1 (by decide) ?_
    refine lv_aload_n hx hb d_L_toll_2 rfl (lv_at hl 0 rfl) ?_
    refine lv_iload_n hx hb d_L_toll_3 rfl (lv_at hl 1 rfl) ?_
    refine lv_iload_n hx hb d_L_toll_4 rfl (lv_at hl 2 rfl) ?_
    refine tr_call (va_runV (C := R_T) (As := [.int p0, .int p1]) (rest := [.int (0 : Int32), .ref o]) ⟨hx, hb, hml, hown, ht⟩ (mc_T_toll l hd hq) ⟨(tw_cb (n := 2) ht wc_T_toll wd_34 wd_446 ⟨rfl, rfl⟩ (by decide +kernel) ⟨(Nat.le_of_ble_eq_true rfl), (Nat.le_of_ble_eq_true rfl)⟩), ht _ wd_447, ht _ wd_448⟩ ⟨tP_blind, va_recv hKl hPl (ci := 0) (q0 := 0) rfl rfl, fun U hU hW => ⟨rfl, by rw [hU]; exact hPl, va_K.moved hW.alike hKl, tW_warm hW hN⟩⟩ rfl rfl hl.1 rfl (lv_room (Nat.le_of_ble_eq_true rfl)) d_L_toll_5 ⟨(Nat.le_of_ble_eq_true rfl), (Nat.le_of_ble_eq_true rfl)⟩) hS (fun _ h => Or.inl h) (fun _ h => Or.inl h) (fun H locs hP1 hk hz hS => ?_)
    replace hP : va_P D clS (cwC ad ta s1 ++ lO o cO f) H := hP1.app (lo_kept (ad := ad) hO (lA_no ho) hk)
    refine W.eq (g2 := F0 m 8 ls [.int r1, .int (0 : Int32), .ref o]) rfl ?_
    refine lv_i2l hx hb d_L_toll_8 rfl ?_
    refine va_last (f := f) (x := r1.toInt64) hx hb hK hP (lD_of hd ho) hS 37 28 rfl rfl vp_in01 d_L_toll_9 (fun H locs hP _ hS => ?_)
    replace hP : va_P D clS (cwC ad ta s1 ++ lO o cO (vp_updL f 0 r1.toInt64)) H := hP
    refine lv_goto (tgt := 17) hx hb d_L_toll_10 (by decide) ?_
    refine lv_iconst (v := (0 : Int32)) hx hb d_L_toll_17 (by decide) ?_
    refine W.widen (k := 1) (n := 6) (Nat.zero_le _) (Nat.zero_le _) ?_
    exact W.iret (v := (0 : Int32)) hx hb hr (fun t ht9 hW => ⟨rfl, by rw [ht9]; exact hP, hS.F ht9⟩) hS.2.2 d_L_toll_18
/-- the law's open: its answer, the class and the row behind it -/
def lf_open (p0 : Int32) (p1 : Int32) (σ : tS) (f : Nat → Int64) : Option (Int32 × tS × (Nat → Int64)) :=
  lf1 1 (mx_T_open p0 p1 σ) σ f (tb2 (mf_T_open p0 p1 σ) (fun r s => some (0, s, vp_updL f 0 (if r = 0 then 0 else 1))))
abbrev rl_open : Room := { frames := 8, cells := 1, slots := 6, locals := 126 }
set_option maxHeartbeats 4000000 in
set_option maxRecDepth 100000 in
theorem lm_open (l : Launch) (h9 : l.stackTraces = false) {D : va_G} {ad : Nat → Nat} {ta : Nat → ClassId} (hd : tD 37 ad) {o : Nat} {cO : ClassId} {f : Nat → Int64} (ho : ∀ k, k < 37 → ad k ≠ o) {σ : tS} {p0 : Int32} {p1 : Int32} {res : Int32 × tS × (Nat → Int64)} (hc : lf_open p0 p1 σ f = some res) : Met l y_L_open (.codeWith y_L_open b_L_open 5 (some .int) [(0, 17, 20, 19)] :: tw) rl_open (lP D ad ta σ o cO f [.ref (ad 0), .int p0, .int p1, .ref o]) (lQ D ad ta o cO res) 1 6 (lA ad o) := by
  refine va_MetW (cc := b_L_open) (maxL := 5) (ret := (some .int)) (hh := [(0, 17, 20, 19)]) (by decide) rfl ?_
  intro p e s m args below meth c s₁ B hml hv
  obtain ⟨rfl, hP, hK, hN, hT, hNc⟩ := hv
  have hx := B.exec
  have hb := B.bytes
  have hr := B.returns
  have hts := atoms_spec (ws := (.codeWith y_L_open b_L_open 5 (some .int) [(0, 17, 20, 19)] :: tw)) B.pre
  have ht : ∀ w ∈ tw, w.before [.ref (ad 0), .int p0, .int p1, .ref o].toArray s = true := fun w h => hts w (List.mem_cons_of_mem _ h)
  have htab := lb_tab B (hts _ List.mem_cons_self)
  have hown : s.vm.findClass R_L = some m.cls := findClass_of_methodNamed B.named
  have hlocks := B.notSynchronized
  have hS : va_S (lA ad o) s.heap s.heap [] := va_S.rf
  have hS0 : va_S tNo s.heap s.heap [] := va_S.rf
  have hPl := lp_left hP
  have hO := lp_right hP
  have hKl := lk_left hK
  have hl := lv_entry ([.ref (ad 0), .int p0, .int p1, .ref o]) (n := 5) (Nat.le_of_ble_eq_true rfl)
  rw [lg_entry_eq]
  generalize (lg_sl ([.ref (ad 0), .int p0, .int p1, .ref o]) ++ List.replicate (5 - (lg_sl ([.ref (ad 0), .int p0, .int p1, .ref o])).length) Slot.unset).toArray = ls at hl ⊢
  replace hl : lv_has ls 5 [(0, .ref (ad 0)), (1, .int p0), (2, .int p1), (3, .ref o)] := hl
  unfold lf_open at hc
  rcases lf1_of hc with ⟨hm, rfl⟩ | hc
  · refine lv_aload_n hx hb d_L_open_0 rfl (lv_at hl 3 rfl) ?_
    refine lv_iconst (v := (0 : Int32)) hx hb d_L_open_1 (by decide) ?_
    refine lv_aload_n hx hb d_L_open_2 rfl (lv_at hl 0 rfl) ?_
    refine lv_iload_n hx hb d_L_open_3 rfl (lv_at hl 1 rfl) ?_
    refine lv_iload_n hx hb d_L_open_4 rfl (lv_at hl 2 rfl) ?_
    refine tr_catch1 (X := xIA) (tx_runV (C := R_T) (As := [.int p0, .int p1]) (rest := [.int (0 : Int32), .ref o]) ⟨hx, hb, hml, hown, ht⟩ (xc_T_open l h9 hd hm) ⟨pay_in ht (tw_G wc_T_open), List.mem_cons_self, ht _ wd_34, ⟨(Nat.le_of_ble_eq_true rfl), (Nat.le_of_ble_eq_true rfl), (Nat.le_of_ble_eq_true rfl), (Nat.le_of_ble_eq_true rfl)⟩⟩ (ht _ wd_458) (ht _ wd_459) (ht _ wd_460) (ht _ wc_T_open) (by decide +kernel) ⟨tPX_blind, va_recv hKl hPl (ci := 0) (q0 := 0) rfl rfl, fun U hU hW => ⟨⟨rfl, by rw [hU]; exact hPl, va_K.moved hW.alike hKl, tW_warm hW hN⟩, tT_go hT hS0 hU hW⟩⟩ rfl (show (parseMethodDescriptor y_T_open.desc).map (fun d => d.parameters.length) = some 2 by decide +kernel) hl.1 rfl (lv_room (Nat.le_of_ble_eq_true rfl)) d_L_open_5) hown htab (ht _ wd_394) (va_Nw.use rfl (hT.1 _ ck_IA)) ⟨by decide, by decide⟩ (by decide) (fun x H1 hz hk => ?_)
    refine lv_astore (lv' := [(4, .ref x), (0, .ref (ad 0)), (1, .int p0), (2, .int p1), (3, .ref o)]) hx hb d_L_open_20 hl (by decide) rfl (fun ls hl => ?_)
    refine lv_iconst (v := (1 : Int32)) hx hb d_L_open_22 (by decide) ?_
    have hP := hP.kept (fun k q hq => hk q.1 ((hP k q hq).lt))
    have hS : va_S (lA ad o) s.heap H1 [] := ⟨hz, fun q h1 _ => hk q h1, fun _ h => by cases h⟩
    exact W.iret (v := (1 : Int32)) hx hb hr (fun t ht9 hW => ⟨rfl, by rw [ht9]; exact hP, hS.F ht9⟩) hS.2.2 d_L_open_23
  · obtain ⟨r1, s1, hq, hc⟩ := tb2_of hc
    obtain rfl := ts_of hc
    refine lv_aload_n hx hb d_L_open_0 rfl (lv_at hl 3 rfl) ?_
    refine lv_iconst (v := (0 : Int32)) hx hb d_L_open_1 (by decide) ?_
    refine lv_aload_n hx hb d_L_open_2 rfl (lv_at hl 0 rfl) ?_
    refine lv_iload_n hx hb d_L_open_3 rfl (lv_at hl 1 rfl) ?_
    refine lv_iload_n hx hb d_L_open_4 rfl (lv_at hl 2 rfl) ?_
    refine tr_call (va_runV (C := R_T) (As := [.int p0, .int p1]) (rest := [.int (0 : Int32), .ref o]) ⟨hx, hb, hml, hown, ht⟩ (mc_T_open l hd hq) ⟨(tw_cb (n := 2) ht wc_T_open wd_34 wd_458 ⟨rfl, rfl⟩ (by decide +kernel) ⟨(Nat.le_of_ble_eq_true rfl), (Nat.le_of_ble_eq_true rfl)⟩), ht _ wd_459, ht _ wd_460⟩ ⟨tP_blind, va_recv hKl hPl (ci := 0) (q0 := 0) rfl rfl, fun U hU hW => ⟨rfl, by rw [hU]; exact hPl, va_K.moved hW.alike hKl, tW_warm hW hN⟩⟩ rfl rfl hl.1 rfl (lv_room (Nat.le_of_ble_eq_true rfl)) d_L_open_5 ⟨(Nat.le_of_ble_eq_true rfl), (Nat.le_of_ble_eq_true rfl)⟩) hS (fun _ h => Or.inl h) (fun _ h => Or.inl h) (fun H locs hP1 hk hz hS => ?_)
    replace hP : va_P D clS (cwC ad ta s1 ++ lO o cO f) H := hP1.app (lo_kept (ad := ad) hO (lA_no ho) hk)
    refine W.eq (g2 := F0 m 8 ls [.int r1, .int (0 : Int32), .ref o]) rfl ?_
    refine lv_if_eq (tgt := 15) hx hb d_L_open_8 (by decide) (fun h0 => ?_) (fun h0 => ?_)
    · rw [if_pos h0]
      refine lv_lconst (v := (0 : Int64)) hx hb d_L_open_15 (by decide) ?_
      refine va_last (f := f) (x := (0 : Int64)) hx hb hK hP (lD_of hd ho) hS 37 28 rfl rfl vp_in01 d_L_open_16 (fun H locs hP _ hS => ?_)
      replace hP : va_P D clS (cwC ad ta s1 ++ lO o cO (vp_updL f 0 (0 : Int64))) H := hP
      refine lv_goto (tgt := 24) hx hb d_L_open_17 (by decide) ?_
      refine lv_iconst (v := (0 : Int32)) hx hb d_L_open_24 (by decide) ?_
      refine W.widen (k := 1) (n := 6) (Nat.zero_le _) (Nat.zero_le _) ?_
      exact W.iret (v := (0 : Int32)) hx hb hr (fun t ht9 hW => ⟨rfl, by rw [ht9]; exact hP, hS.F ht9⟩) hS.2.2 d_L_open_25
    · rw [if_neg h0]
      refine lv_lconst (v := (1 : Int64)) hx hb d_L_open_11 (by decide) ?_
      refine lv_goto (tgt := 16) hx hb d_L_open_12 (by decide) ?_
      refine va_last (f := f) (x := (1 : Int64)) hx hb hK hP (lD_of hd ho) hS 37 28 rfl rfl vp_in01 d_L_open_16 (fun H locs hP _ hS => ?_)
      replace hP : va_P D clS (cwC ad ta s1 ++ lO o cO (vp_updL f 0 (1 : Int64))) H := hP
      refine lv_goto (tgt := 24) hx hb d_L_open_17 (by decide) ?_
      refine lv_iconst (v := (0 : Int32)) hx hb d_L_open_24 (by decide) ?_
      refine W.widen (k := 1) (n := 6) (Nat.zero_le _) (Nat.zero_le _) ?_
      exact W.iret (v := (0 : Int32)) hx hb hr (fun t ht9 hW => ⟨rfl, by rw [ht9]; exact hP, hS.F ht9⟩) hS.2.2 d_L_open_25
/-- the law's weight: its answer, the class and the row behind it -/
def lf_weight (p0 : Int32) (p1 : Int32) (p2 : Int32) (σ : tS) (f : Nat → Int64) : Option (Int32 × tS × (Nat → Int64)) :=
  lf1 1 (mx_T_weight p0 p1 p2 σ) σ f (tb2 (mf_T_weight p0 p1 p2 σ) (fun r s => some (0, s, vp_updL f 0 r.toInt64)))
abbrev rl_weight : Room := { frames := 8, cells := 1, slots := 6, locals := 129 }
set_option maxHeartbeats 4000000 in
set_option maxRecDepth 100000 in
theorem lm_weight (l : Launch) (h9 : l.stackTraces = false) {D : va_G} {ad : Nat → Nat} {ta : Nat → ClassId} (hd : tD 37 ad) {o : Nat} {cO : ClassId} {f : Nat → Int64} (ho : ∀ k, k < 37 → ad k ≠ o) {σ : tS} {p0 : Int32} {p1 : Int32} {p2 : Int32} {res : Int32 × tS × (Nat → Int64)} (hc : lf_weight p0 p1 p2 σ f = some res) : Met l y_L_weight (.codeWith y_L_weight b_L_weight 6 (some .int) [(0, 12, 15, 19)] :: tw) rl_weight (lP D ad ta σ o cO f [.ref (ad 0), .int p0, .int p1, .int p2, .ref o]) (lQ D ad ta o cO res) 1 6 (lA ad o) := by
  refine va_MetW (cc := b_L_weight) (maxL := 6) (ret := (some .int)) (hh := [(0, 12, 15, 19)]) (by decide) rfl ?_
  intro p e s m args below meth c s₁ B hml hv
  obtain ⟨rfl, hP, hK, hN, hT, hNc⟩ := hv
  have hx := B.exec
  have hb := B.bytes
  have hr := B.returns
  have hts := atoms_spec (ws := (.codeWith y_L_weight b_L_weight 6 (some .int) [(0, 12, 15, 19)] :: tw)) B.pre
  have ht : ∀ w ∈ tw, w.before [.ref (ad 0), .int p0, .int p1, .int p2, .ref o].toArray s = true := fun w h => hts w (List.mem_cons_of_mem _ h)
  have htab := lb_tab B (hts _ List.mem_cons_self)
  have hown : s.vm.findClass R_L = some m.cls := findClass_of_methodNamed B.named
  have hlocks := B.notSynchronized
  have hS : va_S (lA ad o) s.heap s.heap [] := va_S.rf
  have hS0 : va_S tNo s.heap s.heap [] := va_S.rf
  have hPl := lp_left hP
  have hO := lp_right hP
  have hKl := lk_left hK
  have hl := lv_entry ([.ref (ad 0), .int p0, .int p1, .int p2, .ref o]) (n := 6) (Nat.le_of_ble_eq_true rfl)
  rw [lg_entry_eq]
  generalize (lg_sl ([.ref (ad 0), .int p0, .int p1, .int p2, .ref o]) ++ List.replicate (6 - (lg_sl ([.ref (ad 0), .int p0, .int p1, .int p2, .ref o])).length) Slot.unset).toArray = ls at hl ⊢
  replace hl : lv_has ls 6 [(0, .ref (ad 0)), (1, .int p0), (2, .int p1), (3, .int p2), (4, .ref o)] := hl
  unfold lf_weight at hc
  rcases lf1_of hc with ⟨hm, rfl⟩ | hc
  · refine lv_aload hx hb d_L_weight_0 (lv_at hl 4 rfl) ?_
    refine lv_iconst (v := (0 : Int32)) hx hb d_L_weight_2 (by decide) ?_
    refine lv_aload_n hx hb d_L_weight_3 rfl (lv_at hl 0 rfl) ?_
    refine lv_iload_n hx hb d_L_weight_4 rfl (lv_at hl 1 rfl) ?_
    refine lv_iload_n hx hb d_L_weight_5 rfl (lv_at hl 2 rfl) ?_
    refine lv_iload_n hx hb d_L_weight_6 rfl (lv_at hl 3 rfl) ?_
    refine tr_catch1 (X := xIA) (tx_runV (C := R_T) (As := [.int p0, .int p1, .int p2]) (rest := [.int (0 : Int32), .ref o]) ⟨hx, hb, hml, hown, ht⟩ (xc_T_weight l h9 hd hm) ⟨pay_in ht (tw_G wc_T_weight), List.mem_cons_self, ht _ wd_34, ⟨(Nat.le_of_ble_eq_true rfl), (Nat.le_of_ble_eq_true rfl), (Nat.le_of_ble_eq_true rfl), (Nat.le_of_ble_eq_true rfl)⟩⟩ (ht _ wd_465) (ht _ wd_466) (ht _ wd_467) (ht _ wc_T_weight) (by decide +kernel) ⟨tPX_blind, va_recv hKl hPl (ci := 0) (q0 := 0) rfl rfl, fun U hU hW => ⟨⟨rfl, by rw [hU]; exact hPl, va_K.moved hW.alike hKl, tW_warm hW hN⟩, tT_go hT hS0 hU hW⟩⟩ rfl (show (parseMethodDescriptor y_T_weight.desc).map (fun d => d.parameters.length) = some 3 by decide +kernel) hl.1 rfl (lv_room (Nat.le_of_ble_eq_true rfl)) d_L_weight_7) hown htab (ht _ wd_394) (va_Nw.use rfl (hT.1 _ ck_IA)) ⟨by decide, by decide⟩ (by decide) (fun x H1 hz hk => ?_)
    refine lv_astore (lv' := [(5, .ref x), (0, .ref (ad 0)), (1, .int p0), (2, .int p1), (3, .int p2), (4, .ref o)]) hx hb d_L_weight_15 hl (by decide) rfl (fun ls hl => ?_)
    refine lv_iconst (v := (1 : Int32)) hx hb d_L_weight_17 (by decide) ?_
    have hP := hP.kept (fun k q hq => hk q.1 ((hP k q hq).lt))
    have hS : va_S (lA ad o) s.heap H1 [] := ⟨hz, fun q h1 _ => hk q h1, fun _ h => by cases h⟩
    exact W.iret (v := (1 : Int32)) hx hb hr (fun t ht9 hW => ⟨rfl, by rw [ht9]; exact hP, hS.F ht9⟩) hS.2.2 d_L_weight_18
  · obtain ⟨r1, s1, hq, hc⟩ := tb2_of hc
    obtain rfl := ts_of hc
    refine lv_aload hx hb d_L_weight_0 (lv_at hl 4 rfl) ?_
    refine lv_iconst (v := (0 : Int32)) hx hb d_L_weight_2 (by decide) ?_
    refine lv_aload_n hx hb d_L_weight_3 rfl (lv_at hl 0 rfl) ?_
    refine lv_iload_n hx hb d_L_weight_4 rfl (lv_at hl 1 rfl) ?_
    refine lv_iload_n hx hb d_L_weight_5 rfl (lv_at hl 2 rfl) ?_
    refine lv_iload_n hx hb d_L_weight_6 rfl (lv_at hl 3 rfl) ?_
    refine tr_call (va_runV (C := R_T) (As := [.int p0, .int p1, .int p2]) (rest := [.int (0 : Int32), .ref o]) ⟨hx, hb, hml, hown, ht⟩ (mc_T_weight l hd hq) ⟨(tw_cb (n := 3) ht wc_T_weight wd_34 wd_465 ⟨rfl, rfl⟩ (by decide +kernel) ⟨(Nat.le_of_ble_eq_true rfl), (Nat.le_of_ble_eq_true rfl)⟩), ht _ wd_466, ht _ wd_467⟩ ⟨tP_blind, va_recv hKl hPl (ci := 0) (q0 := 0) rfl rfl, fun U hU hW => ⟨rfl, by rw [hU]; exact hPl, va_K.moved hW.alike hKl, tW_warm hW hN⟩⟩ rfl rfl hl.1 rfl (lv_room (Nat.le_of_ble_eq_true rfl)) d_L_weight_7 ⟨(Nat.le_of_ble_eq_true rfl), (Nat.le_of_ble_eq_true rfl)⟩) hS (fun _ h => Or.inl h) (fun _ h => Or.inl h) (fun H locs hP1 hk hz hS => ?_)
    replace hP : va_P D clS (cwC ad ta s1 ++ lO o cO f) H := hP1.app (lo_kept (ad := ad) hO (lA_no ho) hk)
    refine W.eq (g2 := F0 m 10 ls [.int r1, .int (0 : Int32), .ref o]) rfl ?_
    refine lv_i2l hx hb d_L_weight_10 rfl ?_
    refine va_last (f := f) (x := r1.toInt64) hx hb hK hP (lD_of hd ho) hS 37 28 rfl rfl vp_in01 d_L_weight_11 (fun H locs hP _ hS => ?_)
    replace hP : va_P D clS (cwC ad ta s1 ++ lO o cO (vp_updL f 0 r1.toInt64)) H := hP
    refine lv_goto (tgt := 19) hx hb d_L_weight_12 (by decide) ?_
    refine lv_iconst (v := (0 : Int32)) hx hb d_L_weight_19 (by decide) ?_
    refine W.widen (k := 1) (n := 6) (Nat.zero_le _) (Nat.zero_le _) ?_
    exact W.iret (v := (0 : Int32)) hx hb hr (fun t ht9 hW => ⟨rfl, by rw [ht9]; exact hP, hS.F ht9⟩) hS.2.2 d_L_weight_20
/-- the law's size: its answer, the class and the row behind it -/
def lf_size (p0 : Int32) (p1 : Int32) (p2 : Int32) (σ : tS) (f : Nat → Int64) : Option (Int32 × tS × (Nat → Int64)) :=
  lf1 1 (mx_T_size p0 p1 p2 σ) σ f (tb2 (mf_T_size p0 p1 p2 σ) (fun r s => some (0, s, vp_updL f 0 r.toInt64)))
abbrev rl_size : Room := { frames := 8, cells := 1, slots := 6, locals := 129 }
set_option maxHeartbeats 4000000 in
set_option maxRecDepth 100000 in
theorem lm_size (l : Launch) (h9 : l.stackTraces = false) {D : va_G} {ad : Nat → Nat} {ta : Nat → ClassId} (hd : tD 37 ad) {o : Nat} {cO : ClassId} {f : Nat → Int64} (ho : ∀ k, k < 37 → ad k ≠ o) {σ : tS} {p0 : Int32} {p1 : Int32} {p2 : Int32} {res : Int32 × tS × (Nat → Int64)} (hc : lf_size p0 p1 p2 σ f = some res) : Met l y_L_size (.codeWith y_L_size b_L_size 6 (some .int) [(0, 12, 15, 19)] :: tw) rl_size (lP D ad ta σ o cO f [.ref (ad 0), .int p0, .int p1, .int p2, .ref o]) (lQ D ad ta o cO res) 1 6 (lA ad o) := by
  refine va_MetW (cc := b_L_size) (maxL := 6) (ret := (some .int)) (hh := [(0, 12, 15, 19)]) (by decide) rfl ?_
  intro p e s m args below meth c s₁ B hml hv
  obtain ⟨rfl, hP, hK, hN, hT, hNc⟩ := hv
  have hx := B.exec
  have hb := B.bytes
  have hr := B.returns
  have hts := atoms_spec (ws := (.codeWith y_L_size b_L_size 6 (some .int) [(0, 12, 15, 19)] :: tw)) B.pre
  have ht : ∀ w ∈ tw, w.before [.ref (ad 0), .int p0, .int p1, .int p2, .ref o].toArray s = true := fun w h => hts w (List.mem_cons_of_mem _ h)
  have htab := lb_tab B (hts _ List.mem_cons_self)
  have hown : s.vm.findClass R_L = some m.cls := findClass_of_methodNamed B.named
  have hlocks := B.notSynchronized
  have hS : va_S (lA ad o) s.heap s.heap [] := va_S.rf
  have hS0 : va_S tNo s.heap s.heap [] := va_S.rf
  have hPl := lp_left hP
  have hO := lp_right hP
  have hKl := lk_left hK
  have hl := lv_entry ([.ref (ad 0), .int p0, .int p1, .int p2, .ref o]) (n := 6) (Nat.le_of_ble_eq_true rfl)
  rw [lg_entry_eq]
  generalize (lg_sl ([.ref (ad 0), .int p0, .int p1, .int p2, .ref o]) ++ List.replicate (6 - (lg_sl ([.ref (ad 0), .int p0, .int p1, .int p2, .ref o])).length) Slot.unset).toArray = ls at hl ⊢
  replace hl : lv_has ls 6 [(0, .ref (ad 0)), (1, .int p0), (2, .int p1), (3, .int p2), (4, .ref o)] := hl
  unfold lf_size at hc
  rcases lf1_of hc with ⟨hm, rfl⟩ | hc
  · refine lv_aload hx hb d_L_size_0 (lv_at hl 4 rfl) ?_
    refine lv_iconst (v := (0 : Int32)) hx hb d_L_size_2 (by decide) ?_
    refine lv_aload_n hx hb d_L_size_3 rfl (lv_at hl 0 rfl) ?_
    refine lv_iload_n hx hb d_L_size_4 rfl (lv_at hl 1 rfl) ?_
    refine lv_iload_n hx hb d_L_size_5 rfl (lv_at hl 2 rfl) ?_
    refine lv_iload_n hx hb d_L_size_6 rfl (lv_at hl 3 rfl) ?_
    refine tr_catch1 (X := xIA) (tx_runV (C := R_T) (As := [.int p0, .int p1, .int p2]) (rest := [.int (0 : Int32), .ref o]) ⟨hx, hb, hml, hown, ht⟩ (xc_T_size l h9 hd hm) ⟨pay_in ht (tw_G wc_T_size), List.mem_cons_self, ht _ wd_34, ⟨(Nat.le_of_ble_eq_true rfl), (Nat.le_of_ble_eq_true rfl), (Nat.le_of_ble_eq_true rfl), (Nat.le_of_ble_eq_true rfl)⟩⟩ (ht _ wd_477) (ht _ wd_478) (ht _ wd_479) (ht _ wc_T_size) (by decide +kernel) ⟨tPX_blind, va_recv hKl hPl (ci := 0) (q0 := 0) rfl rfl, fun U hU hW => ⟨⟨rfl, by rw [hU]; exact hPl, va_K.moved hW.alike hKl, tW_warm hW hN⟩, tT_go hT hS0 hU hW⟩⟩ rfl (show (parseMethodDescriptor y_T_size.desc).map (fun d => d.parameters.length) = some 3 by decide +kernel) hl.1 rfl (lv_room (Nat.le_of_ble_eq_true rfl)) d_L_size_7) hown htab (ht _ wd_394) (va_Nw.use rfl (hT.1 _ ck_IA)) ⟨by decide, by decide⟩ (by decide) (fun x H1 hz hk => ?_)
    refine lv_astore (lv' := [(5, .ref x), (0, .ref (ad 0)), (1, .int p0), (2, .int p1), (3, .int p2), (4, .ref o)]) hx hb d_L_size_15 hl (by decide) rfl (fun ls hl => ?_)
    refine lv_iconst (v := (1 : Int32)) hx hb d_L_size_17 (by decide) ?_
    have hP := hP.kept (fun k q hq => hk q.1 ((hP k q hq).lt))
    have hS : va_S (lA ad o) s.heap H1 [] := ⟨hz, fun q h1 _ => hk q h1, fun _ h => by cases h⟩
    exact W.iret (v := (1 : Int32)) hx hb hr (fun t ht9 hW => ⟨rfl, by rw [ht9]; exact hP, hS.F ht9⟩) hS.2.2 d_L_size_18
  · obtain ⟨r1, s1, hq, hc⟩ := tb2_of hc
    obtain rfl := ts_of hc
    refine lv_aload hx hb d_L_size_0 (lv_at hl 4 rfl) ?_
    refine lv_iconst (v := (0 : Int32)) hx hb d_L_size_2 (by decide) ?_
    refine lv_aload_n hx hb d_L_size_3 rfl (lv_at hl 0 rfl) ?_
    refine lv_iload_n hx hb d_L_size_4 rfl (lv_at hl 1 rfl) ?_
    refine lv_iload_n hx hb d_L_size_5 rfl (lv_at hl 2 rfl) ?_
    refine lv_iload_n hx hb d_L_size_6 rfl (lv_at hl 3 rfl) ?_
    refine tr_call (va_runV (C := R_T) (As := [.int p0, .int p1, .int p2]) (rest := [.int (0 : Int32), .ref o]) ⟨hx, hb, hml, hown, ht⟩ (mc_T_size l hd hq) ⟨(tw_cb (n := 3) ht wc_T_size wd_34 wd_477 ⟨rfl, rfl⟩ (by decide +kernel) ⟨(Nat.le_of_ble_eq_true rfl), (Nat.le_of_ble_eq_true rfl)⟩), ht _ wd_478, ht _ wd_479⟩ ⟨tP_blind, va_recv hKl hPl (ci := 0) (q0 := 0) rfl rfl, fun U hU hW => ⟨rfl, by rw [hU]; exact hPl, va_K.moved hW.alike hKl, tW_warm hW hN⟩⟩ rfl rfl hl.1 rfl (lv_room (Nat.le_of_ble_eq_true rfl)) d_L_size_7 ⟨(Nat.le_of_ble_eq_true rfl), (Nat.le_of_ble_eq_true rfl)⟩) hS (fun _ h => Or.inl h) (fun _ h => Or.inl h) (fun H locs hP1 hk hz hS => ?_)
    replace hP : va_P D clS (cwC ad ta s1 ++ lO o cO f) H := hP1.app (lo_kept (ad := ad) hO (lA_no ho) hk)
    refine W.eq (g2 := F0 m 10 ls [.int r1, .int (0 : Int32), .ref o]) rfl ?_
    refine lv_i2l hx hb d_L_size_10 rfl ?_
    refine va_last (f := f) (x := r1.toInt64) hx hb hK hP (lD_of hd ho) hS 37 28 rfl rfl vp_in01 d_L_size_11 (fun H locs hP _ hS => ?_)
    replace hP : va_P D clS (cwC ad ta s1 ++ lO o cO (vp_updL f 0 r1.toInt64)) H := hP
    refine lv_goto (tgt := 19) hx hb d_L_size_12 (by decide) ?_
    refine lv_iconst (v := (0 : Int32)) hx hb d_L_size_19 (by decide) ?_
    refine W.widen (k := 1) (n := 6) (Nat.zero_le _) (Nat.zero_le _) ?_
    exact W.iret (v := (0 : Int32)) hx hb hr (fun t ht9 hW => ⟨rfl, by rw [ht9]; exact hP, hS.F ht9⟩) hS.2.2 d_L_size_20
/-- the law's rounds: its answer, the class and the row behind it -/
def lf_rounds (p0 : Int32) (p1 : Int32) (σ : tS) (f : Nat → Int64) : Option (Int32 × tS × (Nat → Int64)) :=
  lf1 1 (mx_T_rounds p0 p1 σ) σ f (tb2 (mf_T_rounds p0 p1 σ) (fun r s => some (0, s, vp_updL f 0 r.toInt64)))
abbrev rl_rounds : Room := { frames := 8, cells := 1, slots := 6, locals := 126 }
set_option maxHeartbeats 4000000 in
set_option maxRecDepth 100000 in
theorem lm_rounds (l : Launch) (h9 : l.stackTraces = false) {D : va_G} {ad : Nat → Nat} {ta : Nat → ClassId} (hd : tD 37 ad) {o : Nat} {cO : ClassId} {f : Nat → Int64} (ho : ∀ k, k < 37 → ad k ≠ o) {σ : tS} {p0 : Int32} {p1 : Int32} {res : Int32 × tS × (Nat → Int64)} (hc : lf_rounds p0 p1 σ f = some res) : Met l y_L_rounds (.codeWith y_L_rounds b_L_rounds 5 (some .int) [(0, 10, 13, 19)] :: tw) rl_rounds (lP D ad ta σ o cO f [.ref (ad 0), .int p0, .int p1, .ref o]) (lQ D ad ta o cO res) 1 6 (lA ad o) := by
  refine va_MetW (cc := b_L_rounds) (maxL := 5) (ret := (some .int)) (hh := [(0, 10, 13, 19)]) (by decide) rfl ?_
  intro p e s m args below meth c s₁ B hml hv
  obtain ⟨rfl, hP, hK, hN, hT, hNc⟩ := hv
  have hx := B.exec
  have hb := B.bytes
  have hr := B.returns
  have hts := atoms_spec (ws := (.codeWith y_L_rounds b_L_rounds 5 (some .int) [(0, 10, 13, 19)] :: tw)) B.pre
  have ht : ∀ w ∈ tw, w.before [.ref (ad 0), .int p0, .int p1, .ref o].toArray s = true := fun w h => hts w (List.mem_cons_of_mem _ h)
  have htab := lb_tab B (hts _ List.mem_cons_self)
  have hown : s.vm.findClass R_L = some m.cls := findClass_of_methodNamed B.named
  have hlocks := B.notSynchronized
  have hS : va_S (lA ad o) s.heap s.heap [] := va_S.rf
  have hS0 : va_S tNo s.heap s.heap [] := va_S.rf
  have hPl := lp_left hP
  have hO := lp_right hP
  have hKl := lk_left hK
  have hl := lv_entry ([.ref (ad 0), .int p0, .int p1, .ref o]) (n := 5) (Nat.le_of_ble_eq_true rfl)
  rw [lg_entry_eq]
  generalize (lg_sl ([.ref (ad 0), .int p0, .int p1, .ref o]) ++ List.replicate (5 - (lg_sl ([.ref (ad 0), .int p0, .int p1, .ref o])).length) Slot.unset).toArray = ls at hl ⊢
  replace hl : lv_has ls 5 [(0, .ref (ad 0)), (1, .int p0), (2, .int p1), (3, .ref o)] := hl
  unfold lf_rounds at hc
  rcases lf1_of hc with ⟨hm, rfl⟩ | hc
  · refine lv_aload_n hx hb d_L_rounds_0 rfl (lv_at hl 3 rfl) ?_
    refine lv_iconst (v := (0 : Int32)) hx hb d_L_rounds_1 (by decide) ?_
    refine lv_aload_n hx hb d_L_rounds_2 rfl (lv_at hl 0 rfl) ?_
    refine lv_iload_n hx hb d_L_rounds_3 rfl (lv_at hl 1 rfl) ?_
    refine lv_iload_n hx hb d_L_rounds_4 rfl (lv_at hl 2 rfl) ?_
    refine tr_catch1 (X := xIA) (tx_runV (C := R_T) (As := [.int p0, .int p1]) (rest := [.int (0 : Int32), .ref o]) ⟨hx, hb, hml, hown, ht⟩ (xc_T_rounds l h9 hd hm) ⟨pay_in ht (tw_G wc_T_rounds), List.mem_cons_self, ht _ wd_34, ⟨(Nat.le_of_ble_eq_true rfl), (Nat.le_of_ble_eq_true rfl), (Nat.le_of_ble_eq_true rfl), (Nat.le_of_ble_eq_true rfl)⟩⟩ (ht _ wd_484) (ht _ wd_485) (ht _ wd_486) (ht _ wc_T_rounds) (by decide +kernel) ⟨tPX_blind, va_recv hKl hPl (ci := 0) (q0 := 0) rfl rfl, fun U hU hW => ⟨⟨rfl, by rw [hU]; exact hPl, va_K.moved hW.alike hKl, tW_warm hW hN⟩, tT_go hT hS0 hU hW⟩⟩ rfl (show (parseMethodDescriptor y_T_rounds.desc).map (fun d => d.parameters.length) = some 2 by decide +kernel) hl.1 rfl (lv_room (Nat.le_of_ble_eq_true rfl)) d_L_rounds_5) hown htab (ht _ wd_394) (va_Nw.use rfl (hT.1 _ ck_IA)) ⟨by decide, by decide⟩ (by decide) (fun x H1 hz hk => ?_)
    refine lv_astore (lv' := [(4, .ref x), (0, .ref (ad 0)), (1, .int p0), (2, .int p1), (3, .ref o)]) hx hb d_L_rounds_13 hl (by decide) rfl (fun ls hl => ?_)
    refine lv_iconst (v := (1 : Int32)) hx hb d_L_rounds_15 (by decide) ?_
    have hP := hP.kept (fun k q hq => hk q.1 ((hP k q hq).lt))
    have hS : va_S (lA ad o) s.heap H1 [] := ⟨hz, fun q h1 _ => hk q h1, fun _ h => by cases h⟩
    exact W.iret (v := (1 : Int32)) hx hb hr (fun t ht9 hW => ⟨rfl, by rw [ht9]; exact hP, hS.F ht9⟩) hS.2.2 d_L_rounds_16
  · obtain ⟨r1, s1, hq, hc⟩ := tb2_of hc
    obtain rfl := ts_of hc
    refine lv_aload_n hx hb d_L_rounds_0 rfl (lv_at hl 3 rfl) ?_
    refine lv_iconst (v := (0 : Int32)) hx hb d_L_rounds_1 (by decide) ?_
    refine lv_aload_n hx hb d_L_rounds_2 rfl (lv_at hl 0 rfl) ?_
    refine lv_iload_n hx hb d_L_rounds_3 rfl (lv_at hl 1 rfl) ?_
    refine lv_iload_n hx hb d_L_rounds_4 rfl (lv_at hl 2 rfl) ?_
    refine tr_call (va_runV (C := R_T) (As := [.int p0, .int p1]) (rest := [.int (0 : Int32), .ref o]) ⟨hx, hb, hml, hown, ht⟩ (mc_T_rounds l hd hq) ⟨(tw_cb (n := 2) ht wc_T_rounds wd_34 wd_484 ⟨rfl, rfl⟩ (by decide +kernel) ⟨(Nat.le_of_ble_eq_true rfl), (Nat.le_of_ble_eq_true rfl)⟩), ht _ wd_485, ht _ wd_486⟩ ⟨tP_blind, va_recv hKl hPl (ci := 0) (q0 := 0) rfl rfl, fun U hU hW => ⟨rfl, by rw [hU]; exact hPl, va_K.moved hW.alike hKl, tW_warm hW hN⟩⟩ rfl rfl hl.1 rfl (lv_room (Nat.le_of_ble_eq_true rfl)) d_L_rounds_5 ⟨(Nat.le_of_ble_eq_true rfl), (Nat.le_of_ble_eq_true rfl)⟩) hS (fun _ h => Or.inl h) (fun _ h => Or.inl h) (fun H locs hP1 hk hz hS => ?_)
    replace hP : va_P D clS (cwC ad ta s1 ++ lO o cO f) H := hP1.app (lo_kept (ad := ad) hO (lA_no ho) hk)
    refine W.eq (g2 := F0 m 8 ls [.int r1, .int (0 : Int32), .ref o]) rfl ?_
    refine lv_i2l hx hb d_L_rounds_8 rfl ?_
    refine va_last (f := f) (x := r1.toInt64) hx hb hK hP (lD_of hd ho) hS 37 28 rfl rfl vp_in01 d_L_rounds_9 (fun H locs hP _ hS => ?_)
    replace hP : va_P D clS (cwC ad ta s1 ++ lO o cO (vp_updL f 0 r1.toInt64)) H := hP
    refine lv_goto (tgt := 17) hx hb d_L_rounds_10 (by decide) ?_
    refine lv_iconst (v := (0 : Int32)) hx hb d_L_rounds_17 (by decide) ?_
    refine W.widen (k := 1) (n := 6) (Nat.zero_le _) (Nat.zero_le _) ?_
    exact W.iret (v := (0 : Int32)) hx hb hr (fun t ht9 hW => ⟨rfl, by rw [ht9]; exact hP, hS.F ht9⟩) hS.2.2 d_L_rounds_18
/-- the law's trips: its answer, the class and the row behind it -/
def lf_trips (p0 : Int32) (p1 : Int32) (σ : tS) (f : Nat → Int64) : Option (Int32 × tS × (Nat → Int64)) :=
  lf1 1 (mx_T_trips p0 p1 σ) σ f (tb2 (mf_T_trips p0 p1 σ) (fun r s => some (0, s, vp_updL f 0 r.toInt64)))
abbrev rl_trips : Room := { frames := 8, cells := 1, slots := 6, locals := 125 }
set_option maxHeartbeats 4000000 in
set_option maxRecDepth 100000 in
theorem lm_trips (l : Launch) (h9 : l.stackTraces = false) {D : va_G} {ad : Nat → Nat} {ta : Nat → ClassId} (hd : tD 37 ad) {o : Nat} {cO : ClassId} {f : Nat → Int64} (ho : ∀ k, k < 37 → ad k ≠ o) {σ : tS} {p0 : Int32} {p1 : Int32} {res : Int32 × tS × (Nat → Int64)} (hc : lf_trips p0 p1 σ f = some res) : Met l y_L_trips (.codeWith y_L_trips b_L_trips 5 (some .int) [(0, 10, 13, 19)] :: tw) rl_trips (lP D ad ta σ o cO f [.ref (ad 0), .int p0, .int p1, .ref o]) (lQ D ad ta o cO res) 1 6 (lA ad o) := by
  refine va_MetW (cc := b_L_trips) (maxL := 5) (ret := (some .int)) (hh := [(0, 10, 13, 19)]) (by decide) rfl ?_
  intro p e s m args below meth c s₁ B hml hv
  obtain ⟨rfl, hP, hK, hN, hT, hNc⟩ := hv
  have hx := B.exec
  have hb := B.bytes
  have hr := B.returns
  have hts := atoms_spec (ws := (.codeWith y_L_trips b_L_trips 5 (some .int) [(0, 10, 13, 19)] :: tw)) B.pre
  have ht : ∀ w ∈ tw, w.before [.ref (ad 0), .int p0, .int p1, .ref o].toArray s = true := fun w h => hts w (List.mem_cons_of_mem _ h)
  have htab := lb_tab B (hts _ List.mem_cons_self)
  have hown : s.vm.findClass R_L = some m.cls := findClass_of_methodNamed B.named
  have hlocks := B.notSynchronized
  have hS : va_S (lA ad o) s.heap s.heap [] := va_S.rf
  have hS0 : va_S tNo s.heap s.heap [] := va_S.rf
  have hPl := lp_left hP
  have hO := lp_right hP
  have hKl := lk_left hK
  have hl := lv_entry ([.ref (ad 0), .int p0, .int p1, .ref o]) (n := 5) (Nat.le_of_ble_eq_true rfl)
  rw [lg_entry_eq]
  generalize (lg_sl ([.ref (ad 0), .int p0, .int p1, .ref o]) ++ List.replicate (5 - (lg_sl ([.ref (ad 0), .int p0, .int p1, .ref o])).length) Slot.unset).toArray = ls at hl ⊢
  replace hl : lv_has ls 5 [(0, .ref (ad 0)), (1, .int p0), (2, .int p1), (3, .ref o)] := hl
  unfold lf_trips at hc
  rcases lf1_of hc with ⟨hm, rfl⟩ | hc
  · refine lv_aload_n hx hb d_L_trips_0 rfl (lv_at hl 3 rfl) ?_
    refine lv_iconst (v := (0 : Int32)) hx hb d_L_trips_1 (by decide) ?_
    refine lv_aload_n hx hb d_L_trips_2 rfl (lv_at hl 0 rfl) ?_
    refine lv_iload_n hx hb d_L_trips_3 rfl (lv_at hl 1 rfl) ?_
    refine lv_iload_n hx hb d_L_trips_4 rfl (lv_at hl 2 rfl) ?_
    refine tr_catch1 (X := xIA) (tx_runV (C := R_T) (As := [.int p0, .int p1]) (rest := [.int (0 : Int32), .ref o]) ⟨hx, hb, hml, hown, ht⟩ (xc_T_trips l h9 hd hm) ⟨pay_in ht (tw_G wc_T_trips), List.mem_cons_self, ht _ wd_34, ⟨(Nat.le_of_ble_eq_true rfl), (Nat.le_of_ble_eq_true rfl), (Nat.le_of_ble_eq_true rfl), (Nat.le_of_ble_eq_true rfl)⟩⟩ (ht _ wd_530) (ht _ wd_531) (ht _ wd_532) (ht _ wc_T_trips) (by decide +kernel) ⟨tPX_blind, va_recv hKl hPl (ci := 0) (q0 := 0) rfl rfl, fun U hU hW => ⟨⟨rfl, by rw [hU]; exact hPl, va_K.moved hW.alike hKl, tW_warm hW hN⟩, tT_go hT hS0 hU hW⟩⟩ rfl (show (parseMethodDescriptor y_T_trips.desc).map (fun d => d.parameters.length) = some 2 by decide +kernel) hl.1 rfl (lv_room (Nat.le_of_ble_eq_true rfl)) d_L_trips_5) hown htab (ht _ wd_394) (va_Nw.use rfl (hT.1 _ ck_IA)) ⟨by decide, by decide⟩ (by decide) (fun x H1 hz hk => ?_)
    refine lv_astore (lv' := [(4, .ref x), (0, .ref (ad 0)), (1, .int p0), (2, .int p1), (3, .ref o)]) hx hb d_L_trips_13 hl (by decide) rfl (fun ls hl => ?_)
    refine lv_iconst (v := (1 : Int32)) hx hb d_L_trips_15 (by decide) ?_
    have hP := hP.kept (fun k q hq => hk q.1 ((hP k q hq).lt))
    have hS : va_S (lA ad o) s.heap H1 [] := ⟨hz, fun q h1 _ => hk q h1, fun _ h => by cases h⟩
    exact W.iret (v := (1 : Int32)) hx hb hr (fun t ht9 hW => ⟨rfl, by rw [ht9]; exact hP, hS.F ht9⟩) hS.2.2 d_L_trips_16
  · obtain ⟨r1, s1, hq, hc⟩ := tb2_of hc
    obtain rfl := ts_of hc
    refine lv_aload_n hx hb d_L_trips_0 rfl (lv_at hl 3 rfl) ?_
    refine lv_iconst (v := (0 : Int32)) hx hb d_L_trips_1 (by decide) ?_
    refine lv_aload_n hx hb d_L_trips_2 rfl (lv_at hl 0 rfl) ?_
    refine lv_iload_n hx hb d_L_trips_3 rfl (lv_at hl 1 rfl) ?_
    refine lv_iload_n hx hb d_L_trips_4 rfl (lv_at hl 2 rfl) ?_
    refine tr_call (va_runV (C := R_T) (As := [.int p0, .int p1]) (rest := [.int (0 : Int32), .ref o]) ⟨hx, hb, hml, hown, ht⟩ (mc_T_trips l hd hq) ⟨(tw_cb (n := 2) ht wc_T_trips wd_34 wd_530 ⟨rfl, rfl⟩ (by decide +kernel) ⟨(Nat.le_of_ble_eq_true rfl), (Nat.le_of_ble_eq_true rfl)⟩), ht _ wd_531, ht _ wd_532⟩ ⟨tP_blind, va_recv hKl hPl (ci := 0) (q0 := 0) rfl rfl, fun U hU hW => ⟨rfl, by rw [hU]; exact hPl, va_K.moved hW.alike hKl, tW_warm hW hN⟩⟩ rfl rfl hl.1 rfl (lv_room (Nat.le_of_ble_eq_true rfl)) d_L_trips_5 ⟨(Nat.le_of_ble_eq_true rfl), (Nat.le_of_ble_eq_true rfl)⟩) hS (fun _ h => h.elim) (fun _ h => h.elim) (fun H locs hP1 hk hz hS => ?_)
    replace hP : va_P D clS (cwC ad ta s1 ++ lO o cO f) H := hP1.app (lo_kept (ad := ad) hO (fun h => h.elim) hk)
    refine W.eq (g2 := F0 m 8 ls [.int r1, .int (0 : Int32), .ref o]) rfl ?_
    refine lv_i2l hx hb d_L_trips_8 rfl ?_
    refine va_last (f := f) (x := r1.toInt64) hx hb hK hP (lD_of hd ho) hS 37 28 rfl rfl vp_in01 d_L_trips_9 (fun H locs hP _ hS => ?_)
    replace hP : va_P D clS (cwC ad ta s1 ++ lO o cO (vp_updL f 0 r1.toInt64)) H := hP
    refine lv_goto (tgt := 17) hx hb d_L_trips_10 (by decide) ?_
    refine lv_iconst (v := (0 : Int32)) hx hb d_L_trips_17 (by decide) ?_
    refine W.widen (k := 1) (n := 6) (Nat.zero_le _) (Nat.zero_le _) ?_
    exact W.iret (v := (0 : Int32)) hx hb hr (fun t ht9 hW => ⟨rfl, by rw [ht9]; exact hP, hS.F ht9⟩) hS.2.2 d_L_trips_18
/-- the law's sum: its answer, the class and the row behind it -/
def lf_sum (p0 : Int32) (p1 : Int32) (σ : tS) (f : Nat → Int64) : Option (Int32 × tS × (Nat → Int64)) :=
  lf1 1 (mx_T_sum p0 p1 σ) σ f (tb2 (mf_T_sum p0 p1 σ) (fun r s => some (0, s, vp_updL f 0 r.toInt64)))
abbrev rl_sum : Room := { frames := 8, cells := 1, slots := 6, locals := 126 }
set_option maxHeartbeats 4000000 in
set_option maxRecDepth 100000 in
theorem lm_sum (l : Launch) (h9 : l.stackTraces = false) {D : va_G} {ad : Nat → Nat} {ta : Nat → ClassId} (hd : tD 37 ad) {o : Nat} {cO : ClassId} {f : Nat → Int64} (ho : ∀ k, k < 37 → ad k ≠ o) {σ : tS} {p0 : Int32} {p1 : Int32} {res : Int32 × tS × (Nat → Int64)} (hc : lf_sum p0 p1 σ f = some res) : Met l y_L_sum (.codeWith y_L_sum b_L_sum 5 (some .int) [(0, 10, 13, 19)] :: tw) rl_sum (lP D ad ta σ o cO f [.ref (ad 0), .int p0, .int p1, .ref o]) (lQ D ad ta o cO res) 1 6 (lA ad o) := by
  refine va_MetW (cc := b_L_sum) (maxL := 5) (ret := (some .int)) (hh := [(0, 10, 13, 19)]) (by decide) rfl ?_
  intro p e s m args below meth c s₁ B hml hv
  obtain ⟨rfl, hP, hK, hN, hT, hNc⟩ := hv
  have hx := B.exec
  have hb := B.bytes
  have hr := B.returns
  have hts := atoms_spec (ws := (.codeWith y_L_sum b_L_sum 5 (some .int) [(0, 10, 13, 19)] :: tw)) B.pre
  have ht : ∀ w ∈ tw, w.before [.ref (ad 0), .int p0, .int p1, .ref o].toArray s = true := fun w h => hts w (List.mem_cons_of_mem _ h)
  have htab := lb_tab B (hts _ List.mem_cons_self)
  have hown : s.vm.findClass R_L = some m.cls := findClass_of_methodNamed B.named
  have hlocks := B.notSynchronized
  have hS : va_S (lA ad o) s.heap s.heap [] := va_S.rf
  have hS0 : va_S tNo s.heap s.heap [] := va_S.rf
  have hPl := lp_left hP
  have hO := lp_right hP
  have hKl := lk_left hK
  have hl := lv_entry ([.ref (ad 0), .int p0, .int p1, .ref o]) (n := 5) (Nat.le_of_ble_eq_true rfl)
  rw [lg_entry_eq]
  generalize (lg_sl ([.ref (ad 0), .int p0, .int p1, .ref o]) ++ List.replicate (5 - (lg_sl ([.ref (ad 0), .int p0, .int p1, .ref o])).length) Slot.unset).toArray = ls at hl ⊢
  replace hl : lv_has ls 5 [(0, .ref (ad 0)), (1, .int p0), (2, .int p1), (3, .ref o)] := hl
  unfold lf_sum at hc
  rcases lf1_of hc with ⟨hm, rfl⟩ | hc
  · refine lv_aload_n hx hb d_L_sum_0 rfl (lv_at hl 3 rfl) ?_
    refine lv_iconst (v := (0 : Int32)) hx hb d_L_sum_1 (by decide) ?_
    refine lv_aload_n hx hb d_L_sum_2 rfl (lv_at hl 0 rfl) ?_
    refine lv_iload_n hx hb d_L_sum_3 rfl (lv_at hl 1 rfl) ?_
    refine lv_iload_n hx hb d_L_sum_4 rfl (lv_at hl 2 rfl) ?_
    refine tr_catch1 (X := xIA) (tx_runV (C := R_T) (As := [.int p0, .int p1]) (rest := [.int (0 : Int32), .ref o]) ⟨hx, hb, hml, hown, ht⟩ (xc_T_sum l h9 hd hm) ⟨pay_in ht (tw_G wc_T_sum), List.mem_cons_self, ht _ wd_34, ⟨(Nat.le_of_ble_eq_true rfl), (Nat.le_of_ble_eq_true rfl), (Nat.le_of_ble_eq_true rfl), (Nat.le_of_ble_eq_true rfl)⟩⟩ (ht _ wd_537) (ht _ wd_538) (ht _ wd_539) (ht _ wc_T_sum) (by decide +kernel) ⟨tPX_blind, va_recv hKl hPl (ci := 0) (q0 := 0) rfl rfl, fun U hU hW => ⟨⟨rfl, by rw [hU]; exact hPl, va_K.moved hW.alike hKl, tW_warm hW hN⟩, tT_go hT hS0 hU hW⟩⟩ rfl (show (parseMethodDescriptor y_T_sum.desc).map (fun d => d.parameters.length) = some 2 by decide +kernel) hl.1 rfl (lv_room (Nat.le_of_ble_eq_true rfl)) d_L_sum_5) hown htab (ht _ wd_394) (va_Nw.use rfl (hT.1 _ ck_IA)) ⟨by decide, by decide⟩ (by decide) (fun x H1 hz hk => ?_)
    refine lv_astore (lv' := [(4, .ref x), (0, .ref (ad 0)), (1, .int p0), (2, .int p1), (3, .ref o)]) hx hb d_L_sum_13 hl (by decide) rfl (fun ls hl => ?_)
    refine lv_iconst (v := (1 : Int32)) hx hb d_L_sum_15 (by decide) ?_
    have hP := hP.kept (fun k q hq => hk q.1 ((hP k q hq).lt))
    have hS : va_S (lA ad o) s.heap H1 [] := ⟨hz, fun q h1 _ => hk q h1, fun _ h => by cases h⟩
    exact W.iret (v := (1 : Int32)) hx hb hr (fun t ht9 hW => ⟨rfl, by rw [ht9]; exact hP, hS.F ht9⟩) hS.2.2 d_L_sum_16
  · obtain ⟨r1, s1, hq, hc⟩ := tb2_of hc
    obtain rfl := ts_of hc
    refine lv_aload_n hx hb d_L_sum_0 rfl (lv_at hl 3 rfl) ?_
    refine lv_iconst (v := (0 : Int32)) hx hb d_L_sum_1 (by decide) ?_
    refine lv_aload_n hx hb d_L_sum_2 rfl (lv_at hl 0 rfl) ?_
    refine lv_iload_n hx hb d_L_sum_3 rfl (lv_at hl 1 rfl) ?_
    refine lv_iload_n hx hb d_L_sum_4 rfl (lv_at hl 2 rfl) ?_
    refine tr_call (va_runV (C := R_T) (As := [.int p0, .int p1]) (rest := [.int (0 : Int32), .ref o]) ⟨hx, hb, hml, hown, ht⟩ (mc_T_sum l hd hq) ⟨(tw_cb (n := 2) ht wc_T_sum wd_34 wd_537 ⟨rfl, rfl⟩ (by decide +kernel) ⟨(Nat.le_of_ble_eq_true rfl), (Nat.le_of_ble_eq_true rfl)⟩), ht _ wd_538, ht _ wd_539⟩ ⟨tP_blind, va_recv hKl hPl (ci := 0) (q0 := 0) rfl rfl, fun U hU hW => ⟨rfl, by rw [hU]; exact hPl, va_K.moved hW.alike hKl, tW_warm hW hN⟩⟩ rfl rfl hl.1 rfl (lv_room (Nat.le_of_ble_eq_true rfl)) d_L_sum_5 ⟨(Nat.le_of_ble_eq_true rfl), (Nat.le_of_ble_eq_true rfl)⟩) hS (fun _ h => h.elim) (fun _ h => h.elim) (fun H locs hP1 hk hz hS => ?_)
    replace hP : va_P D clS (cwC ad ta s1 ++ lO o cO f) H := hP1.app (lo_kept (ad := ad) hO (fun h => h.elim) hk)
    refine W.eq (g2 := F0 m 8 ls [.int r1, .int (0 : Int32), .ref o]) rfl ?_
    refine lv_i2l hx hb d_L_sum_8 rfl ?_
    refine va_last (f := f) (x := r1.toInt64) hx hb hK hP (lD_of hd ho) hS 37 28 rfl rfl vp_in01 d_L_sum_9 (fun H locs hP _ hS => ?_)
    replace hP : va_P D clS (cwC ad ta s1 ++ lO o cO (vp_updL f 0 r1.toInt64)) H := hP
    refine lv_goto (tgt := 17) hx hb d_L_sum_10 (by decide) ?_
    refine lv_iconst (v := (0 : Int32)) hx hb d_L_sum_17 (by decide) ?_
    refine W.widen (k := 1) (n := 6) (Nat.zero_le _) (Nat.zero_le _) ?_
    exact W.iret (v := (0 : Int32)) hx hb hr (fun t ht9 hW => ⟨rfl, by rw [ht9]; exact hP, hS.F ht9⟩) hS.2.2 d_L_sum_18
/-- the law's factor: its answer, the class and the row behind it -/
def lf_factor (p0 : Int32) (σ : tS) (f : Nat → Int64) : Option (Int32 × tS × (Nat → Int64)) :=
  lf1 1 (mx_T_factor p0 σ) σ f (tb2 (mf_T_factor p0 σ) (fun r s => some (0, s, vp_updL f 0 r.toInt64)))
abbrev rl_factor : Room := { frames := 8, cells := 1, slots := 6, locals := 124 }
set_option maxHeartbeats 4000000 in
set_option maxRecDepth 100000 in
theorem lm_factor (l : Launch) (h9 : l.stackTraces = false) {D : va_G} {ad : Nat → Nat} {ta : Nat → ClassId} (hd : tD 37 ad) {o : Nat} {cO : ClassId} {f : Nat → Int64} (ho : ∀ k, k < 37 → ad k ≠ o) {σ : tS} {p0 : Int32} {res : Int32 × tS × (Nat → Int64)} (hc : lf_factor p0 σ f = some res) : Met l y_L_factor (.codeWith y_L_factor b_L_factor 4 (some .int) [(0, 9, 12, 19)] :: tw) rl_factor (lP D ad ta σ o cO f [.ref (ad 0), .int p0, .ref o]) (lQ D ad ta o cO res) 1 6 (lA ad o) := by
  refine va_MetW (cc := b_L_factor) (maxL := 4) (ret := (some .int)) (hh := [(0, 9, 12, 19)]) (by decide) rfl ?_
  intro p e s m args below meth c s₁ B hml hv
  obtain ⟨rfl, hP, hK, hN, hT, hNc⟩ := hv
  have hx := B.exec
  have hb := B.bytes
  have hr := B.returns
  have hts := atoms_spec (ws := (.codeWith y_L_factor b_L_factor 4 (some .int) [(0, 9, 12, 19)] :: tw)) B.pre
  have ht : ∀ w ∈ tw, w.before [.ref (ad 0), .int p0, .ref o].toArray s = true := fun w h => hts w (List.mem_cons_of_mem _ h)
  have htab := lb_tab B (hts _ List.mem_cons_self)
  have hown : s.vm.findClass R_L = some m.cls := findClass_of_methodNamed B.named
  have hlocks := B.notSynchronized
  have hS : va_S (lA ad o) s.heap s.heap [] := va_S.rf
  have hS0 : va_S tNo s.heap s.heap [] := va_S.rf
  have hPl := lp_left hP
  have hO := lp_right hP
  have hKl := lk_left hK
  have hl := lv_entry ([.ref (ad 0), .int p0, .ref o]) (n := 4) (Nat.le_of_ble_eq_true rfl)
  rw [lg_entry_eq]
  generalize (lg_sl ([.ref (ad 0), .int p0, .ref o]) ++ List.replicate (4 - (lg_sl ([.ref (ad 0), .int p0, .ref o])).length) Slot.unset).toArray = ls at hl ⊢
  replace hl : lv_has ls 4 [(0, .ref (ad 0)), (1, .int p0), (2, .ref o)] := hl
  unfold lf_factor at hc
  rcases lf1_of hc with ⟨hm, rfl⟩ | hc
  · refine lv_aload_n hx hb d_L_factor_0 rfl (lv_at hl 2 rfl) ?_
    refine lv_iconst (v := (0 : Int32)) hx hb d_L_factor_1 (by decide) ?_
    refine lv_aload_n hx hb d_L_factor_2 rfl (lv_at hl 0 rfl) ?_
    refine lv_iload_n hx hb d_L_factor_3 rfl (lv_at hl 1 rfl) ?_
    refine tr_catch1 (X := xIA) (tx_runV (C := R_T) (As := [.int p0]) (rest := [.int (0 : Int32), .ref o]) ⟨hx, hb, hml, hown, ht⟩ (xc_T_factor l h9 hd hm) ⟨pay_in ht (tw_G wc_T_factor), List.mem_cons_self, ht _ wd_34, ⟨(Nat.le_of_ble_eq_true rfl), (Nat.le_of_ble_eq_true rfl), (Nat.le_of_ble_eq_true rfl), (Nat.le_of_ble_eq_true rfl)⟩⟩ (ht _ wd_549) (ht _ wd_550) (ht _ wd_551) (ht _ wc_T_factor) (by decide +kernel) ⟨tPX_blind, va_recv hKl hPl (ci := 0) (q0 := 0) rfl rfl, fun U hU hW => ⟨⟨rfl, by rw [hU]; exact hPl, va_K.moved hW.alike hKl, tW_warm hW hN⟩, tT_go hT hS0 hU hW⟩⟩ rfl (show (parseMethodDescriptor y_T_factor.desc).map (fun d => d.parameters.length) = some 1 by decide +kernel) hl.1 rfl (lv_room (Nat.le_of_ble_eq_true rfl)) d_L_factor_4) hown htab (ht _ wd_394) (va_Nw.use rfl (hT.1 _ ck_IA)) ⟨by decide, by decide⟩ (by decide) (fun x H1 hz hk => ?_)
    refine lv_astore_n (lv' := [(3, .ref x), (0, .ref (ad 0)), (1, .int p0), (2, .ref o)]) hx hb d_L_factor_12 rfl hl (by decide) rfl (fun ls hl => ?_)
    refine lv_iconst (v := (1 : Int32)) hx hb d_L_factor_13 (by decide) ?_
    have hP := hP.kept (fun k q hq => hk q.1 ((hP k q hq).lt))
    have hS : va_S (lA ad o) s.heap H1 [] := ⟨hz, fun q h1 _ => hk q h1, fun _ h => by cases h⟩
    exact W.iret (v := (1 : Int32)) hx hb hr (fun t ht9 hW => ⟨rfl, by rw [ht9]; exact hP, hS.F ht9⟩) hS.2.2 d_L_factor_14
  · obtain ⟨r1, s1, hq, hc⟩ := tb2_of hc
    obtain rfl := ts_of hc
    refine lv_aload_n hx hb d_L_factor_0 rfl (lv_at hl 2 rfl) ?_
    refine lv_iconst (v := (0 : Int32)) hx hb d_L_factor_1 (by decide) ?_
    refine lv_aload_n hx hb d_L_factor_2 rfl (lv_at hl 0 rfl) ?_
    refine lv_iload_n hx hb d_L_factor_3 rfl (lv_at hl 1 rfl) ?_
    refine tr_call (va_runV (C := R_T) (As := [.int p0]) (rest := [.int (0 : Int32), .ref o]) ⟨hx, hb, hml, hown, ht⟩ (mc_T_factor l hd hq) ⟨(tw_cb (n := 1) ht wc_T_factor wd_34 wd_549 ⟨rfl, rfl⟩ (by decide +kernel) ⟨(Nat.le_of_ble_eq_true rfl), (Nat.le_of_ble_eq_true rfl)⟩), ht _ wd_550, ht _ wd_551⟩ ⟨tP_blind, va_recv hKl hPl (ci := 0) (q0 := 0) rfl rfl, fun U hU hW => ⟨rfl, by rw [hU]; exact hPl, va_K.moved hW.alike hKl, tW_warm hW hN⟩⟩ rfl rfl hl.1 rfl (lv_room (Nat.le_of_ble_eq_true rfl)) d_L_factor_4 ⟨(Nat.le_of_ble_eq_true rfl), (Nat.le_of_ble_eq_true rfl)⟩) hS (fun _ h => h.elim) (fun _ h => h.elim) (fun H locs hP1 hk hz hS => ?_)
    replace hP : va_P D clS (cwC ad ta s1 ++ lO o cO f) H := hP1.app (lo_kept (ad := ad) hO (fun h => h.elim) hk)
    refine W.eq (g2 := F0 m 7 ls [.int r1, .int (0 : Int32), .ref o]) rfl ?_
    refine lv_i2l hx hb d_L_factor_7 rfl ?_
    refine va_last (f := f) (x := r1.toInt64) hx hb hK hP (lD_of hd ho) hS 37 28 rfl rfl vp_in01 d_L_factor_8 (fun H locs hP _ hS => ?_)
    replace hP : va_P D clS (cwC ad ta s1 ++ lO o cO (vp_updL f 0 r1.toInt64)) H := hP
    refine lv_goto (tgt := 15) hx hb d_L_factor_9 (by decide) ?_
    refine lv_iconst (v := (0 : Int32)) hx hb d_L_factor_15 (by decide) ?_
    refine W.widen (k := 1) (n := 6) (Nat.zero_le _) (Nat.zero_le _) ?_
    exact W.iret (v := (0 : Int32)) hx hb hr (fun t ht9 hW => ⟨rfl, by rw [ht9]; exact hP, hS.F ht9⟩) hS.2.2 d_L_factor_16
/-- the law's pull: its answer, the class and the row behind it -/
def lf_pull (p0 : Int32) (p1 : Int32) (p2 : Int32) (p3 : Int32) (σ : tS) (f : Nat → Int64) : Option (Int32 × tS × (Nat → Int64)) :=
  lf1 1 (mx_T_pull p0 p1 p2 p3 σ) σ f (tb2 (mf_T_pull p0 p1 p2 p3 σ) (fun r s => some (0, s, vp_updL f 0 r.toInt64)))
abbrev rl_pull : Room := { frames := 8, cells := 1, slots := 6, locals := 130 }
set_option maxHeartbeats 4000000 in
set_option maxRecDepth 100000 in
theorem lm_pull (l : Launch) (h9 : l.stackTraces = false) {D : va_G} {ad : Nat → Nat} {ta : Nat → ClassId} (hd : tD 37 ad) {o : Nat} {cO : ClassId} {f : Nat → Int64} (ho : ∀ k, k < 37 → ad k ≠ o) {σ : tS} {p0 : Int32} {p1 : Int32} {p2 : Int32} {p3 : Int32} {res : Int32 × tS × (Nat → Int64)} (hc : lf_pull p0 p1 p2 p3 σ f = some res) : Met l y_L_pull (.codeWith y_L_pull b_L_pull 7 (some .int) [(0, 14, 17, 19)] :: tw) rl_pull (lP D ad ta σ o cO f [.ref (ad 0), .int p0, .int p1, .int p2, .int p3, .ref o]) (lQ D ad ta o cO res) 1 6 (lA ad o) := by
  refine va_MetW (cc := b_L_pull) (maxL := 7) (ret := (some .int)) (hh := [(0, 14, 17, 19)]) (by decide) rfl ?_
  intro p e s m args below meth c s₁ B hml hv
  obtain ⟨rfl, hP, hK, hN, hT, hNc⟩ := hv
  have hx := B.exec
  have hb := B.bytes
  have hr := B.returns
  have hts := atoms_spec (ws := (.codeWith y_L_pull b_L_pull 7 (some .int) [(0, 14, 17, 19)] :: tw)) B.pre
  have ht : ∀ w ∈ tw, w.before [.ref (ad 0), .int p0, .int p1, .int p2, .int p3, .ref o].toArray s = true := fun w h => hts w (List.mem_cons_of_mem _ h)
  have htab := lb_tab B (hts _ List.mem_cons_self)
  have hown : s.vm.findClass R_L = some m.cls := findClass_of_methodNamed B.named
  have hlocks := B.notSynchronized
  have hS : va_S (lA ad o) s.heap s.heap [] := va_S.rf
  have hS0 : va_S tNo s.heap s.heap [] := va_S.rf
  have hPl := lp_left hP
  have hO := lp_right hP
  have hKl := lk_left hK
  have hl := lv_entry ([.ref (ad 0), .int p0, .int p1, .int p2, .int p3, .ref o]) (n := 7) (Nat.le_of_ble_eq_true rfl)
  rw [lg_entry_eq]
  generalize (lg_sl ([.ref (ad 0), .int p0, .int p1, .int p2, .int p3, .ref o]) ++ List.replicate (7 - (lg_sl ([.ref (ad 0), .int p0, .int p1, .int p2, .int p3, .ref o])).length) Slot.unset).toArray = ls at hl ⊢
  replace hl : lv_has ls 7 [(0, .ref (ad 0)), (1, .int p0), (2, .int p1), (3, .int p2), (4, .int p3), (5, .ref o)] := hl
  unfold lf_pull at hc
  rcases lf1_of hc with ⟨hm, rfl⟩ | hc
  · refine lv_aload hx hb d_L_pull_0 (lv_at hl 5 rfl) ?_
    refine lv_iconst (v := (0 : Int32)) hx hb d_L_pull_2 (by decide) ?_
    refine lv_aload_n hx hb d_L_pull_3 rfl (lv_at hl 0 rfl) ?_
    refine lv_iload_n hx hb d_L_pull_4 rfl (lv_at hl 1 rfl) ?_
    refine lv_iload_n hx hb d_L_pull_5 rfl (lv_at hl 2 rfl) ?_
    refine lv_iload_n hx hb d_L_pull_6 rfl (lv_at hl 3 rfl) ?_
    refine lv_iload hx hb d_L_pull_7 (lv_at hl 4 rfl) ?_
    refine tr_catch1 (X := xIA) (tx_runV (C := R_T) (As := [.int p0, .int p1, .int p2, .int p3]) (rest := [.int (0 : Int32), .ref o]) ⟨hx, hb, hml, hown, ht⟩ (xc_T_pull l h9 hd hm) ⟨pay_in ht (tw_G wc_T_pull), List.mem_cons_self, ht _ wd_34, ⟨(Nat.le_of_ble_eq_true rfl), (Nat.le_of_ble_eq_true rfl), (Nat.le_of_ble_eq_true rfl), (Nat.le_of_ble_eq_true rfl)⟩⟩ (ht _ wd_556) (ht _ wd_557) (ht _ wd_558) (ht _ wc_T_pull) (by decide +kernel) ⟨tPX_blind, va_recv hKl hPl (ci := 0) (q0 := 0) rfl rfl, fun U hU hW => ⟨⟨rfl, by rw [hU]; exact hPl, va_K.moved hW.alike hKl, tW_warm hW hN⟩, tT_go hT hS0 hU hW⟩⟩ rfl (show (parseMethodDescriptor y_T_pull.desc).map (fun d => d.parameters.length) = some 4 by decide +kernel) hl.1 rfl (lv_room (Nat.le_of_ble_eq_true rfl)) d_L_pull_9) hown htab (ht _ wd_394) (va_Nw.use rfl (hT.1 _ ck_IA)) ⟨by decide, by decide⟩ (by decide) (fun x H1 hz hk => ?_)
    refine lv_astore (lv' := [(6, .ref x), (0, .ref (ad 0)), (1, .int p0), (2, .int p1), (3, .int p2), (4, .int p3), (5, .ref o)]) hx hb d_L_pull_17 hl (by decide) rfl (fun ls hl => ?_)
    refine lv_iconst (v := (1 : Int32)) hx hb d_L_pull_19 (by decide) ?_
    have hP := hP.kept (fun k q hq => hk q.1 ((hP k q hq).lt))
    have hS : va_S (lA ad o) s.heap H1 [] := ⟨hz, fun q h1 _ => hk q h1, fun _ h => by cases h⟩
    exact W.iret (v := (1 : Int32)) hx hb hr (fun t ht9 hW => ⟨rfl, by rw [ht9]; exact hP, hS.F ht9⟩) hS.2.2 d_L_pull_20
  · obtain ⟨r1, s1, hq, hc⟩ := tb2_of hc
    obtain rfl := ts_of hc
    refine lv_aload hx hb d_L_pull_0 (lv_at hl 5 rfl) ?_
    refine lv_iconst (v := (0 : Int32)) hx hb d_L_pull_2 (by decide) ?_
    refine lv_aload_n hx hb d_L_pull_3 rfl (lv_at hl 0 rfl) ?_
    refine lv_iload_n hx hb d_L_pull_4 rfl (lv_at hl 1 rfl) ?_
    refine lv_iload_n hx hb d_L_pull_5 rfl (lv_at hl 2 rfl) ?_
    refine lv_iload_n hx hb d_L_pull_6 rfl (lv_at hl 3 rfl) ?_
    refine lv_iload hx hb d_L_pull_7 (lv_at hl 4 rfl) ?_
    refine tr_call (va_runV (C := R_T) (As := [.int p0, .int p1, .int p2, .int p3]) (rest := [.int (0 : Int32), .ref o]) ⟨hx, hb, hml, hown, ht⟩ (mc_T_pull l hd hq) ⟨(tw_cb (n := 4) ht wc_T_pull wd_34 wd_556 ⟨rfl, rfl⟩ (by decide +kernel) ⟨(Nat.le_of_ble_eq_true rfl), (Nat.le_of_ble_eq_true rfl)⟩), ht _ wd_557, ht _ wd_558⟩ ⟨tP_blind, va_recv hKl hPl (ci := 0) (q0 := 0) rfl rfl, fun U hU hW => ⟨rfl, by rw [hU]; exact hPl, va_K.moved hW.alike hKl, tW_warm hW hN⟩⟩ rfl rfl hl.1 rfl (lv_room (Nat.le_of_ble_eq_true rfl)) d_L_pull_9 ⟨(Nat.le_of_ble_eq_true rfl), (Nat.le_of_ble_eq_true rfl)⟩) hS (fun _ h => Or.inl h) (fun _ h => Or.inl h) (fun H locs hP1 hk hz hS => ?_)
    replace hP : va_P D clS (cwC ad ta s1 ++ lO o cO f) H := hP1.app (lo_kept (ad := ad) hO (lA_no ho) hk)
    refine W.eq (g2 := F0 m 12 ls [.int r1, .int (0 : Int32), .ref o]) rfl ?_
    refine lv_i2l hx hb d_L_pull_12 rfl ?_
    refine va_last (f := f) (x := r1.toInt64) hx hb hK hP (lD_of hd ho) hS 37 28 rfl rfl vp_in01 d_L_pull_13 (fun H locs hP _ hS => ?_)
    replace hP : va_P D clS (cwC ad ta s1 ++ lO o cO (vp_updL f 0 r1.toInt64)) H := hP
    refine lv_goto (tgt := 21) hx hb d_L_pull_14 (by decide) ?_
    refine lv_iconst (v := (0 : Int32)) hx hb d_L_pull_21 (by decide) ?_
    refine W.widen (k := 1) (n := 6) (Nat.zero_le _) (Nat.zero_le _) ?_
    exact W.iret (v := (0 : Int32)) hx hb hr (fun t ht9 hW => ⟨rfl, by rw [ht9]; exact hP, hS.F ht9⟩) hS.2.2 d_L_pull_22
/-- the law's chosen: its answer, the class and the row behind it -/
def lf_chosen (p0 : Int32) (p1 : Int32) (p2 : Int32) (σ : tS) (f : Nat → Int64) : Option (Int32 × tS × (Nat → Int64)) :=
  lf1 1 (mx_T_chosen p0 p1 p2 σ) σ f (tb2 (mf_T_chosen p0 p1 p2 σ) (fun r s => some (0, s, vp_updL f 0 r.toInt64)))
abbrev rl_chosen : Room := { frames := 8, cells := 1, slots := 6, locals := 128 }
set_option maxHeartbeats 4000000 in
set_option maxRecDepth 100000 in
theorem lm_chosen (l : Launch) (h9 : l.stackTraces = false) {D : va_G} {ad : Nat → Nat} {ta : Nat → ClassId} (hd : tD 37 ad) {o : Nat} {cO : ClassId} {f : Nat → Int64} (ho : ∀ k, k < 37 → ad k ≠ o) {σ : tS} {p0 : Int32} {p1 : Int32} {p2 : Int32} {res : Int32 × tS × (Nat → Int64)} (hc : lf_chosen p0 p1 p2 σ f = some res) : Met l y_L_chosen (.codeWith y_L_chosen b_L_chosen 6 (some .int) [(0, 12, 15, 19)] :: tw) rl_chosen (lP D ad ta σ o cO f [.ref (ad 0), .int p0, .int p1, .int p2, .ref o]) (lQ D ad ta o cO res) 1 6 (lA ad o) := by
  refine va_MetW (cc := b_L_chosen) (maxL := 6) (ret := (some .int)) (hh := [(0, 12, 15, 19)]) (by decide) rfl ?_
  intro p e s m args below meth c s₁ B hml hv
  obtain ⟨rfl, hP, hK, hN, hT, hNc⟩ := hv
  have hx := B.exec
  have hb := B.bytes
  have hr := B.returns
  have hts := atoms_spec (ws := (.codeWith y_L_chosen b_L_chosen 6 (some .int) [(0, 12, 15, 19)] :: tw)) B.pre
  have ht : ∀ w ∈ tw, w.before [.ref (ad 0), .int p0, .int p1, .int p2, .ref o].toArray s = true := fun w h => hts w (List.mem_cons_of_mem _ h)
  have htab := lb_tab B (hts _ List.mem_cons_self)
  have hown : s.vm.findClass R_L = some m.cls := findClass_of_methodNamed B.named
  have hlocks := B.notSynchronized
  have hS : va_S (lA ad o) s.heap s.heap [] := va_S.rf
  have hS0 : va_S tNo s.heap s.heap [] := va_S.rf
  have hPl := lp_left hP
  have hO := lp_right hP
  have hKl := lk_left hK
  have hl := lv_entry ([.ref (ad 0), .int p0, .int p1, .int p2, .ref o]) (n := 6) (Nat.le_of_ble_eq_true rfl)
  rw [lg_entry_eq]
  generalize (lg_sl ([.ref (ad 0), .int p0, .int p1, .int p2, .ref o]) ++ List.replicate (6 - (lg_sl ([.ref (ad 0), .int p0, .int p1, .int p2, .ref o])).length) Slot.unset).toArray = ls at hl ⊢
  replace hl : lv_has ls 6 [(0, .ref (ad 0)), (1, .int p0), (2, .int p1), (3, .int p2), (4, .ref o)] := hl
  unfold lf_chosen at hc
  rcases lf1_of hc with ⟨hm, rfl⟩ | hc
  · refine lv_aload hx hb d_L_chosen_0 (lv_at hl 4 rfl) ?_
    refine lv_iconst (v := (0 : Int32)) hx hb d_L_chosen_2 (by decide) ?_
    refine lv_aload_n hx hb d_L_chosen_3 rfl (lv_at hl 0 rfl) ?_
    refine lv_iload_n hx hb d_L_chosen_4 rfl (lv_at hl 1 rfl) ?_
    refine lv_iload_n hx hb d_L_chosen_5 rfl (lv_at hl 2 rfl) ?_
    refine lv_iload_n hx hb d_L_chosen_6 rfl (lv_at hl 3 rfl) ?_
    refine tr_catch1 (X := xIA) (tx_runV (C := R_T) (As := [.int p0, .int p1, .int p2]) (rest := [.int (0 : Int32), .ref o]) ⟨hx, hb, hml, hown, ht⟩ (xc_T_chosen l h9 hd hm) ⟨pay_in ht (tw_G wc_T_chosen), List.mem_cons_self, ht _ wd_34, ⟨(Nat.le_of_ble_eq_true rfl), (Nat.le_of_ble_eq_true rfl), (Nat.le_of_ble_eq_true rfl), (Nat.le_of_ble_eq_true rfl)⟩⟩ (ht _ wd_564) (ht _ wd_565) (ht _ wd_566) (ht _ wc_T_chosen) (by decide +kernel) ⟨tPX_blind, va_recv hKl hPl (ci := 0) (q0 := 0) rfl rfl, fun U hU hW => ⟨⟨rfl, by rw [hU]; exact hPl, va_K.moved hW.alike hKl, tW_warm hW hN⟩, tT_go hT hS0 hU hW⟩⟩ rfl (show (parseMethodDescriptor y_T_chosen.desc).map (fun d => d.parameters.length) = some 3 by decide +kernel) hl.1 rfl (lv_room (Nat.le_of_ble_eq_true rfl)) d_L_chosen_7) hown htab (ht _ wd_394) (va_Nw.use rfl (hT.1 _ ck_IA)) ⟨by decide, by decide⟩ (by decide) (fun x H1 hz hk => ?_)
    refine lv_astore (lv' := [(5, .ref x), (0, .ref (ad 0)), (1, .int p0), (2, .int p1), (3, .int p2), (4, .ref o)]) hx hb d_L_chosen_15 hl (by decide) rfl (fun ls hl => ?_)
    refine lv_iconst (v := (1 : Int32)) hx hb d_L_chosen_17 (by decide) ?_
    have hP := hP.kept (fun k q hq => hk q.1 ((hP k q hq).lt))
    have hS : va_S (lA ad o) s.heap H1 [] := ⟨hz, fun q h1 _ => hk q h1, fun _ h => by cases h⟩
    exact W.iret (v := (1 : Int32)) hx hb hr (fun t ht9 hW => ⟨rfl, by rw [ht9]; exact hP, hS.F ht9⟩) hS.2.2 d_L_chosen_18
  · obtain ⟨r1, s1, hq, hc⟩ := tb2_of hc
    obtain rfl := ts_of hc
    refine lv_aload hx hb d_L_chosen_0 (lv_at hl 4 rfl) ?_
    refine lv_iconst (v := (0 : Int32)) hx hb d_L_chosen_2 (by decide) ?_
    refine lv_aload_n hx hb d_L_chosen_3 rfl (lv_at hl 0 rfl) ?_
    refine lv_iload_n hx hb d_L_chosen_4 rfl (lv_at hl 1 rfl) ?_
    refine lv_iload_n hx hb d_L_chosen_5 rfl (lv_at hl 2 rfl) ?_
    refine lv_iload_n hx hb d_L_chosen_6 rfl (lv_at hl 3 rfl) ?_
    refine tr_call (va_runV (C := R_T) (As := [.int p0, .int p1, .int p2]) (rest := [.int (0 : Int32), .ref o]) ⟨hx, hb, hml, hown, ht⟩ (mc_T_chosen l hd hq) ⟨(tw_cb (n := 3) ht wc_T_chosen wd_34 wd_564 ⟨rfl, rfl⟩ (by decide +kernel) ⟨(Nat.le_of_ble_eq_true rfl), (Nat.le_of_ble_eq_true rfl)⟩), ht _ wd_565, ht _ wd_566⟩ ⟨tP_blind, va_recv hKl hPl (ci := 0) (q0 := 0) rfl rfl, fun U hU hW => ⟨rfl, by rw [hU]; exact hPl, va_K.moved hW.alike hKl, tW_warm hW hN⟩⟩ rfl rfl hl.1 rfl (lv_room (Nat.le_of_ble_eq_true rfl)) d_L_chosen_7 ⟨(Nat.le_of_ble_eq_true rfl), (Nat.le_of_ble_eq_true rfl)⟩) hS (fun _ h => Or.inl h) (fun _ h => Or.inl h) (fun H locs hP1 hk hz hS => ?_)
    replace hP : va_P D clS (cwC ad ta s1 ++ lO o cO f) H := hP1.app (lo_kept (ad := ad) hO (lA_no ho) hk)
    refine W.eq (g2 := F0 m 10 ls [.int r1, .int (0 : Int32), .ref o]) rfl ?_
    refine lv_i2l hx hb d_L_chosen_10 rfl ?_
    refine va_last (f := f) (x := r1.toInt64) hx hb hK hP (lD_of hd ho) hS 37 28 rfl rfl vp_in01 d_L_chosen_11 (fun H locs hP _ hS => ?_)
    replace hP : va_P D clS (cwC ad ta s1 ++ lO o cO (vp_updL f 0 r1.toInt64)) H := hP
    refine lv_goto (tgt := 19) hx hb d_L_chosen_12 (by decide) ?_
    refine lv_iconst (v := (0 : Int32)) hx hb d_L_chosen_19 (by decide) ?_
    refine W.widen (k := 1) (n := 6) (Nat.zero_le _) (Nat.zero_le _) ?_
    exact W.iret (v := (0 : Int32)) hx hb hr (fun t ht9 hW => ⟨rfl, by rw [ht9]; exact hP, hS.F ht9⟩) hS.2.2 d_L_chosen_20
/-- the law's assign: its answer, the class and the row behind it -/
def lf_assign (p0 : Int32) (σ : tS) (f : Nat → Int64) : Option (Int32 × tS × (Nat → Int64)) :=
  lf1 1 (mx_T_assign p0 σ) σ f (tb2 (mf_T_assign p0 σ) (fun r s => some (0, s, vp_updL f 0 r.toInt64)))
abbrev rl_assign : Room := { frames := 8, cells := 1, slots := 6, locals := 142 }
set_option maxHeartbeats 4000000 in
set_option maxRecDepth 100000 in
theorem lm_assign (l : Launch) (h9 : l.stackTraces = false) {D : va_G} {ad : Nat → Nat} {ta : Nat → ClassId} (hd : tD 37 ad) {o : Nat} {cO : ClassId} {f : Nat → Int64} (ho : ∀ k, k < 37 → ad k ≠ o) {σ : tS} {p0 : Int32} {res : Int32 × tS × (Nat → Int64)} (hc : lf_assign p0 σ f = some res) : Met l y_L_assign (.codeWith y_L_assign b_L_assign 4 (some .int) [(0, 9, 12, 19)] :: tw) rl_assign (lP D ad ta σ o cO f [.ref (ad 0), .int p0, .ref o]) (lQ D ad ta o cO res) 1 6 (lA ad o) := by
  refine va_MetW (cc := b_L_assign) (maxL := 4) (ret := (some .int)) (hh := [(0, 9, 12, 19)]) (by decide) rfl ?_
  intro p e s m args below meth c s₁ B hml hv
  obtain ⟨rfl, hP, hK, hN, hT, hNc⟩ := hv
  have hx := B.exec
  have hb := B.bytes
  have hr := B.returns
  have hts := atoms_spec (ws := (.codeWith y_L_assign b_L_assign 4 (some .int) [(0, 9, 12, 19)] :: tw)) B.pre
  have ht : ∀ w ∈ tw, w.before [.ref (ad 0), .int p0, .ref o].toArray s = true := fun w h => hts w (List.mem_cons_of_mem _ h)
  have htab := lb_tab B (hts _ List.mem_cons_self)
  have hown : s.vm.findClass R_L = some m.cls := findClass_of_methodNamed B.named
  have hlocks := B.notSynchronized
  have hS : va_S (lA ad o) s.heap s.heap [] := va_S.rf
  have hS0 : va_S tNo s.heap s.heap [] := va_S.rf
  have hPl := lp_left hP
  have hO := lp_right hP
  have hKl := lk_left hK
  have hl := lv_entry ([.ref (ad 0), .int p0, .ref o]) (n := 4) (Nat.le_of_ble_eq_true rfl)
  rw [lg_entry_eq]
  generalize (lg_sl ([.ref (ad 0), .int p0, .ref o]) ++ List.replicate (4 - (lg_sl ([.ref (ad 0), .int p0, .ref o])).length) Slot.unset).toArray = ls at hl ⊢
  replace hl : lv_has ls 4 [(0, .ref (ad 0)), (1, .int p0), (2, .ref o)] := hl
  unfold lf_assign at hc
  rcases lf1_of hc with ⟨hm, rfl⟩ | hc
  · refine lv_aload_n hx hb d_L_assign_0 rfl (lv_at hl 2 rfl) ?_
    refine lv_iconst (v := (0 : Int32)) hx hb d_L_assign_1 (by decide) ?_
    refine lv_aload_n hx hb d_L_assign_2 rfl (lv_at hl 0 rfl) ?_
    refine lv_iload_n hx hb d_L_assign_3 rfl (lv_at hl 1 rfl) ?_
    refine tr_catch1 (X := xIA) (tx_runV (C := R_T) (As := [.int p0]) (rest := [.int (0 : Int32), .ref o]) ⟨hx, hb, hml, hown, ht⟩ (xc_T_assign l h9 hd hm) ⟨pay_in ht (tw_G wc_T_assign), List.mem_cons_self, ht _ wd_34, ⟨(Nat.le_of_ble_eq_true rfl), (Nat.le_of_ble_eq_true rfl), (Nat.le_of_ble_eq_true rfl), (Nat.le_of_ble_eq_true rfl)⟩⟩ (ht _ wd_576) (ht _ wd_577) (ht _ wd_578) (ht _ wc_T_assign) (by decide +kernel) ⟨tPX_blind, va_recv hKl hPl (ci := 0) (q0 := 0) rfl rfl, fun U hU hW => ⟨⟨rfl, by rw [hU]; exact hPl, va_K.moved hW.alike hKl, tW_warm hW hN⟩, tT_go hT hS0 hU hW⟩⟩ rfl (show (parseMethodDescriptor y_T_assign.desc).map (fun d => d.parameters.length) = some 1 by decide +kernel) hl.1 rfl (lv_room (Nat.le_of_ble_eq_true rfl)) d_L_assign_4) hown htab (ht _ wd_394) (va_Nw.use rfl (hT.1 _ ck_IA)) ⟨by decide, by decide⟩ (by decide) (fun x H1 hz hk => ?_)
    refine lv_astore_n (lv' := [(3, .ref x), (0, .ref (ad 0)), (1, .int p0), (2, .ref o)]) hx hb d_L_assign_12 rfl hl (by decide) rfl (fun ls hl => ?_)
    refine lv_iconst (v := (1 : Int32)) hx hb d_L_assign_13 (by decide) ?_
    have hP := hP.kept (fun k q hq => hk q.1 ((hP k q hq).lt))
    have hS : va_S (lA ad o) s.heap H1 [] := ⟨hz, fun q h1 _ => hk q h1, fun _ h => by cases h⟩
    exact W.iret (v := (1 : Int32)) hx hb hr (fun t ht9 hW => ⟨rfl, by rw [ht9]; exact hP, hS.F ht9⟩) hS.2.2 d_L_assign_14
  · obtain ⟨r1, s1, hq, hc⟩ := tb2_of hc
    obtain rfl := ts_of hc
    refine lv_aload_n hx hb d_L_assign_0 rfl (lv_at hl 2 rfl) ?_
    refine lv_iconst (v := (0 : Int32)) hx hb d_L_assign_1 (by decide) ?_
    refine lv_aload_n hx hb d_L_assign_2 rfl (lv_at hl 0 rfl) ?_
    refine lv_iload_n hx hb d_L_assign_3 rfl (lv_at hl 1 rfl) ?_
    refine tr_call (va_runV (C := R_T) (As := [.int p0]) (rest := [.int (0 : Int32), .ref o]) ⟨hx, hb, hml, hown, ht⟩ (mc_T_assign l hd hq) ⟨(tw_cb (n := 1) ht wc_T_assign wd_34 wd_576 ⟨rfl, rfl⟩ (by decide +kernel) ⟨(Nat.le_of_ble_eq_true rfl), (Nat.le_of_ble_eq_true rfl)⟩), ht _ wd_577, ht _ wd_578⟩ ⟨tP_blind, va_recv hKl hPl (ci := 0) (q0 := 0) rfl rfl, fun U hU hW => ⟨rfl, by rw [hU]; exact hPl, va_K.moved hW.alike hKl, tW_warm hW hN⟩⟩ rfl rfl hl.1 rfl (lv_room (Nat.le_of_ble_eq_true rfl)) d_L_assign_4 ⟨(Nat.le_of_ble_eq_true rfl), (Nat.le_of_ble_eq_true rfl)⟩) hS (fun _ h => Or.inl h) (fun _ h => Or.inl h) (fun H locs hP1 hk hz hS => ?_)
    replace hP : va_P D clS (cwC ad ta s1 ++ lO o cO f) H := hP1.app (lo_kept (ad := ad) hO (lA_no ho) hk)
    refine W.eq (g2 := F0 m 7 ls [.int r1, .int (0 : Int32), .ref o]) rfl ?_
    refine lv_i2l hx hb d_L_assign_7 rfl ?_
    refine va_last (f := f) (x := r1.toInt64) hx hb hK hP (lD_of hd ho) hS 37 28 rfl rfl vp_in01 d_L_assign_8 (fun H locs hP _ hS => ?_)
    replace hP : va_P D clS (cwC ad ta s1 ++ lO o cO (vp_updL f 0 r1.toInt64)) H := hP
    refine lv_goto (tgt := 15) hx hb d_L_assign_9 (by decide) ?_
    refine lv_iconst (v := (0 : Int32)) hx hb d_L_assign_15 (by decide) ?_
    refine W.widen (k := 1) (n := 6) (Nat.zero_le _) (Nat.zero_le _) ?_
    exact W.iret (v := (0 : Int32)) hx hb hr (fun t ht9 hW => ⟨rfl, by rw [ht9]; exact hP, hS.F ht9⟩) hS.2.2 d_L_assign_16
/-- the law's flow: its answer, the class and the row behind it -/
def lf_flow (p0 : Int32) (p1 : Int32) (σ : tS) (f : Nat → Int64) : Option (Int32 × tS × (Nat → Int64)) :=
  lf1 1 (mx_T_flow p0 p1 σ) σ f (tb2 (mf_T_flow p0 p1 σ) (fun r s => some (0, s, vp_updL f 0 r.toInt64)))
abbrev rl_flow : Room := { frames := 8, cells := 1, slots := 6, locals := 126 }
set_option maxHeartbeats 4000000 in
set_option maxRecDepth 100000 in
theorem lm_flow (l : Launch) (h9 : l.stackTraces = false) {D : va_G} {ad : Nat → Nat} {ta : Nat → ClassId} (hd : tD 37 ad) {o : Nat} {cO : ClassId} {f : Nat → Int64} (ho : ∀ k, k < 37 → ad k ≠ o) {σ : tS} {p0 : Int32} {p1 : Int32} {res : Int32 × tS × (Nat → Int64)} (hc : lf_flow p0 p1 σ f = some res) : Met l y_L_flow (.codeWith y_L_flow b_L_flow 5 (some .int) [(0, 10, 13, 19)] :: tw) rl_flow (lP D ad ta σ o cO f [.ref (ad 0), .int p0, .int p1, .ref o]) (lQ D ad ta o cO res) 1 6 (lA ad o) := by
  refine va_MetW (cc := b_L_flow) (maxL := 5) (ret := (some .int)) (hh := [(0, 10, 13, 19)]) (by decide) rfl ?_
  intro p e s m args below meth c s₁ B hml hv
  obtain ⟨rfl, hP, hK, hN, hT, hNc⟩ := hv
  have hx := B.exec
  have hb := B.bytes
  have hr := B.returns
  have hts := atoms_spec (ws := (.codeWith y_L_flow b_L_flow 5 (some .int) [(0, 10, 13, 19)] :: tw)) B.pre
  have ht : ∀ w ∈ tw, w.before [.ref (ad 0), .int p0, .int p1, .ref o].toArray s = true := fun w h => hts w (List.mem_cons_of_mem _ h)
  have htab := lb_tab B (hts _ List.mem_cons_self)
  have hown : s.vm.findClass R_L = some m.cls := findClass_of_methodNamed B.named
  have hlocks := B.notSynchronized
  have hS : va_S (lA ad o) s.heap s.heap [] := va_S.rf
  have hS0 : va_S tNo s.heap s.heap [] := va_S.rf
  have hPl := lp_left hP
  have hO := lp_right hP
  have hKl := lk_left hK
  have hl := lv_entry ([.ref (ad 0), .int p0, .int p1, .ref o]) (n := 5) (Nat.le_of_ble_eq_true rfl)
  rw [lg_entry_eq]
  generalize (lg_sl ([.ref (ad 0), .int p0, .int p1, .ref o]) ++ List.replicate (5 - (lg_sl ([.ref (ad 0), .int p0, .int p1, .ref o])).length) Slot.unset).toArray = ls at hl ⊢
  replace hl : lv_has ls 5 [(0, .ref (ad 0)), (1, .int p0), (2, .int p1), (3, .ref o)] := hl
  unfold lf_flow at hc
  rcases lf1_of hc with ⟨hm, rfl⟩ | hc
  · refine lv_aload_n hx hb d_L_flow_0 rfl (lv_at hl 3 rfl) ?_
    refine lv_iconst (v := (0 : Int32)) hx hb d_L_flow_1 (by decide) ?_
    refine lv_aload_n hx hb d_L_flow_2 rfl (lv_at hl 0 rfl) ?_
    refine lv_iload_n hx hb d_L_flow_3 rfl (lv_at hl 1 rfl) ?_
    refine lv_iload_n hx hb d_L_flow_4 rfl (lv_at hl 2 rfl) ?_
    refine tr_catch1 (X := xIA) (tx_runV (C := R_T) (As := [.int p0, .int p1]) (rest := [.int (0 : Int32), .ref o]) ⟨hx, hb, hml, hown, ht⟩ (xc_T_flow l h9 hd hm) ⟨pay_in ht (tw_G wc_T_flow), List.mem_cons_self, ht _ wd_34, ⟨(Nat.le_of_ble_eq_true rfl), (Nat.le_of_ble_eq_true rfl), (Nat.le_of_ble_eq_true rfl), (Nat.le_of_ble_eq_true rfl)⟩⟩ (ht _ wd_613) (ht _ wd_614) (ht _ wd_615) (ht _ wc_T_flow) (by decide +kernel) ⟨tPX_blind, va_recv hKl hPl (ci := 0) (q0 := 0) rfl rfl, fun U hU hW => ⟨⟨rfl, by rw [hU]; exact hPl, va_K.moved hW.alike hKl, tW_warm hW hN⟩, tT_go hT hS0 hU hW⟩⟩ rfl (show (parseMethodDescriptor y_T_flow.desc).map (fun d => d.parameters.length) = some 2 by decide +kernel) hl.1 rfl (lv_room (Nat.le_of_ble_eq_true rfl)) d_L_flow_5) hown htab (ht _ wd_394) (va_Nw.use rfl (hT.1 _ ck_IA)) ⟨by decide, by decide⟩ (by decide) (fun x H1 hz hk => ?_)
    refine lv_astore (lv' := [(4, .ref x), (0, .ref (ad 0)), (1, .int p0), (2, .int p1), (3, .ref o)]) hx hb d_L_flow_13 hl (by decide) rfl (fun ls hl => ?_)
    refine lv_iconst (v := (1 : Int32)) hx hb d_L_flow_15 (by decide) ?_
    have hP := hP.kept (fun k q hq => hk q.1 ((hP k q hq).lt))
    have hS : va_S (lA ad o) s.heap H1 [] := ⟨hz, fun q h1 _ => hk q h1, fun _ h => by cases h⟩
    exact W.iret (v := (1 : Int32)) hx hb hr (fun t ht9 hW => ⟨rfl, by rw [ht9]; exact hP, hS.F ht9⟩) hS.2.2 d_L_flow_16
  · obtain ⟨r1, s1, hq, hc⟩ := tb2_of hc
    obtain rfl := ts_of hc
    refine lv_aload_n hx hb d_L_flow_0 rfl (lv_at hl 3 rfl) ?_
    refine lv_iconst (v := (0 : Int32)) hx hb d_L_flow_1 (by decide) ?_
    refine lv_aload_n hx hb d_L_flow_2 rfl (lv_at hl 0 rfl) ?_
    refine lv_iload_n hx hb d_L_flow_3 rfl (lv_at hl 1 rfl) ?_
    refine lv_iload_n hx hb d_L_flow_4 rfl (lv_at hl 2 rfl) ?_
    refine tr_call (va_runV (C := R_T) (As := [.int p0, .int p1]) (rest := [.int (0 : Int32), .ref o]) ⟨hx, hb, hml, hown, ht⟩ (mc_T_flow l hd hq) ⟨(tw_cb (n := 2) ht wc_T_flow wd_34 wd_613 ⟨rfl, rfl⟩ (by decide +kernel) ⟨(Nat.le_of_ble_eq_true rfl), (Nat.le_of_ble_eq_true rfl)⟩), ht _ wd_614, ht _ wd_615⟩ ⟨tP_blind, va_recv hKl hPl (ci := 0) (q0 := 0) rfl rfl, fun U hU hW => ⟨rfl, by rw [hU]; exact hPl, va_K.moved hW.alike hKl, tW_warm hW hN⟩⟩ rfl rfl hl.1 rfl (lv_room (Nat.le_of_ble_eq_true rfl)) d_L_flow_5 ⟨(Nat.le_of_ble_eq_true rfl), (Nat.le_of_ble_eq_true rfl)⟩) hS (fun _ h => h.elim) (fun _ h => h.elim) (fun H locs hP1 hk hz hS => ?_)
    replace hP : va_P D clS (cwC ad ta s1 ++ lO o cO f) H := hP1.app (lo_kept (ad := ad) hO (fun h => h.elim) hk)
    refine W.eq (g2 := F0 m 8 ls [.int r1, .int (0 : Int32), .ref o]) rfl ?_
    refine lv_i2l hx hb d_L_flow_8 rfl ?_
    refine va_last (f := f) (x := r1.toInt64) hx hb hK hP (lD_of hd ho) hS 37 28 rfl rfl vp_in01 d_L_flow_9 (fun H locs hP _ hS => ?_)
    replace hP : va_P D clS (cwC ad ta s1 ++ lO o cO (vp_updL f 0 r1.toInt64)) H := hP
    refine lv_goto (tgt := 17) hx hb d_L_flow_10 (by decide) ?_
    refine lv_iconst (v := (0 : Int32)) hx hb d_L_flow_17 (by decide) ?_
    refine W.widen (k := 1) (n := 6) (Nat.zero_le _) (Nat.zero_le _) ?_
    exact W.iret (v := (0 : Int32)) hx hb hr (fun t ht9 hW => ⟨rfl, by rw [ht9]; exact hP, hS.F ht9⟩) hS.2.2 d_L_flow_18
/-- the law's way: its answer, the class and the row behind it -/
def lf_way (p0 : Int32) (p1 : Int32) (p2 : Int32) (σ : tS) (f : Nat → Int64) : Option (Int32 × tS × (Nat → Int64)) :=
  lf1 1 (mx_T_way p0 p1 p2 σ) σ f (tb2 (mf_T_way p0 p1 p2 σ) (fun r s => some (0, s, vp_updL f 0 r.toInt64)))
abbrev rl_way : Room := { frames := 8, cells := 1, slots := 6, locals := 126 }
set_option maxHeartbeats 4000000 in
set_option maxRecDepth 100000 in
theorem lm_way (l : Launch) (h9 : l.stackTraces = false) {D : va_G} {ad : Nat → Nat} {ta : Nat → ClassId} (hd : tD 37 ad) {o : Nat} {cO : ClassId} {f : Nat → Int64} (ho : ∀ k, k < 37 → ad k ≠ o) {σ : tS} {p0 : Int32} {p1 : Int32} {p2 : Int32} {res : Int32 × tS × (Nat → Int64)} (hc : lf_way p0 p1 p2 σ f = some res) : Met l y_L_way (.codeWith y_L_way b_L_way 6 (some .int) [(0, 12, 15, 19)] :: tw) rl_way (lP D ad ta σ o cO f [.ref (ad 0), .int p0, .int p1, .int p2, .ref o]) (lQ D ad ta o cO res) 1 6 (lA ad o) := by
  refine va_MetW (cc := b_L_way) (maxL := 6) (ret := (some .int)) (hh := [(0, 12, 15, 19)]) (by decide) rfl ?_
  intro p e s m args below meth c s₁ B hml hv
  obtain ⟨rfl, hP, hK, hN, hT, hNc⟩ := hv
  have hx := B.exec
  have hb := B.bytes
  have hr := B.returns
  have hts := atoms_spec (ws := (.codeWith y_L_way b_L_way 6 (some .int) [(0, 12, 15, 19)] :: tw)) B.pre
  have ht : ∀ w ∈ tw, w.before [.ref (ad 0), .int p0, .int p1, .int p2, .ref o].toArray s = true := fun w h => hts w (List.mem_cons_of_mem _ h)
  have htab := lb_tab B (hts _ List.mem_cons_self)
  have hown : s.vm.findClass R_L = some m.cls := findClass_of_methodNamed B.named
  have hlocks := B.notSynchronized
  have hS : va_S (lA ad o) s.heap s.heap [] := va_S.rf
  have hS0 : va_S tNo s.heap s.heap [] := va_S.rf
  have hPl := lp_left hP
  have hO := lp_right hP
  have hKl := lk_left hK
  have hl := lv_entry ([.ref (ad 0), .int p0, .int p1, .int p2, .ref o]) (n := 6) (Nat.le_of_ble_eq_true rfl)
  rw [lg_entry_eq]
  generalize (lg_sl ([.ref (ad 0), .int p0, .int p1, .int p2, .ref o]) ++ List.replicate (6 - (lg_sl ([.ref (ad 0), .int p0, .int p1, .int p2, .ref o])).length) Slot.unset).toArray = ls at hl ⊢
  replace hl : lv_has ls 6 [(0, .ref (ad 0)), (1, .int p0), (2, .int p1), (3, .int p2), (4, .ref o)] := hl
  unfold lf_way at hc
  rcases lf1_of hc with ⟨hm, rfl⟩ | hc
  · refine lv_aload hx hb d_L_way_0 (lv_at hl 4 rfl) ?_
    refine lv_iconst (v := (0 : Int32)) hx hb d_L_way_2 (by decide) ?_
    refine lv_aload_n hx hb d_L_way_3 rfl (lv_at hl 0 rfl) ?_
    refine lv_iload_n hx hb d_L_way_4 rfl (lv_at hl 1 rfl) ?_
    refine lv_iload_n hx hb d_L_way_5 rfl (lv_at hl 2 rfl) ?_
    refine lv_iload_n hx hb d_L_way_6 rfl (lv_at hl 3 rfl) ?_
    refine tr_catch1 (X := xIA) (tx_runV (C := R_T) (As := [.int p0, .int p1, .int p2]) (rest := [.int (0 : Int32), .ref o]) ⟨hx, hb, hml, hown, ht⟩ (xc_T_way l h9 hd hm) ⟨pay_in ht (tw_G wc_T_way), List.mem_cons_self, ht _ wd_34, ⟨(Nat.le_of_ble_eq_true rfl), (Nat.le_of_ble_eq_true rfl), (Nat.le_of_ble_eq_true rfl), (Nat.le_of_ble_eq_true rfl)⟩⟩ (ht _ wd_621) (ht _ wd_622) (ht _ wd_623) (ht _ wc_T_way) (by decide +kernel) ⟨tPX_blind, va_recv hKl hPl (ci := 0) (q0 := 0) rfl rfl, fun U hU hW => ⟨⟨rfl, by rw [hU]; exact hPl, va_K.moved hW.alike hKl, tW_warm hW hN⟩, tT_go hT hS0 hU hW⟩⟩ rfl (show (parseMethodDescriptor y_T_way.desc).map (fun d => d.parameters.length) = some 3 by decide +kernel) hl.1 rfl (lv_room (Nat.le_of_ble_eq_true rfl)) d_L_way_7) hown htab (ht _ wd_394) (va_Nw.use rfl (hT.1 _ ck_IA)) ⟨by decide, by decide⟩ (by decide) (fun x H1 hz hk => ?_)
    refine lv_astore (lv' := [(5, .ref x), (0, .ref (ad 0)), (1, .int p0), (2, .int p1), (3, .int p2), (4, .ref o)]) hx hb d_L_way_15 hl (by decide) rfl (fun ls hl => ?_)
    refine lv_iconst (v := (1 : Int32)) hx hb d_L_way_17 (by decide) ?_
    have hP := hP.kept (fun k q hq => hk q.1 ((hP k q hq).lt))
    have hS : va_S (lA ad o) s.heap H1 [] := ⟨hz, fun q h1 _ => hk q h1, fun _ h => by cases h⟩
    exact W.iret (v := (1 : Int32)) hx hb hr (fun t ht9 hW => ⟨rfl, by rw [ht9]; exact hP, hS.F ht9⟩) hS.2.2 d_L_way_18
  · obtain ⟨r1, s1, hq, hc⟩ := tb2_of hc
    obtain rfl := ts_of hc
    refine lv_aload hx hb d_L_way_0 (lv_at hl 4 rfl) ?_
    refine lv_iconst (v := (0 : Int32)) hx hb d_L_way_2 (by decide) ?_
    refine lv_aload_n hx hb d_L_way_3 rfl (lv_at hl 0 rfl) ?_
    refine lv_iload_n hx hb d_L_way_4 rfl (lv_at hl 1 rfl) ?_
    refine lv_iload_n hx hb d_L_way_5 rfl (lv_at hl 2 rfl) ?_
    refine lv_iload_n hx hb d_L_way_6 rfl (lv_at hl 3 rfl) ?_
    refine tr_call (va_runV (C := R_T) (As := [.int p0, .int p1, .int p2]) (rest := [.int (0 : Int32), .ref o]) ⟨hx, hb, hml, hown, ht⟩ (mc_T_way l hd hq) ⟨(tw_cb (n := 3) ht wc_T_way wd_34 wd_621 ⟨rfl, rfl⟩ (by decide +kernel) ⟨(Nat.le_of_ble_eq_true rfl), (Nat.le_of_ble_eq_true rfl)⟩), ht _ wd_622, ht _ wd_623⟩ ⟨tP_blind, va_recv hKl hPl (ci := 0) (q0 := 0) rfl rfl, fun U hU hW => ⟨rfl, by rw [hU]; exact hPl, va_K.moved hW.alike hKl, tW_warm hW hN⟩⟩ rfl rfl hl.1 rfl (lv_room (Nat.le_of_ble_eq_true rfl)) d_L_way_7 ⟨(Nat.le_of_ble_eq_true rfl), (Nat.le_of_ble_eq_true rfl)⟩) hS (fun _ h => Or.inl h) (fun _ h => Or.inl h) (fun H locs hP1 hk hz hS => ?_)
    replace hP : va_P D clS (cwC ad ta s1 ++ lO o cO f) H := hP1.app (lo_kept (ad := ad) hO (lA_no ho) hk)
    refine W.eq (g2 := F0 m 10 ls [.int r1, .int (0 : Int32), .ref o]) rfl ?_
    refine lv_i2l hx hb d_L_way_10 rfl ?_
    refine va_last (f := f) (x := r1.toInt64) hx hb hK hP (lD_of hd ho) hS 37 28 rfl rfl vp_in01 d_L_way_11 (fun H locs hP _ hS => ?_)
    replace hP : va_P D clS (cwC ad ta s1 ++ lO o cO (vp_updL f 0 r1.toInt64)) H := hP
    refine lv_goto (tgt := 19) hx hb d_L_way_12 (by decide) ?_
    refine lv_iconst (v := (0 : Int32)) hx hb d_L_way_19 (by decide) ?_
    refine W.widen (k := 1) (n := 6) (Nat.zero_le _) (Nat.zero_le _) ?_
    exact W.iret (v := (0 : Int32)) hx hb hr (fun t ht9 hW => ⟨rfl, by rw [ht9]; exact hP, hS.F ht9⟩) hS.2.2 d_L_way_20
/-- the law's least: its answer, the class and the row behind it -/
def lf_least (p0 : Int32) (p1 : Int32) (σ : tS) (f : Nat → Int64) : Option (Int32 × tS × (Nat → Int64)) :=
  lf1 1 (mx_T_least p0 p1 σ) σ f (tb2 (mf_T_least p0 p1 σ) (fun r s => some (0, s, vp_updL f 0 r.toInt64)))
abbrev rl_least : Room := { frames := 8, cells := 1, slots := 6, locals := 125 }
set_option maxHeartbeats 4000000 in
set_option maxRecDepth 100000 in
theorem lm_least (l : Launch) (h9 : l.stackTraces = false) {D : va_G} {ad : Nat → Nat} {ta : Nat → ClassId} (hd : tD 37 ad) {o : Nat} {cO : ClassId} {f : Nat → Int64} (ho : ∀ k, k < 37 → ad k ≠ o) {σ : tS} {p0 : Int32} {p1 : Int32} {res : Int32 × tS × (Nat → Int64)} (hc : lf_least p0 p1 σ f = some res) : Met l y_L_least (.codeWith y_L_least b_L_least 5 (some .int) [(0, 10, 13, 19)] :: tw) rl_least (lP D ad ta σ o cO f [.ref (ad 0), .int p0, .int p1, .ref o]) (lQ D ad ta o cO res) 1 6 (lA ad o) := by
  refine va_MetW (cc := b_L_least) (maxL := 5) (ret := (some .int)) (hh := [(0, 10, 13, 19)]) (by decide) rfl ?_
  intro p e s m args below meth c s₁ B hml hv
  obtain ⟨rfl, hP, hK, hN, hT, hNc⟩ := hv
  have hx := B.exec
  have hb := B.bytes
  have hr := B.returns
  have hts := atoms_spec (ws := (.codeWith y_L_least b_L_least 5 (some .int) [(0, 10, 13, 19)] :: tw)) B.pre
  have ht : ∀ w ∈ tw, w.before [.ref (ad 0), .int p0, .int p1, .ref o].toArray s = true := fun w h => hts w (List.mem_cons_of_mem _ h)
  have htab := lb_tab B (hts _ List.mem_cons_self)
  have hown : s.vm.findClass R_L = some m.cls := findClass_of_methodNamed B.named
  have hlocks := B.notSynchronized
  have hS : va_S (lA ad o) s.heap s.heap [] := va_S.rf
  have hS0 : va_S tNo s.heap s.heap [] := va_S.rf
  have hPl := lp_left hP
  have hO := lp_right hP
  have hKl := lk_left hK
  have hl := lv_entry ([.ref (ad 0), .int p0, .int p1, .ref o]) (n := 5) (Nat.le_of_ble_eq_true rfl)
  rw [lg_entry_eq]
  generalize (lg_sl ([.ref (ad 0), .int p0, .int p1, .ref o]) ++ List.replicate (5 - (lg_sl ([.ref (ad 0), .int p0, .int p1, .ref o])).length) Slot.unset).toArray = ls at hl ⊢
  replace hl : lv_has ls 5 [(0, .ref (ad 0)), (1, .int p0), (2, .int p1), (3, .ref o)] := hl
  unfold lf_least at hc
  rcases lf1_of hc with ⟨hm, rfl⟩ | hc
  · refine lv_aload_n hx hb d_L_least_0 rfl (lv_at hl 3 rfl) ?_
    refine lv_iconst (v := (0 : Int32)) hx hb d_L_least_1 (by decide) ?_
    refine lv_aload_n hx hb d_L_least_2 rfl (lv_at hl 0 rfl) ?_
    refine lv_iload_n hx hb d_L_least_3 rfl (lv_at hl 1 rfl) ?_
    refine lv_iload_n hx hb d_L_least_4 rfl (lv_at hl 2 rfl) ?_
    refine tr_catch1 (X := xIA) (tx_runV (C := R_T) (As := [.int p0, .int p1]) (rest := [.int (0 : Int32), .ref o]) ⟨hx, hb, hml, hown, ht⟩ (xc_T_least l h9 hd hm) ⟨pay_in ht (tw_G wc_T_least), List.mem_cons_self, ht _ wd_34, ⟨(Nat.le_of_ble_eq_true rfl), (Nat.le_of_ble_eq_true rfl), (Nat.le_of_ble_eq_true rfl), (Nat.le_of_ble_eq_true rfl)⟩⟩ (ht _ wd_633) (ht _ wd_634) (ht _ wd_635) (ht _ wc_T_least) (by decide +kernel) ⟨tPX_blind, va_recv hKl hPl (ci := 0) (q0 := 0) rfl rfl, fun U hU hW => ⟨⟨rfl, by rw [hU]; exact hPl, va_K.moved hW.alike hKl, tW_warm hW hN⟩, tT_go hT hS0 hU hW⟩⟩ rfl (show (parseMethodDescriptor y_T_least.desc).map (fun d => d.parameters.length) = some 2 by decide +kernel) hl.1 rfl (lv_room (Nat.le_of_ble_eq_true rfl)) d_L_least_5) hown htab (ht _ wd_394) (va_Nw.use rfl (hT.1 _ ck_IA)) ⟨by decide, by decide⟩ (by decide) (fun x H1 hz hk => ?_)
    refine lv_astore (lv' := [(4, .ref x), (0, .ref (ad 0)), (1, .int p0), (2, .int p1), (3, .ref o)]) hx hb d_L_least_13 hl (by decide) rfl (fun ls hl => ?_)
    refine lv_iconst (v := (1 : Int32)) hx hb d_L_least_15 (by decide) ?_
    have hP := hP.kept (fun k q hq => hk q.1 ((hP k q hq).lt))
    have hS : va_S (lA ad o) s.heap H1 [] := ⟨hz, fun q h1 _ => hk q h1, fun _ h => by cases h⟩
    exact W.iret (v := (1 : Int32)) hx hb hr (fun t ht9 hW => ⟨rfl, by rw [ht9]; exact hP, hS.F ht9⟩) hS.2.2 d_L_least_16
  · obtain ⟨r1, s1, hq, hc⟩ := tb2_of hc
    obtain rfl := ts_of hc
    refine lv_aload_n hx hb d_L_least_0 rfl (lv_at hl 3 rfl) ?_
    refine lv_iconst (v := (0 : Int32)) hx hb d_L_least_1 (by decide) ?_
    refine lv_aload_n hx hb d_L_least_2 rfl (lv_at hl 0 rfl) ?_
    refine lv_iload_n hx hb d_L_least_3 rfl (lv_at hl 1 rfl) ?_
    refine lv_iload_n hx hb d_L_least_4 rfl (lv_at hl 2 rfl) ?_
    refine tr_call (va_runV (C := R_T) (As := [.int p0, .int p1]) (rest := [.int (0 : Int32), .ref o]) ⟨hx, hb, hml, hown, ht⟩ (mc_T_least l hd hq) ⟨(tw_cb (n := 2) ht wc_T_least wd_34 wd_633 ⟨rfl, rfl⟩ (by decide +kernel) ⟨(Nat.le_of_ble_eq_true rfl), (Nat.le_of_ble_eq_true rfl)⟩), ht _ wd_634, ht _ wd_635⟩ ⟨tP_blind, va_recv hKl hPl (ci := 0) (q0 := 0) rfl rfl, fun U hU hW => ⟨rfl, by rw [hU]; exact hPl, va_K.moved hW.alike hKl, tW_warm hW hN⟩⟩ rfl rfl hl.1 rfl (lv_room (Nat.le_of_ble_eq_true rfl)) d_L_least_5 ⟨(Nat.le_of_ble_eq_true rfl), (Nat.le_of_ble_eq_true rfl)⟩) hS (fun _ h => Or.inl h) (fun _ h => Or.inl h) (fun H locs hP1 hk hz hS => ?_)
    replace hP : va_P D clS (cwC ad ta s1 ++ lO o cO f) H := hP1.app (lo_kept (ad := ad) hO (lA_no ho) hk)
    refine W.eq (g2 := F0 m 8 ls [.int r1, .int (0 : Int32), .ref o]) rfl ?_
    refine lv_i2l hx hb d_L_least_8 rfl ?_
    refine va_last (f := f) (x := r1.toInt64) hx hb hK hP (lD_of hd ho) hS 37 28 rfl rfl vp_in01 d_L_least_9 (fun H locs hP _ hS => ?_)
    replace hP : va_P D clS (cwC ad ta s1 ++ lO o cO (vp_updL f 0 r1.toInt64)) H := hP
    refine lv_goto (tgt := 17) hx hb d_L_least_10 (by decide) ?_
    refine lv_iconst (v := (0 : Int32)) hx hb d_L_least_17 (by decide) ?_
    refine W.widen (k := 1) (n := 6) (Nat.zero_le _) (Nat.zero_le _) ?_
    exact W.iret (v := (0 : Int32)) hx hb hr (fun t ht9 hW => ⟨rfl, by rw [ht9]; exact hP, hS.F ht9⟩) hS.2.2 d_L_least_18
/-- the law's link: its answer, the class and the row behind it -/
def lf_link (p0 : Int32) (p1 : Int32) (p2 : Int32) (σ : tS) (f : Nat → Int64) : Option (Int32 × tS × (Nat → Int64)) :=
  lf1 1 (mx_T_link p0 p1 p2 σ) σ f (tb2 (mf_T_link p0 p1 p2 σ) (fun r s => some (0, s, vp_updL f 0 r.toInt64)))
abbrev rl_link : Room := { frames := 8, cells := 1, slots := 6, locals := 126 }
set_option maxHeartbeats 4000000 in
set_option maxRecDepth 100000 in
theorem lm_link (l : Launch) (h9 : l.stackTraces = false) {D : va_G} {ad : Nat → Nat} {ta : Nat → ClassId} (hd : tD 37 ad) {o : Nat} {cO : ClassId} {f : Nat → Int64} (ho : ∀ k, k < 37 → ad k ≠ o) {σ : tS} {p0 : Int32} {p1 : Int32} {p2 : Int32} {res : Int32 × tS × (Nat → Int64)} (hc : lf_link p0 p1 p2 σ f = some res) : Met l y_L_link (.codeWith y_L_link b_L_link 6 (some .int) [(0, 12, 15, 19)] :: tw) rl_link (lP D ad ta σ o cO f [.ref (ad 0), .int p0, .int p1, .int p2, .ref o]) (lQ D ad ta o cO res) 1 6 (lA ad o) := by
  refine va_MetW (cc := b_L_link) (maxL := 6) (ret := (some .int)) (hh := [(0, 12, 15, 19)]) (by decide) rfl ?_
  intro p e s m args below meth c s₁ B hml hv
  obtain ⟨rfl, hP, hK, hN, hT, hNc⟩ := hv
  have hx := B.exec
  have hb := B.bytes
  have hr := B.returns
  have hts := atoms_spec (ws := (.codeWith y_L_link b_L_link 6 (some .int) [(0, 12, 15, 19)] :: tw)) B.pre
  have ht : ∀ w ∈ tw, w.before [.ref (ad 0), .int p0, .int p1, .int p2, .ref o].toArray s = true := fun w h => hts w (List.mem_cons_of_mem _ h)
  have htab := lb_tab B (hts _ List.mem_cons_self)
  have hown : s.vm.findClass R_L = some m.cls := findClass_of_methodNamed B.named
  have hlocks := B.notSynchronized
  have hS : va_S (lA ad o) s.heap s.heap [] := va_S.rf
  have hS0 : va_S tNo s.heap s.heap [] := va_S.rf
  have hPl := lp_left hP
  have hO := lp_right hP
  have hKl := lk_left hK
  have hl := lv_entry ([.ref (ad 0), .int p0, .int p1, .int p2, .ref o]) (n := 6) (Nat.le_of_ble_eq_true rfl)
  rw [lg_entry_eq]
  generalize (lg_sl ([.ref (ad 0), .int p0, .int p1, .int p2, .ref o]) ++ List.replicate (6 - (lg_sl ([.ref (ad 0), .int p0, .int p1, .int p2, .ref o])).length) Slot.unset).toArray = ls at hl ⊢
  replace hl : lv_has ls 6 [(0, .ref (ad 0)), (1, .int p0), (2, .int p1), (3, .int p2), (4, .ref o)] := hl
  unfold lf_link at hc
  rcases lf1_of hc with ⟨hm, rfl⟩ | hc
  · refine lv_aload hx hb d_L_link_0 (lv_at hl 4 rfl) ?_
    refine lv_iconst (v := (0 : Int32)) hx hb d_L_link_2 (by decide) ?_
    refine lv_aload_n hx hb d_L_link_3 rfl (lv_at hl 0 rfl) ?_
    refine lv_iload_n hx hb d_L_link_4 rfl (lv_at hl 1 rfl) ?_
    refine lv_iload_n hx hb d_L_link_5 rfl (lv_at hl 2 rfl) ?_
    refine lv_iload_n hx hb d_L_link_6 rfl (lv_at hl 3 rfl) ?_
    refine tr_catch1 (X := xIA) (tx_runV (C := R_T) (As := [.int p0, .int p1, .int p2]) (rest := [.int (0 : Int32), .ref o]) ⟨hx, hb, hml, hown, ht⟩ (xc_T_link l h9 hd hm) ⟨pay_in ht (tw_G wc_T_link), List.mem_cons_self, ht _ wd_34, ⟨(Nat.le_of_ble_eq_true rfl), (Nat.le_of_ble_eq_true rfl), (Nat.le_of_ble_eq_true rfl), (Nat.le_of_ble_eq_true rfl)⟩⟩ (ht _ wd_640) (ht _ wd_641) (ht _ wd_642) (ht _ wc_T_link) (by decide +kernel) ⟨tPX_blind, va_recv hKl hPl (ci := 0) (q0 := 0) rfl rfl, fun U hU hW => ⟨⟨rfl, by rw [hU]; exact hPl, va_K.moved hW.alike hKl, tW_warm hW hN⟩, tT_go hT hS0 hU hW⟩⟩ rfl (show (parseMethodDescriptor y_T_link.desc).map (fun d => d.parameters.length) = some 3 by decide +kernel) hl.1 rfl (lv_room (Nat.le_of_ble_eq_true rfl)) d_L_link_7) hown htab (ht _ wd_394) (va_Nw.use rfl (hT.1 _ ck_IA)) ⟨by decide, by decide⟩ (by decide) (fun x H1 hz hk => ?_)
    refine lv_astore (lv' := [(5, .ref x), (0, .ref (ad 0)), (1, .int p0), (2, .int p1), (3, .int p2), (4, .ref o)]) hx hb d_L_link_15 hl (by decide) rfl (fun ls hl => ?_)
    refine lv_iconst (v := (1 : Int32)) hx hb d_L_link_17 (by decide) ?_
    have hP := hP.kept (fun k q hq => hk q.1 ((hP k q hq).lt))
    have hS : va_S (lA ad o) s.heap H1 [] := ⟨hz, fun q h1 _ => hk q h1, fun _ h => by cases h⟩
    exact W.iret (v := (1 : Int32)) hx hb hr (fun t ht9 hW => ⟨rfl, by rw [ht9]; exact hP, hS.F ht9⟩) hS.2.2 d_L_link_18
  · obtain ⟨r1, s1, hq, hc⟩ := tb2_of hc
    obtain rfl := ts_of hc
    refine lv_aload hx hb d_L_link_0 (lv_at hl 4 rfl) ?_
    refine lv_iconst (v := (0 : Int32)) hx hb d_L_link_2 (by decide) ?_
    refine lv_aload_n hx hb d_L_link_3 rfl (lv_at hl 0 rfl) ?_
    refine lv_iload_n hx hb d_L_link_4 rfl (lv_at hl 1 rfl) ?_
    refine lv_iload_n hx hb d_L_link_5 rfl (lv_at hl 2 rfl) ?_
    refine lv_iload_n hx hb d_L_link_6 rfl (lv_at hl 3 rfl) ?_
    refine tr_call (va_runV (C := R_T) (As := [.int p0, .int p1, .int p2]) (rest := [.int (0 : Int32), .ref o]) ⟨hx, hb, hml, hown, ht⟩ (mc_T_link l hd hq) ⟨(tw_cb (n := 3) ht wc_T_link wd_34 wd_640 ⟨rfl, rfl⟩ (by decide +kernel) ⟨(Nat.le_of_ble_eq_true rfl), (Nat.le_of_ble_eq_true rfl)⟩), ht _ wd_641, ht _ wd_642⟩ ⟨tP_blind, va_recv hKl hPl (ci := 0) (q0 := 0) rfl rfl, fun U hU hW => ⟨rfl, by rw [hU]; exact hPl, va_K.moved hW.alike hKl, tW_warm hW hN⟩⟩ rfl rfl hl.1 rfl (lv_room (Nat.le_of_ble_eq_true rfl)) d_L_link_7 ⟨(Nat.le_of_ble_eq_true rfl), (Nat.le_of_ble_eq_true rfl)⟩) hS (fun _ h => h.elim) (fun _ h => h.elim) (fun H locs hP1 hk hz hS => ?_)
    replace hP : va_P D clS (cwC ad ta s1 ++ lO o cO f) H := hP1.app (lo_kept (ad := ad) hO (fun h => h.elim) hk)
    refine W.eq (g2 := F0 m 10 ls [.int r1, .int (0 : Int32), .ref o]) rfl ?_
    refine lv_i2l hx hb d_L_link_10 rfl ?_
    refine va_last (f := f) (x := r1.toInt64) hx hb hK hP (lD_of hd ho) hS 37 28 rfl rfl vp_in01 d_L_link_11 (fun H locs hP _ hS => ?_)
    replace hP : va_P D clS (cwC ad ta s1 ++ lO o cO (vp_updL f 0 r1.toInt64)) H := hP
    refine lv_goto (tgt := 19) hx hb d_L_link_12 (by decide) ?_
    refine lv_iconst (v := (0 : Int32)) hx hb d_L_link_19 (by decide) ?_
    refine W.widen (k := 1) (n := 6) (Nat.zero_le _) (Nat.zero_le _) ?_
    exact W.iret (v := (0 : Int32)) hx hb hr (fun t ht9 hW => ⟨rfl, by rw [ht9]; exact hP, hS.F ht9⟩) hS.2.2 d_L_link_20
/-- the law's count: its answer, the class and the row behind it -/
def lf_count (p0 : Int32) (p1 : Int32) (σ : tS) (f : Nat → Int64) : Option (Int32 × tS × (Nat → Int64)) :=
  lf1 1 (mx_T_count p0 p1 σ) σ f (tb2 (mf_T_count p0 p1 σ) (fun r s => some (0, s, vp_updL f 0 r.toInt64)))
abbrev rl_count : Room := { frames := 8, cells := 1, slots := 6, locals := 127 }
set_option maxHeartbeats 4000000 in
set_option maxRecDepth 100000 in
theorem lm_count (l : Launch) (h9 : l.stackTraces = false) {D : va_G} {ad : Nat → Nat} {ta : Nat → ClassId} (hd : tD 37 ad) {o : Nat} {cO : ClassId} {f : Nat → Int64} (ho : ∀ k, k < 37 → ad k ≠ o) {σ : tS} {p0 : Int32} {p1 : Int32} {res : Int32 × tS × (Nat → Int64)} (hc : lf_count p0 p1 σ f = some res) : Met l y_L_count (.codeWith y_L_count b_L_count 5 (some .int) [(0, 10, 13, 19)] :: tw) rl_count (lP D ad ta σ o cO f [.ref (ad 0), .int p0, .int p1, .ref o]) (lQ D ad ta o cO res) 1 6 (lA ad o) := by
  refine va_MetW (cc := b_L_count) (maxL := 5) (ret := (some .int)) (hh := [(0, 10, 13, 19)]) (by decide) rfl ?_
  intro p e s m args below meth c s₁ B hml hv
  obtain ⟨rfl, hP, hK, hN, hT, hNc⟩ := hv
  have hx := B.exec
  have hb := B.bytes
  have hr := B.returns
  have hts := atoms_spec (ws := (.codeWith y_L_count b_L_count 5 (some .int) [(0, 10, 13, 19)] :: tw)) B.pre
  have ht : ∀ w ∈ tw, w.before [.ref (ad 0), .int p0, .int p1, .ref o].toArray s = true := fun w h => hts w (List.mem_cons_of_mem _ h)
  have htab := lb_tab B (hts _ List.mem_cons_self)
  have hown : s.vm.findClass R_L = some m.cls := findClass_of_methodNamed B.named
  have hlocks := B.notSynchronized
  have hS : va_S (lA ad o) s.heap s.heap [] := va_S.rf
  have hS0 : va_S tNo s.heap s.heap [] := va_S.rf
  have hPl := lp_left hP
  have hO := lp_right hP
  have hKl := lk_left hK
  have hl := lv_entry ([.ref (ad 0), .int p0, .int p1, .ref o]) (n := 5) (Nat.le_of_ble_eq_true rfl)
  rw [lg_entry_eq]
  generalize (lg_sl ([.ref (ad 0), .int p0, .int p1, .ref o]) ++ List.replicate (5 - (lg_sl ([.ref (ad 0), .int p0, .int p1, .ref o])).length) Slot.unset).toArray = ls at hl ⊢
  replace hl : lv_has ls 5 [(0, .ref (ad 0)), (1, .int p0), (2, .int p1), (3, .ref o)] := hl
  unfold lf_count at hc
  rcases lf1_of hc with ⟨hm, rfl⟩ | hc
  · refine lv_aload_n hx hb d_L_count_0 rfl (lv_at hl 3 rfl) ?_
    refine lv_iconst (v := (0 : Int32)) hx hb d_L_count_1 (by decide) ?_
    refine lv_aload_n hx hb d_L_count_2 rfl (lv_at hl 0 rfl) ?_
    refine lv_iload_n hx hb d_L_count_3 rfl (lv_at hl 1 rfl) ?_
    refine lv_iload_n hx hb d_L_count_4 rfl (lv_at hl 2 rfl) ?_
    refine tr_catch1 (X := xIA) (tx_runV (C := R_T) (As := [.int p0, .int p1]) (rest := [.int (0 : Int32), .ref o]) ⟨hx, hb, hml, hown, ht⟩ (xc_T_count l h9 hd hm) ⟨pay_in ht (tw_G wc_T_count), List.mem_cons_self, ht _ wd_34, ⟨(Nat.le_of_ble_eq_true rfl), (Nat.le_of_ble_eq_true rfl), (Nat.le_of_ble_eq_true rfl), (Nat.le_of_ble_eq_true rfl)⟩⟩ (ht _ wd_648) (ht _ wd_649) (ht _ wd_650) (ht _ wc_T_count) (by decide +kernel) ⟨tPX_blind, va_recv hKl hPl (ci := 0) (q0 := 0) rfl rfl, fun U hU hW => ⟨⟨rfl, by rw [hU]; exact hPl, va_K.moved hW.alike hKl, tW_warm hW hN⟩, tT_go hT hS0 hU hW⟩⟩ rfl (show (parseMethodDescriptor y_T_count.desc).map (fun d => d.parameters.length) = some 2 by decide +kernel) hl.1 rfl (lv_room (Nat.le_of_ble_eq_true rfl)) d_L_count_5) hown htab (ht _ wd_394) (va_Nw.use rfl (hT.1 _ ck_IA)) ⟨by decide, by decide⟩ (by decide) (fun x H1 hz hk => ?_)
    refine lv_astore (lv' := [(4, .ref x), (0, .ref (ad 0)), (1, .int p0), (2, .int p1), (3, .ref o)]) hx hb d_L_count_13 hl (by decide) rfl (fun ls hl => ?_)
    refine lv_iconst (v := (1 : Int32)) hx hb d_L_count_15 (by decide) ?_
    have hP := hP.kept (fun k q hq => hk q.1 ((hP k q hq).lt))
    have hS : va_S (lA ad o) s.heap H1 [] := ⟨hz, fun q h1 _ => hk q h1, fun _ h => by cases h⟩
    exact W.iret (v := (1 : Int32)) hx hb hr (fun t ht9 hW => ⟨rfl, by rw [ht9]; exact hP, hS.F ht9⟩) hS.2.2 d_L_count_16
  · obtain ⟨r1, s1, hq, hc⟩ := tb2_of hc
    obtain rfl := ts_of hc
    refine lv_aload_n hx hb d_L_count_0 rfl (lv_at hl 3 rfl) ?_
    refine lv_iconst (v := (0 : Int32)) hx hb d_L_count_1 (by decide) ?_
    refine lv_aload_n hx hb d_L_count_2 rfl (lv_at hl 0 rfl) ?_
    refine lv_iload_n hx hb d_L_count_3 rfl (lv_at hl 1 rfl) ?_
    refine lv_iload_n hx hb d_L_count_4 rfl (lv_at hl 2 rfl) ?_
    refine tr_call (va_runV (C := R_T) (As := [.int p0, .int p1]) (rest := [.int (0 : Int32), .ref o]) ⟨hx, hb, hml, hown, ht⟩ (mc_T_count l hd hq) ⟨(tw_cb (n := 2) ht wc_T_count wd_34 wd_648 ⟨rfl, rfl⟩ (by decide +kernel) ⟨(Nat.le_of_ble_eq_true rfl), (Nat.le_of_ble_eq_true rfl)⟩), ht _ wd_649, ht _ wd_650⟩ ⟨tP_blind, va_recv hKl hPl (ci := 0) (q0 := 0) rfl rfl, fun U hU hW => ⟨rfl, by rw [hU]; exact hPl, va_K.moved hW.alike hKl, tW_warm hW hN⟩⟩ rfl rfl hl.1 rfl (lv_room (Nat.le_of_ble_eq_true rfl)) d_L_count_5 ⟨(Nat.le_of_ble_eq_true rfl), (Nat.le_of_ble_eq_true rfl)⟩) hS (fun _ h => Or.inl h) (fun _ h => Or.inl h) (fun H locs hP1 hk hz hS => ?_)
    replace hP : va_P D clS (cwC ad ta s1 ++ lO o cO f) H := hP1.app (lo_kept (ad := ad) hO (lA_no ho) hk)
    refine W.eq (g2 := F0 m 8 ls [.int r1, .int (0 : Int32), .ref o]) rfl ?_
    refine lv_i2l hx hb d_L_count_8 rfl ?_
    refine va_last (f := f) (x := r1.toInt64) hx hb hK hP (lD_of hd ho) hS 37 28 rfl rfl vp_in01 d_L_count_9 (fun H locs hP _ hS => ?_)
    replace hP : va_P D clS (cwC ad ta s1 ++ lO o cO (vp_updL f 0 r1.toInt64)) H := hP
    refine lv_goto (tgt := 17) hx hb d_L_count_10 (by decide) ?_
    refine lv_iconst (v := (0 : Int32)) hx hb d_L_count_17 (by decide) ?_
    refine W.widen (k := 1) (n := 6) (Nat.zero_le _) (Nat.zero_le _) ?_
    exact W.iret (v := (0 : Int32)) hx hb hr (fun t ht9 hW => ⟨rfl, by rw [ht9]; exact hP, hS.F ht9⟩) hS.2.2 d_L_count_18
/-- the law's fit: its answer, the class and the row behind it -/
def lf_fit (p0 : Int32) (σ : tS) (f : Nat → Int64) : Option (Int32 × tS × (Nat → Int64)) :=
  lf2 (mx_T_fit p0 σ) σ f (tb2 (mf_T_fit p0 σ) (fun r s => some (0, s, vp_updL f 0 r.toInt64)))
abbrev rl_fit : Room := { frames := 8, cells := 1, slots := 6, locals := 144 }
set_option maxHeartbeats 4000000 in
set_option maxRecDepth 100000 in
theorem lm_fit (l : Launch) (h9 : l.stackTraces = false) {D : va_G} {ad : Nat → Nat} {ta : Nat → ClassId} (hd : tD 37 ad) {o : Nat} {cO : ClassId} {f : Nat → Int64} (ho : ∀ k, k < 37 → ad k ≠ o) {σ : tS} {p0 : Int32} {res : Int32 × tS × (Nat → Int64)} (hc : lf_fit p0 σ f = some res) : Met l y_L_fit (.codeWith y_L_fit b_L_fit 4 (some .int) [(0, 9, 12, 19), (0, 9, 15, 13)] :: tw) rl_fit (lP D ad ta σ o cO f [.ref (ad 0), .int p0, .ref o]) (lQ D ad ta o cO res) 1 6 (lA ad o) := by
  refine va_MetW (cc := b_L_fit) (maxL := 4) (ret := (some .int)) (hh := [(0, 9, 12, 19), (0, 9, 15, 13)]) (by decide) rfl ?_
  intro p e s m args below meth c s₁ B hml hv
  obtain ⟨rfl, hP, hK, hN, hT, hNc⟩ := hv
  have hx := B.exec
  have hb := B.bytes
  have hr := B.returns
  have hts := atoms_spec (ws := (.codeWith y_L_fit b_L_fit 4 (some .int) [(0, 9, 12, 19), (0, 9, 15, 13)] :: tw)) B.pre
  have ht : ∀ w ∈ tw, w.before [.ref (ad 0), .int p0, .ref o].toArray s = true := fun w h => hts w (List.mem_cons_of_mem _ h)
  have htab := lb_tab B (hts _ List.mem_cons_self)
  have hown : s.vm.findClass R_L = some m.cls := findClass_of_methodNamed B.named
  have hlocks := B.notSynchronized
  have hS : va_S (lA ad o) s.heap s.heap [] := va_S.rf
  have hS0 : va_S tNo s.heap s.heap [] := va_S.rf
  have hPl := lp_left hP
  have hO := lp_right hP
  have hKl := lk_left hK
  have hl := lv_entry ([.ref (ad 0), .int p0, .ref o]) (n := 4) (Nat.le_of_ble_eq_true rfl)
  rw [lg_entry_eq]
  generalize (lg_sl ([.ref (ad 0), .int p0, .ref o]) ++ List.replicate (4 - (lg_sl ([.ref (ad 0), .int p0, .ref o])).length) Slot.unset).toArray = ls at hl ⊢
  replace hl : lv_has ls 4 [(0, .ref (ad 0)), (1, .int p0), (2, .ref o)] := hl
  unfold lf_fit at hc
  rcases lf2_of hc with ⟨hm, rfl⟩ | ⟨hm, rfl⟩ | hc
  · refine lv_aload_n hx hb d_L_fit_0 rfl (lv_at hl 2 rfl) ?_
    refine lv_iconst (v := (0 : Int32)) hx hb d_L_fit_1 (by decide) ?_
    refine lv_aload_n hx hb d_L_fit_2 rfl (lv_at hl 0 rfl) ?_
    refine lv_iload_n hx hb d_L_fit_3 rfl (lv_at hl 1 rfl) ?_
    refine tr_catch1 (X := xIA) (tx_runV (C := R_T) (As := [.int p0]) (rest := [.int (0 : Int32), .ref o]) ⟨hx, hb, hml, hown, ht⟩ (xc_T_fit l h9 hd hm) ⟨pay_in ht (tw_G wc_T_fit), List.mem_cons_self, ht _ wd_34, ⟨(Nat.le_of_ble_eq_true rfl), (Nat.le_of_ble_eq_true rfl), (Nat.le_of_ble_eq_true rfl), (Nat.le_of_ble_eq_true rfl)⟩⟩ (ht _ wd_655) (ht _ wd_656) (ht _ wd_657) (ht _ wc_T_fit) (by decide +kernel) ⟨tPX_blind, va_recv hKl hPl (ci := 0) (q0 := 0) rfl rfl, fun U hU hW => ⟨⟨rfl, by rw [hU]; exact hPl, va_K.moved hW.alike hKl, tW_warm hW hN⟩, tT_go hT hS0 hU hW⟩⟩ rfl (show (parseMethodDescriptor y_T_fit.desc).map (fun d => d.parameters.length) = some 1 by decide +kernel) hl.1 rfl (lv_room (Nat.le_of_ble_eq_true rfl)) d_L_fit_4) hown htab (ht _ wd_394) (va_Nw.use rfl (hT.1 _ ck_IA)) ⟨by decide, by decide⟩ (by decide) (fun x H1 hz hk => ?_)
    refine lv_astore_n (lv' := [(3, .ref x), (0, .ref (ad 0)), (1, .int p0), (2, .ref o)]) hx hb d_L_fit_12 rfl hl (by decide) rfl (fun ls hl => ?_)
    refine lv_iconst (v := (1 : Int32)) hx hb d_L_fit_13 (by decide) ?_
    have hP := hP.kept (fun k q hq => hk q.1 ((hP k q hq).lt))
    have hS : va_S (lA ad o) s.heap H1 [] := ⟨hz, fun q h1 _ => hk q h1, fun _ h => by cases h⟩
    exact W.iret (v := (1 : Int32)) hx hb hr (fun t ht9 hW => ⟨rfl, by rw [ht9]; exact hP, hS.F ht9⟩) hS.2.2 d_L_fit_14
  · refine lv_aload_n hx hb d_L_fit_0 rfl (lv_at hl 2 rfl) ?_
    refine lv_iconst (v := (0 : Int32)) hx hb d_L_fit_1 (by decide) ?_
    refine lv_aload_n hx hb d_L_fit_2 rfl (lv_at hl 0 rfl) ?_
    refine lv_iload_n hx hb d_L_fit_3 rfl (lv_at hl 1 rfl) ?_
    refine tr_catch2 (X := xIS) (Y := xIA) (tx_runV (C := R_T) (As := [.int p0]) (rest := [.int (0 : Int32), .ref o]) ⟨hx, hb, hml, hown, ht⟩ (xc_T_fit l h9 hd hm) ⟨pay_in ht (tw_G wc_T_fit), List.mem_cons_self, ht _ wd_34, ⟨(Nat.le_of_ble_eq_true rfl), (Nat.le_of_ble_eq_true rfl), (Nat.le_of_ble_eq_true rfl), (Nat.le_of_ble_eq_true rfl)⟩⟩ (ht _ wd_655) (ht _ wd_656) (ht _ wd_657) (ht _ wc_T_fit) (by decide +kernel) ⟨tPX_blind, va_recv hKl hPl (ci := 0) (q0 := 0) rfl rfl, fun U hU hW => ⟨⟨rfl, by rw [hU]; exact hPl, va_K.moved hW.alike hKl, tW_warm hW hN⟩, tT_go hT hS0 hU hW⟩⟩ rfl (show (parseMethodDescriptor y_T_fit.desc).map (fun d => d.parameters.length) = some 1 by decide +kernel) hl.1 rfl (lv_room (Nat.le_of_ble_eq_true rfl)) d_L_fit_4) hown htab (ht _ wd_394) hNc (ht _ wd_319) (va_Nw.use rfl (hT.1 _ ck_IS)) ⟨by decide, by decide⟩ ⟨by decide, by decide⟩ (by decide) (by decide) (fun x H1 hz hk => ?_)
    refine lv_astore_n (lv' := [(3, .ref x), (0, .ref (ad 0)), (1, .int p0), (2, .ref o)]) hx hb d_L_fit_15 rfl hl (by decide) rfl (fun ls hl => ?_)
    refine lv_iconst (v := (2 : Int32)) hx hb d_L_fit_16 (by decide) ?_
    have hP := hP.kept (fun k q hq => hk q.1 ((hP k q hq).lt))
    have hS : va_S (lA ad o) s.heap H1 [] := ⟨hz, fun q h1 _ => hk q h1, fun _ h => by cases h⟩
    exact W.iret (v := (2 : Int32)) hx hb hr (fun t ht9 hW => ⟨rfl, by rw [ht9]; exact hP, hS.F ht9⟩) hS.2.2 d_L_fit_17
  · obtain ⟨r1, s1, hq, hc⟩ := tb2_of hc
    obtain rfl := ts_of hc
    refine lv_aload_n hx hb d_L_fit_0 rfl (lv_at hl 2 rfl) ?_
    refine lv_iconst (v := (0 : Int32)) hx hb d_L_fit_1 (by decide) ?_
    refine lv_aload_n hx hb d_L_fit_2 rfl (lv_at hl 0 rfl) ?_
    refine lv_iload_n hx hb d_L_fit_3 rfl (lv_at hl 1 rfl) ?_
    refine tr_call (va_runV (C := R_T) (As := [.int p0]) (rest := [.int (0 : Int32), .ref o]) ⟨hx, hb, hml, hown, ht⟩ (mc_T_fit l hd hq) ⟨(tw_cb (n := 1) ht wc_T_fit wd_34 wd_655 ⟨rfl, rfl⟩ (by decide +kernel) ⟨(Nat.le_of_ble_eq_true rfl), (Nat.le_of_ble_eq_true rfl)⟩), ht _ wd_656, ht _ wd_657⟩ ⟨tP_blind, va_recv hKl hPl (ci := 0) (q0 := 0) rfl rfl, fun U hU hW => ⟨rfl, by rw [hU]; exact hPl, va_K.moved hW.alike hKl, tW_warm hW hN⟩⟩ rfl rfl hl.1 rfl (lv_room (Nat.le_of_ble_eq_true rfl)) d_L_fit_4 ⟨(Nat.le_of_ble_eq_true rfl), (Nat.le_of_ble_eq_true rfl)⟩) hS (fun _ h => Or.inl h) (fun _ h => Or.inl h) (fun H locs hP1 hk hz hS => ?_)
    replace hP : va_P D clS (cwC ad ta s1 ++ lO o cO f) H := hP1.app (lo_kept (ad := ad) hO (lA_no ho) hk)
    refine W.eq (g2 := F0 m 7 ls [.int r1, .int (0 : Int32), .ref o]) rfl ?_
    refine lv_i2l hx hb d_L_fit_7 rfl ?_
    refine va_last (f := f) (x := r1.toInt64) hx hb hK hP (lD_of hd ho) hS 37 28 rfl rfl vp_in01 d_L_fit_8 (fun H locs hP _ hS => ?_)
    replace hP : va_P D clS (cwC ad ta s1 ++ lO o cO (vp_updL f 0 r1.toInt64)) H := hP
    refine lv_goto (tgt := 18) hx hb d_L_fit_9 (by decide) ?_
    refine lv_iconst (v := (0 : Int32)) hx hb d_L_fit_18 (by decide) ?_
    refine W.widen (k := 1) (n := 6) (Nat.zero_le _) (Nat.zero_le _) ?_
    exact W.iret (v := (0 : Int32)) hx hb hr (fun t ht9 hW => ⟨rfl, by rw [ht9]; exact hP, hS.F ht9⟩) hS.2.2 d_L_fit_19
