/-! CONSTRUCTORS: the world written out; the addresses of what is made come with the end -/
def kP (D : va_G) (w : va_W) (av : List Value) (sz : Nat) : Array Value → State → Prop := va_Pc av (fun U => U.heap.size = sz ∧ va_P D clS w U.heap ∧ va_K D clS [] U ∧ va_D (fun _ => True) w ∧ tW U)
theorem kP_blind {D : va_G} {w : va_W} {av : List Value} {sz : Nat} : FrameBlind (kP D w av sz) := fun a U g mk q => by
  obtain ⟨q0, q1, qP, qK, qD, qW⟩ := q
  exact ⟨q0, q1, qP, va_K.moved (u := U) (U := U.calling g mk a) (Vm.Alike.refl U.vm) qK, qD, va_Nw.same (u := U) rfl rfl qW⟩
def kB (D : va_G) (A : Nat → Prop) (kw : (Nat → Nat) → (Nat → ClassId) → va_W) (kt : (Nat → ClassId) → List (ClassId × FieldType)) : (Nat → Nat) × (Nat → ClassId) → State → Prop := fun u t => va_P D clS (kw u.1 u.2) t.heap ∧ va_K D clS (kt u.2) t ∧ va_D A (kw u.1 u.2)
theorem kc_I {D : va_G} {cl : List vw_C} {ws : va_W} {H : Heap} {k a n : Nat} {cA : ClassId} {f g : Nat → Int32} (h : va_P D cl ws H) (hk : ws[k]? = some (a, .inl (cA, n, .inl f))) (hfg : ∀ j, j < n → f j = g j) : va_P D cl (ws.set k (a, .inl (cA, n, .inl g))) H := by
  have hl := (List.getElem?_eq_some_iff.mp hk).1
  intro j q hj
  by_cases hjk : j = k
  · subst hjk
    rw [List.getElem?_set_self hl] at hj
    cases hj
    have h1 : H[a]? = some (vp_cell cA (n, .inl f)) := h j _ hk
    show H[a]? = some (vp_cell cA (n, .inl g))
    rw [h1, vp_cell_i, vp_cell_i, ar_congr (fun i hi => by rw [hfg i hi])]
  · rw [List.getElem?_set_ne (Ne.symm hjk)] at hj
    exact h j q hj

def kwZ (ad : Nat → Nat) (ta : Nat → ClassId) : va_W := [
  ((ad 0), .inr (1, [.int (0 : Int32), .ref (ad 1), .ref (ad 2), .ref (ad 3)])),
  ((ad 1), .inl ((ta 0), 6, .inl (fun _ => 0))),
  ((ad 2), .inl ((ta 1), 6, .inl (fun _ => 0))),
  ((ad 3), .inl ((ta 2), 6, .inl (fun _ => 0)))]
def kwZt (ta : Nat → ClassId) : List (ClassId × FieldType) := [((ta 0), .int), ((ta 1), .int), ((ta 2), .int)]
abbrev rk_Z : Room := { frames := 1, cells := 3, slots := 18, locals := 24 }

set_option maxHeartbeats 4000000 in
set_option maxRecDepth 100000 in
theorem mk_Z (l : Launch) {D : va_G} {h0 sz : Nat} : Met l y_Z_init (.code y_Z_init b_Z_init 1 none :: tw) rk_Z (kP D [(h0, .inr (1, [.int 0, .null, .null, .null]))] [.ref h0] sz) (va_Qv (fun u : (Nat → Nat) × (Nat → ClassId) => u.1 0 = h0) (kB D (va_A [(h0, .inr (1, [.int 0, .null, .null, .null]))] sz) kwZ kwZt) (va_A [(h0, .inr (1, [.int 0, .null, .null, .null]))] sz)) 3 18 (va_A [(h0, .inr (1, [.int 0, .null, .null, .null]))] sz) := by
  refine Met.ofW (cc := b_Z_init) (maxL := 1) (ret := none) (by decide) rfl ?_
  intro p e s m args below meth c s₁ B hml hv
  obtain ⟨rfl, hsz, hP, hK, hD0, hN⟩ := hv
  have hx := B.exec
  have hb := B.bytes
  have hr := B.returns
  have ht : ∀ w ∈ tw, w.before [.ref h0].toArray s = true := fun w h => atoms_spec (ws := (.code y_Z_init b_Z_init 1 none :: tw)) B.pre w (List.mem_cons_of_mem _ h)
  have hown : s.vm.findClass R_Z = some m.cls := findClass_of_methodNamed B.named
  have hlocks := B.notSynchronized
  have hin : meth.name = "<init>" := (name_of_methodNamed B.named B.method).1
  subst hsz
  have hD := hD0.self (sz := s.heap.size)
  generalize hAe : va_A [(h0, .inr (1, [.int 0, .null, .null, .null]))] s.heap.size = A at hD ⊢
  have hA : ∀ q : Nat, s.heap.size ≤ q → A q := fun q h => by rw [← hAe]; exact Or.inr h
  have hS : va_S A s.heap s.heap [] := va_S.rf
  replace hP : va_P D clS [(h0, .inr (1, [.int 0, .null, .null, .null]))] s.heap := hP
  have hl := lv_entry ([.ref h0]) (n := 1) (Nat.le_of_ble_eq_true rfl)
  rw [lg_entry_eq]
  generalize (lg_sl ([.ref h0]) ++ List.replicate (1 - (lg_sl ([.ref h0])).length) Slot.unset).toArray = ls at hl ⊢
  replace hl : lv_has ls 1 [(0, .ref h0)] := hl
  refine lv_aload_n hx hb d_Z_init_0 rfl (lv_at hl 0 rfl) ?_
  refine W.objInit hx hb hown (ht _ wd_63) (ht _ wd_56) (ht _ wc_object) rfl (by rw [hml]; exact hl.1) rfl d_Z_init_1 (Nat.le_of_ble_eq_true rfl) (Nat.le_of_ble_eq_true rfl) ?_
  refine W.eq (g2 := F0 m 4 ls []) rfl ?_
  refine lv_aload_n hx hb d_Z_init_4 rfl (lv_at hl 0 rfl) ?_
  refine lv_iconst (v := (0 : Int32)) hx hb d_Z_init_5 (by decide) ?_
  refine va_put (ci := 1) (v := .int (0 : Int32)) (ty := .int) (C := R_Z) (T := F_Z) (N := 4) hx hb ht iw_Z ft_Z to_Z nm_Z hown hK hP hD hS 0 rfl rfl 0 (by decide) (ht _ wd_64) (fun _ h9 => h9) rfl (by decide +kernel) rfl rfl (Nat.le_of_ble_eq_true rfl) d_Z_init_6 (fun H1 locs hP hD hS => ?_)
  replace hP : va_P D clS [(h0, .inr (1, [.int (0 : Int32), .null, .null, .null]))] H1 := hP
  replace hD : va_D A [(h0, .inr (1, [.int (0 : Int32), .null, .null, .null]))] := hD
  refine lv_aload_n hx hb d_Z_init_9 rfl (lv_at hl 0 rfl) ?_
  refine lv_bipush (v := (6 : Int32)) hx hb d_Z_init_10 (by decide) ?_
  refine va_newa (atype := .int) (a0 := (6, .inl (fun _ => 0))) (ty := .int) (N' := 6) hx hb (ht _ wd_84) rfl hK hP hD hS hA (fun _ => rfl) (by decide) (by decide) (Nat.le_of_ble_eq_true rfl) (Nat.le_of_ble_eq_true rfl) (Nat.le_of_ble_eq_true rfl) d_Z_init_12 (fun q2 c2 H2 hK hP hD hS => ?_)
  replace hK : va_K D clS [(c2, .int)] s := hK
  replace hP : va_P D clS [(h0, .inr (1, [.int (0 : Int32), .null, .null, .null])), (q2, .inl (c2, 6, .inl (fun _ => 0)))] H2 := hP
  replace hD : va_D A [(h0, .inr (1, [.int (0 : Int32), .null, .null, .null])), (q2, .inl (c2, 6, .inl (fun _ => 0)))] := hD
  refine va_putF (ci := 1) (v := .ref q2) (ty := .array .int) (C := R_Z) (T := F_Z) (N := 4) hx hb ht iw_Z ft_Z to_Z nm_Z hown hK hP hD hS 0 rfl rfl 1 (by decide) (ht _ wd_67) (fun _ h9 => h9) rfl hin rfl (by decide +kernel) rfl rfl (Nat.le_of_ble_eq_true rfl) d_Z_init_14 (fun H3 locs hP hD hS => ?_)
  replace hP : va_P D clS [(h0, .inr (1, [.int (0 : Int32), .ref q2, .null, .null])), (q2, .inl (c2, 6, .inl (fun _ => 0)))] H3 := hP
  replace hD : va_D A [(h0, .inr (1, [.int (0 : Int32), .ref q2, .null, .null])), (q2, .inl (c2, 6, .inl (fun _ => 0)))] := hD
  refine lv_aload_n hx hb d_Z_init_17 rfl (lv_at hl 0 rfl) ?_
  refine lv_bipush (v := (6 : Int32)) hx hb d_Z_init_18 (by decide) ?_
  refine va_newa (atype := .int) (a0 := (6, .inl (fun _ => 0))) (ty := .int) (N' := 6) hx hb (ht _ wd_84) rfl hK hP hD hS hA (fun _ => rfl) (by decide) (by decide) (Nat.le_of_ble_eq_true rfl) (Nat.le_of_ble_eq_true rfl) (Nat.le_of_ble_eq_true rfl) d_Z_init_20 (fun q4 c4 H4 hK hP hD hS => ?_)
  replace hK : va_K D clS [(c2, .int), (c4, .int)] s := hK
  replace hP : va_P D clS [(h0, .inr (1, [.int (0 : Int32), .ref q2, .null, .null])), (q2, .inl (c2, 6, .inl (fun _ => 0))), (q4, .inl (c4, 6, .inl (fun _ => 0)))] H4 := hP
  replace hD : va_D A [(h0, .inr (1, [.int (0 : Int32), .ref q2, .null, .null])), (q2, .inl (c2, 6, .inl (fun _ => 0))), (q4, .inl (c4, 6, .inl (fun _ => 0)))] := hD
  refine va_putF (ci := 1) (v := .ref q4) (ty := .array .int) (C := R_Z) (T := F_Z) (N := 4) hx hb ht iw_Z ft_Z to_Z nm_Z hown hK hP hD hS 0 rfl rfl 2 (by decide) (ht _ wd_69) (fun _ h9 => h9) rfl hin rfl (by decide +kernel) rfl rfl (Nat.le_of_ble_eq_true rfl) d_Z_init_22 (fun H5 locs hP hD hS => ?_)
  replace hP : va_P D clS [(h0, .inr (1, [.int (0 : Int32), .ref q2, .ref q4, .null])), (q2, .inl (c2, 6, .inl (fun _ => 0))), (q4, .inl (c4, 6, .inl (fun _ => 0)))] H5 := hP
  replace hD : va_D A [(h0, .inr (1, [.int (0 : Int32), .ref q2, .ref q4, .null])), (q2, .inl (c2, 6, .inl (fun _ => 0))), (q4, .inl (c4, 6, .inl (fun _ => 0)))] := hD
  refine lv_aload_n hx hb d_Z_init_25 rfl (lv_at hl 0 rfl) ?_
  refine lv_bipush (v := (6 : Int32)) hx hb d_Z_init_26 (by decide) ?_
  refine va_newa (atype := .int) (a0 := (6, .inl (fun _ => 0))) (ty := .int) (N' := 6) hx hb (ht _ wd_84) rfl hK hP hD hS hA (fun _ => rfl) (by decide) (by decide) (Nat.le_of_ble_eq_true rfl) (Nat.le_of_ble_eq_true rfl) (Nat.le_of_ble_eq_true rfl) d_Z_init_28 (fun q6 c6 H6 hK hP hD hS => ?_)
  replace hK : va_K D clS [(c2, .int), (c4, .int), (c6, .int)] s := hK
  replace hP : va_P D clS [(h0, .inr (1, [.int (0 : Int32), .ref q2, .ref q4, .null])), (q2, .inl (c2, 6, .inl (fun _ => 0))), (q4, .inl (c4, 6, .inl (fun _ => 0))), (q6, .inl (c6, 6, .inl (fun _ => 0)))] H6 := hP
  replace hD : va_D A [(h0, .inr (1, [.int (0 : Int32), .ref q2, .ref q4, .null])), (q2, .inl (c2, 6, .inl (fun _ => 0))), (q4, .inl (c4, 6, .inl (fun _ => 0))), (q6, .inl (c6, 6, .inl (fun _ => 0)))] := hD
  refine va_putF (ci := 1) (v := .ref q6) (ty := .array .int) (C := R_Z) (T := F_Z) (N := 4) hx hb ht iw_Z ft_Z to_Z nm_Z hown hK hP hD hS 0 rfl rfl 3 (by decide) (ht _ wd_72) (fun _ h9 => h9) rfl hin rfl (by decide +kernel) rfl rfl (Nat.le_of_ble_eq_true rfl) d_Z_init_30 (fun H7 locs hP hD hS => ?_)
  replace hP : va_P D clS [(h0, .inr (1, [.int (0 : Int32), .ref q2, .ref q4, .ref q6])), (q2, .inl (c2, 6, .inl (fun _ => 0))), (q4, .inl (c4, 6, .inl (fun _ => 0))), (q6, .inl (c6, 6, .inl (fun _ => 0)))] H7 := hP
  replace hD : va_D A [(h0, .inr (1, [.int (0 : Int32), .ref q2, .ref q4, .ref q6])), (q2, .inl (c2, 6, .inl (fun _ => 0))), (q4, .inl (c4, 6, .inl (fun _ => 0))), (q6, .inl (c6, 6, .inl (fun _ => 0)))] := hD
  have hP9 : va_P D clS (kwZ (fun k => [h0, q2, q4, q6].getD k 0) (fun k => [c2, c4, c6].getD k 0)) H7 := hP
  have hD9 : va_D A (kwZ (fun k => [h0, q2, q4, q6].getD k 0) (fun k => [c2, c4, c6].getD k 0)) := hD
  have hK9 : va_K D clS (kwZt (fun k => [c2, c4, c6].getD k 0)) s := hK
  exact W.vret hx hb hr (fun t ht9 hW => ⟨⟨((fun k => [h0, q2, q4, q6].getD k 0), (fun k => [c2, c4, c6].getD k 0)), rfl, rfl, by rw [ht9]; exact hP9, va_K.moved hW.alike hK9, hD9⟩, hS.F ht9⟩) hS.2.2 d_Z_init_33

def kwG (ad : Nat → Nat) (ta : Nat → ClassId) : va_W := [
  ((ad 0), .inr (7, [.ref (ad 1), .ref (ad 2), .ref (ad 3)])),
  ((ad 1), .inl ((ta 0), 6, .inr (.inl (fun _ => 0)))),
  ((ad 2), .inl ((ta 1), 6, .inr (.inl (fun _ => 0)))),
  ((ad 3), .inl ((ta 2), 6, .inl (fun _ => 0)))]
def kwGt (ta : Nat → ClassId) : List (ClassId × FieldType) := [((ta 0), .long), ((ta 1), .long), ((ta 2), .int)]
abbrev rk_H6 : Room := { frames := 1, cells := 3, slots := 18, locals := 24 }

set_option maxHeartbeats 4000000 in
set_option maxRecDepth 100000 in
theorem mk_H6 (l : Launch) {D : va_G} {h0 sz : Nat} : Met l y_H_init (.code y_H_init b_H_init 2 none :: tw) rk_H6 (kP D [(h0, .inr (7, [.null, .null, .null]))] [.ref h0, .int (6 : Int32)] sz) (va_Qv (fun u : (Nat → Nat) × (Nat → ClassId) => u.1 0 = h0) (kB D (va_A [(h0, .inr (7, [.null, .null, .null]))] sz) kwG kwGt) (va_A [(h0, .inr (7, [.null, .null, .null]))] sz)) 3 18 (va_A [(h0, .inr (7, [.null, .null, .null]))] sz) := by
  refine Met.ofW (cc := b_H_init) (maxL := 2) (ret := none) (by decide) rfl ?_
  intro p e s m args below meth c s₁ B hml hv
  obtain ⟨rfl, hsz, hP, hK, hD0, hN⟩ := hv
  have hx := B.exec
  have hb := B.bytes
  have hr := B.returns
  have ht : ∀ w ∈ tw, w.before [.ref h0, .int (6 : Int32)].toArray s = true := fun w h => atoms_spec (ws := (.code y_H_init b_H_init 2 none :: tw)) B.pre w (List.mem_cons_of_mem _ h)
  have hown : s.vm.findClass R_H = some m.cls := findClass_of_methodNamed B.named
  have hlocks := B.notSynchronized
  have hin : meth.name = "<init>" := (name_of_methodNamed B.named B.method).1
  subst hsz
  have hD := hD0.self (sz := s.heap.size)
  generalize hAe : va_A [(h0, .inr (7, [.null, .null, .null]))] s.heap.size = A at hD ⊢
  have hA : ∀ q : Nat, s.heap.size ≤ q → A q := fun q h => by rw [← hAe]; exact Or.inr h
  have hS : va_S A s.heap s.heap [] := va_S.rf
  replace hP : va_P D clS [(h0, .inr (7, [.null, .null, .null]))] s.heap := hP
  have hl := lv_entry ([.ref h0, .int (6 : Int32)]) (n := 2) (Nat.le_of_ble_eq_true rfl)
  rw [lg_entry_eq]
  generalize (lg_sl ([.ref h0, .int (6 : Int32)]) ++ List.replicate (2 - (lg_sl ([.ref h0, .int (6 : Int32)])).length) Slot.unset).toArray = ls at hl ⊢
  replace hl : lv_has ls 2 [(0, .ref h0), (1, .int (6 : Int32))] := hl
  refine lv_aload_n hx hb d_H_init_0 rfl (lv_at hl 0 rfl) ?_
  refine W.objInit hx hb hown (ht _ wd_96) (ht _ wd_56) (ht _ wc_object) rfl (by rw [hml]; exact hl.1) rfl d_H_init_1 (Nat.le_of_ble_eq_true rfl) (Nat.le_of_ble_eq_true rfl) ?_
  refine W.eq (g2 := F0 m 4 ls []) rfl ?_
  refine lv_aload_n hx hb d_H_init_4 rfl (lv_at hl 0 rfl) ?_
  refine lv_iload_n hx hb d_H_init_5 rfl (lv_at hl 1 rfl) ?_
  refine va_newa (atype := .long) (a0 := (6, .inr (.inl (fun _ => 0)))) (ty := .long) (N' := 6) hx hb (ht _ wd_111) rfl hK hP hD hS hA (fun _ => rfl) (by decide) (by decide) (Nat.le_of_ble_eq_true rfl) (Nat.le_of_ble_eq_true rfl) (Nat.le_of_ble_eq_true rfl) d_H_init_6 (fun q1 c1 H1 hK hP hD hS => ?_)
  replace hK : va_K D clS [(c1, .long)] s := hK
  replace hP : va_P D clS [(h0, .inr (7, [.null, .null, .null])), (q1, .inl (c1, 6, .inr (.inl (fun _ => 0))))] H1 := hP
  replace hD : va_D A [(h0, .inr (7, [.null, .null, .null])), (q1, .inl (c1, 6, .inr (.inl (fun _ => 0))))] := hD
  refine va_putF (ci := 7) (v := .ref q1) (ty := .array .long) (C := R_H) (T := F_H) (N := 3) hx hb ht iw_H ft_H to_H nm_H hown hK hP hD hS 0 rfl rfl 0 (by decide) (ht _ wd_97) (fun _ h9 => h9) rfl hin rfl (by decide +kernel) rfl rfl (Nat.le_of_ble_eq_true rfl) d_H_init_8 (fun H2 locs hP hD hS => ?_)
  replace hP : va_P D clS [(h0, .inr (7, [.ref q1, .null, .null])), (q1, .inl (c1, 6, .inr (.inl (fun _ => 0))))] H2 := hP
  replace hD : va_D A [(h0, .inr (7, [.ref q1, .null, .null])), (q1, .inl (c1, 6, .inr (.inl (fun _ => 0))))] := hD
  refine lv_aload_n hx hb d_H_init_11 rfl (lv_at hl 0 rfl) ?_
  refine lv_iload_n hx hb d_H_init_12 rfl (lv_at hl 1 rfl) ?_
  refine va_newa (atype := .long) (a0 := (6, .inr (.inl (fun _ => 0)))) (ty := .long) (N' := 6) hx hb (ht _ wd_111) rfl hK hP hD hS hA (fun _ => rfl) (by decide) (by decide) (Nat.le_of_ble_eq_true rfl) (Nat.le_of_ble_eq_true rfl) (Nat.le_of_ble_eq_true rfl) d_H_init_13 (fun q3 c3 H3 hK hP hD hS => ?_)
  replace hK : va_K D clS [(c1, .long), (c3, .long)] s := hK
  replace hP : va_P D clS [(h0, .inr (7, [.ref q1, .null, .null])), (q1, .inl (c1, 6, .inr (.inl (fun _ => 0)))), (q3, .inl (c3, 6, .inr (.inl (fun _ => 0))))] H3 := hP
  replace hD : va_D A [(h0, .inr (7, [.ref q1, .null, .null])), (q1, .inl (c1, 6, .inr (.inl (fun _ => 0)))), (q3, .inl (c3, 6, .inr (.inl (fun _ => 0))))] := hD
  refine va_putF (ci := 7) (v := .ref q3) (ty := .array .long) (C := R_H) (T := F_H) (N := 3) hx hb ht iw_H ft_H to_H nm_H hown hK hP hD hS 0 rfl rfl 1 (by decide) (ht _ wd_100) (fun _ h9 => h9) rfl hin rfl (by decide +kernel) rfl rfl (Nat.le_of_ble_eq_true rfl) d_H_init_15 (fun H4 locs hP hD hS => ?_)
  replace hP : va_P D clS [(h0, .inr (7, [.ref q1, .ref q3, .null])), (q1, .inl (c1, 6, .inr (.inl (fun _ => 0)))), (q3, .inl (c3, 6, .inr (.inl (fun _ => 0))))] H4 := hP
  replace hD : va_D A [(h0, .inr (7, [.ref q1, .ref q3, .null])), (q1, .inl (c1, 6, .inr (.inl (fun _ => 0)))), (q3, .inl (c3, 6, .inr (.inl (fun _ => 0))))] := hD
  refine lv_aload_n hx hb d_H_init_18 rfl (lv_at hl 0 rfl) ?_
  refine lv_iload_n hx hb d_H_init_19 rfl (lv_at hl 1 rfl) ?_
  refine va_newa (atype := .int) (a0 := (6, .inl (fun _ => 0))) (ty := .int) (N' := 6) hx hb (ht _ wd_84) rfl hK hP hD hS hA (fun _ => rfl) (by decide) (by decide) (Nat.le_of_ble_eq_true rfl) (Nat.le_of_ble_eq_true rfl) (Nat.le_of_ble_eq_true rfl) d_H_init_20 (fun q5 c5 H5 hK hP hD hS => ?_)
  replace hK : va_K D clS [(c1, .long), (c3, .long), (c5, .int)] s := hK
  replace hP : va_P D clS [(h0, .inr (7, [.ref q1, .ref q3, .null])), (q1, .inl (c1, 6, .inr (.inl (fun _ => 0)))), (q3, .inl (c3, 6, .inr (.inl (fun _ => 0)))), (q5, .inl (c5, 6, .inl (fun _ => 0)))] H5 := hP
  replace hD : va_D A [(h0, .inr (7, [.ref q1, .ref q3, .null])), (q1, .inl (c1, 6, .inr (.inl (fun _ => 0)))), (q3, .inl (c3, 6, .inr (.inl (fun _ => 0)))), (q5, .inl (c5, 6, .inl (fun _ => 0)))] := hD
  refine va_putF (ci := 7) (v := .ref q5) (ty := .array .int) (C := R_H) (T := F_H) (N := 3) hx hb ht iw_H ft_H to_H nm_H hown hK hP hD hS 0 rfl rfl 2 (by decide) (ht _ wd_101) (fun _ h9 => h9) rfl hin rfl (by decide +kernel) rfl rfl (Nat.le_of_ble_eq_true rfl) d_H_init_22 (fun H6 locs hP hD hS => ?_)
  replace hP : va_P D clS [(h0, .inr (7, [.ref q1, .ref q3, .ref q5])), (q1, .inl (c1, 6, .inr (.inl (fun _ => 0)))), (q3, .inl (c3, 6, .inr (.inl (fun _ => 0)))), (q5, .inl (c5, 6, .inl (fun _ => 0)))] H6 := hP
  replace hD : va_D A [(h0, .inr (7, [.ref q1, .ref q3, .ref q5])), (q1, .inl (c1, 6, .inr (.inl (fun _ => 0)))), (q3, .inl (c3, 6, .inr (.inl (fun _ => 0)))), (q5, .inl (c5, 6, .inl (fun _ => 0)))] := hD
  have hP9 : va_P D clS (kwG (fun k => [h0, q1, q3, q5].getD k 0) (fun k => [c1, c3, c5].getD k 0)) H6 := hP
  have hD9 : va_D A (kwG (fun k => [h0, q1, q3, q5].getD k 0) (fun k => [c1, c3, c5].getD k 0)) := hD
  have hK9 : va_K D clS (kwGt (fun k => [c1, c3, c5].getD k 0)) s := hK
  exact W.vret hx hb hr (fun t ht9 hW => ⟨⟨((fun k => [h0, q1, q3, q5].getD k 0), (fun k => [c1, c3, c5].getD k 0)), rfl, rfl, by rw [ht9]; exact hP9, va_K.moved hW.alike hK9, hD9⟩, hS.F ht9⟩) hS.2.2 d_H_init_25

def kwK (ad : Nat → Nat) (ta : Nat → ClassId) : va_W := [
  ((ad 0), .inr (7, [.ref (ad 1), .ref (ad 2), .ref (ad 3)])),
  ((ad 1), .inl ((ta 0), 3, .inr (.inl (fun _ => 0)))),
  ((ad 2), .inl ((ta 1), 3, .inr (.inl (fun _ => 0)))),
  ((ad 3), .inl ((ta 2), 3, .inl (fun _ => 0)))]
def kwKt (ta : Nat → ClassId) : List (ClassId × FieldType) := [((ta 0), .long), ((ta 1), .long), ((ta 2), .int)]
abbrev rk_H3 : Room := { frames := 1, cells := 3, slots := 9, locals := 24 }

set_option maxHeartbeats 4000000 in
set_option maxRecDepth 100000 in
theorem mk_H3 (l : Launch) {D : va_G} {h0 sz : Nat} : Met l y_H_init (.code y_H_init b_H_init 2 none :: tw) rk_H3 (kP D [(h0, .inr (7, [.null, .null, .null]))] [.ref h0, .int (3 : Int32)] sz) (va_Qv (fun u : (Nat → Nat) × (Nat → ClassId) => u.1 0 = h0) (kB D (va_A [(h0, .inr (7, [.null, .null, .null]))] sz) kwK kwKt) (va_A [(h0, .inr (7, [.null, .null, .null]))] sz)) 3 9 (va_A [(h0, .inr (7, [.null, .null, .null]))] sz) := by
  refine Met.ofW (cc := b_H_init) (maxL := 2) (ret := none) (by decide) rfl ?_
  intro p e s m args below meth c s₁ B hml hv
  obtain ⟨rfl, hsz, hP, hK, hD0, hN⟩ := hv
  have hx := B.exec
  have hb := B.bytes
  have hr := B.returns
  have ht : ∀ w ∈ tw, w.before [.ref h0, .int (3 : Int32)].toArray s = true := fun w h => atoms_spec (ws := (.code y_H_init b_H_init 2 none :: tw)) B.pre w (List.mem_cons_of_mem _ h)
  have hown : s.vm.findClass R_H = some m.cls := findClass_of_methodNamed B.named
  have hlocks := B.notSynchronized
  have hin : meth.name = "<init>" := (name_of_methodNamed B.named B.method).1
  subst hsz
  have hD := hD0.self (sz := s.heap.size)
  generalize hAe : va_A [(h0, .inr (7, [.null, .null, .null]))] s.heap.size = A at hD ⊢
  have hA : ∀ q : Nat, s.heap.size ≤ q → A q := fun q h => by rw [← hAe]; exact Or.inr h
  have hS : va_S A s.heap s.heap [] := va_S.rf
  replace hP : va_P D clS [(h0, .inr (7, [.null, .null, .null]))] s.heap := hP
  have hl := lv_entry ([.ref h0, .int (3 : Int32)]) (n := 2) (Nat.le_of_ble_eq_true rfl)
  rw [lg_entry_eq]
  generalize (lg_sl ([.ref h0, .int (3 : Int32)]) ++ List.replicate (2 - (lg_sl ([.ref h0, .int (3 : Int32)])).length) Slot.unset).toArray = ls at hl ⊢
  replace hl : lv_has ls 2 [(0, .ref h0), (1, .int (3 : Int32))] := hl
  refine lv_aload_n hx hb d_H_init_0 rfl (lv_at hl 0 rfl) ?_
  refine W.objInit hx hb hown (ht _ wd_96) (ht _ wd_56) (ht _ wc_object) rfl (by rw [hml]; exact hl.1) rfl d_H_init_1 (Nat.le_of_ble_eq_true rfl) (Nat.le_of_ble_eq_true rfl) ?_
  refine W.eq (g2 := F0 m 4 ls []) rfl ?_
  refine lv_aload_n hx hb d_H_init_4 rfl (lv_at hl 0 rfl) ?_
  refine lv_iload_n hx hb d_H_init_5 rfl (lv_at hl 1 rfl) ?_
  refine va_newa (atype := .long) (a0 := (3, .inr (.inl (fun _ => 0)))) (ty := .long) (N' := 3) hx hb (ht _ wd_111) rfl hK hP hD hS hA (fun _ => rfl) (by decide) (by decide) (Nat.le_of_ble_eq_true rfl) (Nat.le_of_ble_eq_true rfl) (Nat.le_of_ble_eq_true rfl) d_H_init_6 (fun q1 c1 H1 hK hP hD hS => ?_)
  replace hK : va_K D clS [(c1, .long)] s := hK
  replace hP : va_P D clS [(h0, .inr (7, [.null, .null, .null])), (q1, .inl (c1, 3, .inr (.inl (fun _ => 0))))] H1 := hP
  replace hD : va_D A [(h0, .inr (7, [.null, .null, .null])), (q1, .inl (c1, 3, .inr (.inl (fun _ => 0))))] := hD
  refine va_putF (ci := 7) (v := .ref q1) (ty := .array .long) (C := R_H) (T := F_H) (N := 3) hx hb ht iw_H ft_H to_H nm_H hown hK hP hD hS 0 rfl rfl 0 (by decide) (ht _ wd_97) (fun _ h9 => h9) rfl hin rfl (by decide +kernel) rfl rfl (Nat.le_of_ble_eq_true rfl) d_H_init_8 (fun H2 locs hP hD hS => ?_)
  replace hP : va_P D clS [(h0, .inr (7, [.ref q1, .null, .null])), (q1, .inl (c1, 3, .inr (.inl (fun _ => 0))))] H2 := hP
  replace hD : va_D A [(h0, .inr (7, [.ref q1, .null, .null])), (q1, .inl (c1, 3, .inr (.inl (fun _ => 0))))] := hD
  refine lv_aload_n hx hb d_H_init_11 rfl (lv_at hl 0 rfl) ?_
  refine lv_iload_n hx hb d_H_init_12 rfl (lv_at hl 1 rfl) ?_
  refine va_newa (atype := .long) (a0 := (3, .inr (.inl (fun _ => 0)))) (ty := .long) (N' := 3) hx hb (ht _ wd_111) rfl hK hP hD hS hA (fun _ => rfl) (by decide) (by decide) (Nat.le_of_ble_eq_true rfl) (Nat.le_of_ble_eq_true rfl) (Nat.le_of_ble_eq_true rfl) d_H_init_13 (fun q3 c3 H3 hK hP hD hS => ?_)
  replace hK : va_K D clS [(c1, .long), (c3, .long)] s := hK
  replace hP : va_P D clS [(h0, .inr (7, [.ref q1, .null, .null])), (q1, .inl (c1, 3, .inr (.inl (fun _ => 0)))), (q3, .inl (c3, 3, .inr (.inl (fun _ => 0))))] H3 := hP
  replace hD : va_D A [(h0, .inr (7, [.ref q1, .null, .null])), (q1, .inl (c1, 3, .inr (.inl (fun _ => 0)))), (q3, .inl (c3, 3, .inr (.inl (fun _ => 0))))] := hD
  refine va_putF (ci := 7) (v := .ref q3) (ty := .array .long) (C := R_H) (T := F_H) (N := 3) hx hb ht iw_H ft_H to_H nm_H hown hK hP hD hS 0 rfl rfl 1 (by decide) (ht _ wd_100) (fun _ h9 => h9) rfl hin rfl (by decide +kernel) rfl rfl (Nat.le_of_ble_eq_true rfl) d_H_init_15 (fun H4 locs hP hD hS => ?_)
  replace hP : va_P D clS [(h0, .inr (7, [.ref q1, .ref q3, .null])), (q1, .inl (c1, 3, .inr (.inl (fun _ => 0)))), (q3, .inl (c3, 3, .inr (.inl (fun _ => 0))))] H4 := hP
  replace hD : va_D A [(h0, .inr (7, [.ref q1, .ref q3, .null])), (q1, .inl (c1, 3, .inr (.inl (fun _ => 0)))), (q3, .inl (c3, 3, .inr (.inl (fun _ => 0))))] := hD
  refine lv_aload_n hx hb d_H_init_18 rfl (lv_at hl 0 rfl) ?_
  refine lv_iload_n hx hb d_H_init_19 rfl (lv_at hl 1 rfl) ?_
  refine va_newa (atype := .int) (a0 := (3, .inl (fun _ => 0))) (ty := .int) (N' := 3) hx hb (ht _ wd_84) rfl hK hP hD hS hA (fun _ => rfl) (by decide) (by decide) (Nat.le_of_ble_eq_true rfl) (Nat.le_of_ble_eq_true rfl) (Nat.le_of_ble_eq_true rfl) d_H_init_20 (fun q5 c5 H5 hK hP hD hS => ?_)
  replace hK : va_K D clS [(c1, .long), (c3, .long), (c5, .int)] s := hK
  replace hP : va_P D clS [(h0, .inr (7, [.ref q1, .ref q3, .null])), (q1, .inl (c1, 3, .inr (.inl (fun _ => 0)))), (q3, .inl (c3, 3, .inr (.inl (fun _ => 0)))), (q5, .inl (c5, 3, .inl (fun _ => 0)))] H5 := hP
  replace hD : va_D A [(h0, .inr (7, [.ref q1, .ref q3, .null])), (q1, .inl (c1, 3, .inr (.inl (fun _ => 0)))), (q3, .inl (c3, 3, .inr (.inl (fun _ => 0)))), (q5, .inl (c5, 3, .inl (fun _ => 0)))] := hD
  refine va_putF (ci := 7) (v := .ref q5) (ty := .array .int) (C := R_H) (T := F_H) (N := 3) hx hb ht iw_H ft_H to_H nm_H hown hK hP hD hS 0 rfl rfl 2 (by decide) (ht _ wd_101) (fun _ h9 => h9) rfl hin rfl (by decide +kernel) rfl rfl (Nat.le_of_ble_eq_true rfl) d_H_init_22 (fun H6 locs hP hD hS => ?_)
  replace hP : va_P D clS [(h0, .inr (7, [.ref q1, .ref q3, .ref q5])), (q1, .inl (c1, 3, .inr (.inl (fun _ => 0)))), (q3, .inl (c3, 3, .inr (.inl (fun _ => 0)))), (q5, .inl (c5, 3, .inl (fun _ => 0)))] H6 := hP
  replace hD : va_D A [(h0, .inr (7, [.ref q1, .ref q3, .ref q5])), (q1, .inl (c1, 3, .inr (.inl (fun _ => 0)))), (q3, .inl (c3, 3, .inr (.inl (fun _ => 0)))), (q5, .inl (c5, 3, .inl (fun _ => 0)))] := hD
  have hP9 : va_P D clS (kwK (fun k => [h0, q1, q3, q5].getD k 0) (fun k => [c1, c3, c5].getD k 0)) H6 := hP
  have hD9 : va_D A (kwK (fun k => [h0, q1, q3, q5].getD k 0) (fun k => [c1, c3, c5].getD k 0)) := hD
  have hK9 : va_K D clS (kwKt (fun k => [c1, c3, c5].getD k 0)) s := hK
  exact W.vret hx hb hr (fun t ht9 hW => ⟨⟨((fun k => [h0, q1, q3, q5].getD k 0), (fun k => [c1, c3, c5].getD k 0)), rfl, rfl, by rw [ht9]; exact hP9, va_K.moved hW.alike hK9, hD9⟩, hS.F ht9⟩) hS.2.2 d_H_init_25

def kwB (ad : Nat → Nat) (ta : Nat → ClassId) : va_W := [
  ((ad 0), .inr (2, [.ref (ad 1), .ref (ad 2), .ref (ad 3), .ref (ad 4)])),
  ((ad 1), .inl ((ta 0), 36, .inl (fun _ => (1 : Int32)))),
  ((ad 2), .inl ((ta 1), 36, .inl (fun _ => 0))),
  ((ad 3), .inl ((ta 2), 6, .inl (fun _ => ((-1) : Int32)))),
  ((ad 4), .inr (7, [.ref (ad 5), .ref (ad 6), .ref (ad 7)])),
  ((ad 5), .inl ((ta 3), 6, .inr (.inl (fun _ => 0)))),
  ((ad 6), .inl ((ta 4), 6, .inr (.inl (fun _ => 0)))),
  ((ad 7), .inl ((ta 5), 6, .inl (fun _ => 0)))]
def kwBt (ta : Nat → ClassId) : List (ClassId × FieldType) := [((ta 0), .int), ((ta 1), .int), ((ta 2), .int), ((ta 3), .long), ((ta 4), .long), ((ta 5), .int)]
abbrev rk_B : Room := { frames := 2, cells := 7, slots := 99, locals := 45 }

set_option maxHeartbeats 4000000 in
set_option maxRecDepth 100000 in
theorem mk_B (l : Launch) {D : va_G} {h0 sz : Nat} : Met l y_B_init (.code y_B_init b_B_init 1 none :: tw) rk_B (kP D [(h0, .inr (2, [.null, .null, .null, .null]))] [.ref h0] sz) (va_Qv (fun u : (Nat → Nat) × (Nat → ClassId) => u.1 0 = h0) (kB D (va_A [(h0, .inr (2, [.null, .null, .null, .null]))] sz) kwB kwBt) (va_A [(h0, .inr (2, [.null, .null, .null, .null]))] sz)) 7 99 (va_A [(h0, .inr (2, [.null, .null, .null, .null]))] sz) := by
  refine Met.ofW (cc := b_B_init) (maxL := 1) (ret := none) (by decide) rfl ?_
  intro p e s m args below meth c s₁ B hml hv
  obtain ⟨rfl, hsz, hP, hK, hD0, hN⟩ := hv
  have hx := B.exec
  have hb := B.bytes
  have hr := B.returns
  have ht : ∀ w ∈ tw, w.before [.ref h0].toArray s = true := fun w h => atoms_spec (ws := (.code y_B_init b_B_init 1 none :: tw)) B.pre w (List.mem_cons_of_mem _ h)
  have hown : s.vm.findClass R_B = some m.cls := findClass_of_methodNamed B.named
  have hlocks := B.notSynchronized
  have hin : meth.name = "<init>" := (name_of_methodNamed B.named B.method).1
  subst hsz
  have hD := hD0.self (sz := s.heap.size)
  generalize hAe : va_A [(h0, .inr (2, [.null, .null, .null, .null]))] s.heap.size = A at hD ⊢
  have hA : ∀ q : Nat, s.heap.size ≤ q → A q := fun q h => by rw [← hAe]; exact Or.inr h
  have hS : va_S A s.heap s.heap [] := va_S.rf
  replace hP : va_P D clS [(h0, .inr (2, [.null, .null, .null, .null]))] s.heap := hP
  have hl := lv_entry ([.ref h0]) (n := 1) (Nat.le_of_ble_eq_true rfl)
  rw [lg_entry_eq]
  generalize (lg_sl ([.ref h0]) ++ List.replicate (1 - (lg_sl ([.ref h0])).length) Slot.unset).toArray = ls at hl ⊢
  replace hl : lv_has ls 1 [(0, .ref h0)] := hl
  refine lv_aload_n hx hb d_B_init_0 rfl (lv_at hl 0 rfl) ?_
  refine W.objInit hx hb hown (ht _ wd_90) (ht _ wd_56) (ht _ wc_object) rfl (by rw [hml]; exact hl.1) rfl d_B_init_1 (Nat.le_of_ble_eq_true rfl) (Nat.le_of_ble_eq_true rfl) ?_
  refine W.eq (g2 := F0 m 4 ls []) rfl ?_
  refine lv_aload_n hx hb d_B_init_4 rfl (lv_at hl 0 rfl) ?_
  refine lv_bipush (v := (36 : Int32)) hx hb d_B_init_5 (by decide) ?_
  refine va_newa (atype := .int) (a0 := (36, .inl (fun _ => 0))) (ty := .int) (N' := 36) hx hb (ht _ wd_84) rfl hK hP hD hS hA (fun _ => rfl) (by decide) (by decide) (Nat.le_of_ble_eq_true rfl) (Nat.le_of_ble_eq_true rfl) (Nat.le_of_ble_eq_true rfl) d_B_init_7 (fun q1 c1 H1 hK hP hD hS => ?_)
  replace hK : va_K D clS [(c1, .int)] s := hK
  replace hP : va_P D clS [(h0, .inr (2, [.null, .null, .null, .null])), (q1, .inl (c1, 36, .inl (fun _ => 0)))] H1 := hP
  replace hD : va_D A [(h0, .inr (2, [.null, .null, .null, .null])), (q1, .inl (c1, 36, .inl (fun _ => 0)))] := hD
  refine va_putF (ci := 2) (v := .ref q1) (ty := .array .int) (C := R_B) (T := F_B) (N := 4) hx hb ht iw_B ft_B to_B nm_B hown hK hP hD hS 0 rfl rfl 0 (by decide) (ht _ wd_115) (fun _ h9 => h9) rfl hin rfl (by decide +kernel) rfl rfl (Nat.le_of_ble_eq_true rfl) d_B_init_9 (fun H2 locs hP hD hS => ?_)
  replace hP : va_P D clS [(h0, .inr (2, [.ref q1, .null, .null, .null])), (q1, .inl (c1, 36, .inl (fun _ => 0)))] H2 := hP
  replace hD : va_D A [(h0, .inr (2, [.ref q1, .null, .null, .null])), (q1, .inl (c1, 36, .inl (fun _ => 0)))] := hD
  refine lv_aload_n hx hb d_B_init_12 rfl (lv_at hl 0 rfl) ?_
  refine lv_bipush (v := (36 : Int32)) hx hb d_B_init_13 (by decide) ?_
  refine va_newa (atype := .int) (a0 := (36, .inl (fun _ => 0))) (ty := .int) (N' := 36) hx hb (ht _ wd_84) rfl hK hP hD hS hA (fun _ => rfl) (by decide) (by decide) (Nat.le_of_ble_eq_true rfl) (Nat.le_of_ble_eq_true rfl) (Nat.le_of_ble_eq_true rfl) d_B_init_15 (fun q3 c3 H3 hK hP hD hS => ?_)
  replace hK : va_K D clS [(c1, .int), (c3, .int)] s := hK
  replace hP : va_P D clS [(h0, .inr (2, [.ref q1, .null, .null, .null])), (q1, .inl (c1, 36, .inl (fun _ => 0))), (q3, .inl (c3, 36, .inl (fun _ => 0)))] H3 := hP
  replace hD : va_D A [(h0, .inr (2, [.ref q1, .null, .null, .null])), (q1, .inl (c1, 36, .inl (fun _ => 0))), (q3, .inl (c3, 36, .inl (fun _ => 0)))] := hD
  refine va_putF (ci := 2) (v := .ref q3) (ty := .array .int) (C := R_B) (T := F_B) (N := 4) hx hb ht iw_B ft_B to_B nm_B hown hK hP hD hS 0 rfl rfl 1 (by decide) (ht _ wd_117) (fun _ h9 => h9) rfl hin rfl (by decide +kernel) rfl rfl (Nat.le_of_ble_eq_true rfl) d_B_init_17 (fun H4 locs hP hD hS => ?_)
  replace hP : va_P D clS [(h0, .inr (2, [.ref q1, .ref q3, .null, .null])), (q1, .inl (c1, 36, .inl (fun _ => 0))), (q3, .inl (c3, 36, .inl (fun _ => 0)))] H4 := hP
  replace hD : va_D A [(h0, .inr (2, [.ref q1, .ref q3, .null, .null])), (q1, .inl (c1, 36, .inl (fun _ => 0))), (q3, .inl (c3, 36, .inl (fun _ => 0)))] := hD
  refine lv_aload_n hx hb d_B_init_20 rfl (lv_at hl 0 rfl) ?_
  refine lv_bipush (v := (6 : Int32)) hx hb d_B_init_21 (by decide) ?_
  refine va_newa (atype := .int) (a0 := (6, .inl (fun _ => 0))) (ty := .int) (N' := 6) hx hb (ht _ wd_84) rfl hK hP hD hS hA (fun _ => rfl) (by decide) (by decide) (Nat.le_of_ble_eq_true rfl) (Nat.le_of_ble_eq_true rfl) (Nat.le_of_ble_eq_true rfl) d_B_init_23 (fun q5 c5 H5 hK hP hD hS => ?_)
  replace hK : va_K D clS [(c1, .int), (c3, .int), (c5, .int)] s := hK
  replace hP : va_P D clS [(h0, .inr (2, [.ref q1, .ref q3, .null, .null])), (q1, .inl (c1, 36, .inl (fun _ => 0))), (q3, .inl (c3, 36, .inl (fun _ => 0))), (q5, .inl (c5, 6, .inl (fun _ => 0)))] H5 := hP
  replace hD : va_D A [(h0, .inr (2, [.ref q1, .ref q3, .null, .null])), (q1, .inl (c1, 36, .inl (fun _ => 0))), (q3, .inl (c3, 36, .inl (fun _ => 0))), (q5, .inl (c5, 6, .inl (fun _ => 0)))] := hD
  refine va_putF (ci := 2) (v := .ref q5) (ty := .array .int) (C := R_B) (T := F_B) (N := 4) hx hb ht iw_B ft_B to_B nm_B hown hK hP hD hS 0 rfl rfl 2 (by decide) (ht _ wd_119) (fun _ h9 => h9) rfl hin rfl (by decide +kernel) rfl rfl (Nat.le_of_ble_eq_true rfl) d_B_init_25 (fun H6 locs hP hD hS => ?_)
  replace hP : va_P D clS [(h0, .inr (2, [.ref q1, .ref q3, .ref q5, .null])), (q1, .inl (c1, 36, .inl (fun _ => 0))), (q3, .inl (c3, 36, .inl (fun _ => 0))), (q5, .inl (c5, 6, .inl (fun _ => 0)))] H6 := hP
  replace hD : va_D A [(h0, .inr (2, [.ref q1, .ref q3, .ref q5, .null])), (q1, .inl (c1, 36, .inl (fun _ => 0))), (q3, .inl (c3, 36, .inl (fun _ => 0))), (q5, .inl (c5, 6, .inl (fun _ => 0)))] := hD
  refine lv_aload_n hx hb d_B_init_28 rfl (lv_at hl 0 rfl) ?_
  refine va_new (ci := 7) (fs := [.null, .null, .null]) (C := R_H) (T := F_H) (N := 3) hx hb ht iw_H ft_H to_H hown (ht _ wd_91) (ht _ wd_92) (ht _ wd_37) hK hP hD hS hA rfl (by decide) (Nat.le_of_ble_eq_true rfl) (Nat.le_of_ble_eq_true rfl) d_B_init_29 (fun q7 H7 hP hD hS => ?_)
  replace hP : va_P D clS [(h0, .inr (2, [.ref q1, .ref q3, .ref q5, .null])), (q1, .inl (c1, 36, .inl (fun _ => 0))), (q3, .inl (c3, 36, .inl (fun _ => 0))), (q5, .inl (c5, 6, .inl (fun _ => 0))), (q7, .inr (7, [.null, .null, .null]))] H7 := hP
  replace hD : va_D A [(h0, .inr (2, [.ref q1, .ref q3, .ref q5, .null])), (q1, .inl (c1, 36, .inl (fun _ => 0))), (q3, .inl (c3, 36, .inl (fun _ => 0))), (q5, .inl (c5, 6, .inl (fun _ => 0))), (q7, .inr (7, [.null, .null, .null]))] := hD
  refine lv_dup hx hb d_B_init_32 rfl ?_
  refine lv_bipush (v := (6 : Int32)) hx hb d_B_init_33 (by decide) ?_
  have hPc := hP.sub (ws' := [(q7, .inr (7, [.null, .null, .null]))]) [4] rfl
  have hDc := hD.sub (ws' := [(q7, .inr (7, [.null, .null, .null]))]) [4] (by decide) rfl
  have hKc := hK.sub (tys' := []) [] rfl
  have hFc := va_free (wc := [(q7, .inr (7, [.null, .null, .null]))]) hD hS hA [4] rfl
  refine va_callv (va_runI (As := [.int (6 : Int32)]) (rest := [.ref q7, .ref h0]) ⟨hx, hb, hml, hown, ht⟩ (mk_H6 l (D := D) (h0 := q7) (sz := H7.size)) ⟨callB_of 1 ht (tw_G wc_H_init) rfl rfl rfl (ht _ wd_37) (ht _ wd_93) (by decide +kernel) ⟨(Nat.le_of_ble_eq_true rfl), (Nat.le_of_ble_eq_true rfl)⟩, rfl, ht _ wd_94⟩ ⟨kP_blind, fun U hU hW => ⟨rfl, by rw [hU], by rw [hU]; exact hPc, va_K.moved hW.alike hKc, hDc.weaken (fun _ _ _ _ => trivial), tW_warm hW hN⟩⟩ rfl rfl hl.1 rfl (lv_room (Nat.le_of_ble_eq_true rfl)) d_B_init_35 ⟨(Nat.le_of_ble_eq_true rfl), (Nat.le_of_ble_eq_true rfl)⟩) hS (fun q _ h => hFc q h) hFc (fun u8 t8 H8 locs hth hvm hw hB hz1 hk1 hS => ?_)
  obtain ⟨aH6, dH6⟩ := u8
  obtain ⟨hP1, hK1, hD1⟩ := hB
  rw [hth] at hP1
  have hK1 := va_K.moved hvm.symm hK1
  replace hw : aH6 0 = q7 := hw
  subst hw
  obtain ⟨hP, hD⟩ := va_join (wr := [(h0, .inr (2, [.ref q1, .ref q3, .ref q5, .null])), (q1, .inl (c1, 36, .inl (fun _ => 0))), (q3, .inl (c3, 36, .inl (fun _ => 0))), (q5, .inl (c5, 6, .inl (fun _ => 0)))]) (w1 := kwG aH6 dH6) hP hD [4] [0, 1, 2, 3] rfl rfl (by decide) (by decide) hk1 hFc hP1 hD1
  have hK := hK.app hK1
  replace hK : va_K D clS [(c1, .int), (c3, .int), (c5, .int), ((dH6 0), .long), ((dH6 1), .long), ((dH6 2), .int)] s := hK
  replace hP : va_P D clS [(h0, .inr (2, [.ref q1, .ref q3, .ref q5, .null])), (q1, .inl (c1, 36, .inl (fun _ => 0))), (q3, .inl (c3, 36, .inl (fun _ => 0))), (q5, .inl (c5, 6, .inl (fun _ => 0))), ((aH6 0), .inr (7, [.ref (aH6 1), .ref (aH6 2), .ref (aH6 3)])), ((aH6 1), .inl ((dH6 0), 6, .inr (.inl (fun _ => 0)))), ((aH6 2), .inl ((dH6 1), 6, .inr (.inl (fun _ => 0)))), ((aH6 3), .inl ((dH6 2), 6, .inl (fun _ => 0)))] H8 := hP
  replace hD : va_D A [(h0, .inr (2, [.ref q1, .ref q3, .ref q5, .null])), (q1, .inl (c1, 36, .inl (fun _ => 0))), (q3, .inl (c3, 36, .inl (fun _ => 0))), (q5, .inl (c5, 6, .inl (fun _ => 0))), ((aH6 0), .inr (7, [.ref (aH6 1), .ref (aH6 2), .ref (aH6 3)])), ((aH6 1), .inl ((dH6 0), 6, .inr (.inl (fun _ => 0)))), ((aH6 2), .inl ((dH6 1), 6, .inr (.inl (fun _ => 0)))), ((aH6 3), .inl ((dH6 2), 6, .inl (fun _ => 0)))] := hD
  refine va_putF (ci := 2) (v := .ref (aH6 0)) (ty := .object "TripRounds$Sharing") (C := R_B) (T := F_B) (N := 4) hx hb ht iw_B ft_B to_B nm_B hown hK hP hD hS 0 rfl rfl 3 (by decide) (ht _ wd_121) (fun _ h9 => h9) rfl hin rfl (by decide +kernel) rfl rfl (Nat.le_of_ble_eq_true rfl) d_B_init_38 (fun H9 locs hP hD hS => ?_)
  replace hP : va_P D clS [(h0, .inr (2, [.ref q1, .ref q3, .ref q5, .ref (aH6 0)])), (q1, .inl (c1, 36, .inl (fun _ => 0))), (q3, .inl (c3, 36, .inl (fun _ => 0))), (q5, .inl (c5, 6, .inl (fun _ => 0))), ((aH6 0), .inr (7, [.ref (aH6 1), .ref (aH6 2), .ref (aH6 3)])), ((aH6 1), .inl ((dH6 0), 6, .inr (.inl (fun _ => 0)))), ((aH6 2), .inl ((dH6 1), 6, .inr (.inl (fun _ => 0)))), ((aH6 3), .inl ((dH6 2), 6, .inl (fun _ => 0)))] H9 := hP
  replace hD : va_D A [(h0, .inr (2, [.ref q1, .ref q3, .ref q5, .ref (aH6 0)])), (q1, .inl (c1, 36, .inl (fun _ => 0))), (q3, .inl (c3, 36, .inl (fun _ => 0))), (q5, .inl (c5, 6, .inl (fun _ => 0))), ((aH6 0), .inr (7, [.ref (aH6 1), .ref (aH6 2), .ref (aH6 3)])), ((aH6 1), .inl ((dH6 0), 6, .inr (.inl (fun _ => 0)))), ((aH6 2), .inl ((dH6 1), 6, .inr (.inl (fun _ => 0)))), ((aH6 3), .inl ((dH6 2), 6, .inl (fun _ => 0)))] := hD
  refine lv_aload_n hx hb d_B_init_41 rfl (lv_at hl 0 rfl) ?_
  refine va_get (ci := 2) (v := .ref q1) (C := R_B) (T := F_B) (N := 4) hx hb ht iw_B hown hK hP 0 rfl rfl 0 (by decide) (ht _ wd_115) (fun _ h9 => h9) rfl d_B_init_42 ?_
  refine lv_iconst (v := (1 : Int32)) hx hb d_B_init_45 (by decide) ?_
  refine tr_fillI (f := (fun _ => 0)) ⟨hx, hb, hml, hown, ht⟩ ⟨(tw_cb (n := 2) ht wf_I wd_38 wd_112 ⟨rfl, rfl⟩ (by decide +kernel) ⟨(Nat.le_of_ble_eq_true rfl), (Nat.le_of_ble_eq_true rfl)⟩), ht _ wd_113⟩ hK hN hP hD hS 1 0 rfl rfl (by decide) hl.1 (lv_room (Nat.le_of_ble_eq_true rfl)) d_B_init_46 (fun H10 locs hP hS => ?_) ⟨(Nat.le_of_ble_eq_true rfl), (Nat.le_of_ble_eq_true rfl)⟩
  replace hP : va_P D clS [(h0, .inr (2, [.ref q1, .ref q3, .ref q5, .ref (aH6 0)])), (q1, .inl (c1, 36, .inl (fun _ => (1 : Int32)))), (q3, .inl (c3, 36, .inl (fun _ => 0))), (q5, .inl (c5, 6, .inl (fun _ => 0))), ((aH6 0), .inr (7, [.ref (aH6 1), .ref (aH6 2), .ref (aH6 3)])), ((aH6 1), .inl ((dH6 0), 6, .inr (.inl (fun _ => 0)))), ((aH6 2), .inl ((dH6 1), 6, .inr (.inl (fun _ => 0)))), ((aH6 3), .inl ((dH6 2), 6, .inl (fun _ => 0)))] H10 := hP
  replace hD : va_D A [(h0, .inr (2, [.ref q1, .ref q3, .ref q5, .ref (aH6 0)])), (q1, .inl (c1, 36, .inl (fun _ => (1 : Int32)))), (q3, .inl (c3, 36, .inl (fun _ => 0))), (q5, .inl (c5, 6, .inl (fun _ => 0))), ((aH6 0), .inr (7, [.ref (aH6 1), .ref (aH6 2), .ref (aH6 3)])), ((aH6 1), .inl ((dH6 0), 6, .inr (.inl (fun _ => 0)))), ((aH6 2), .inl ((dH6 1), 6, .inr (.inl (fun _ => 0)))), ((aH6 3), .inl ((dH6 2), 6, .inl (fun _ => 0)))] := hD.set (p := 1) rfl
  refine lv_aload_n hx hb d_B_init_49 rfl (lv_at hl 0 rfl) ?_
  refine va_get (ci := 2) (v := .ref q5) (C := R_B) (T := F_B) (N := 4) hx hb ht iw_B hown hK hP 0 rfl rfl 2 (by decide) (ht _ wd_119) (fun _ h9 => h9) rfl d_B_init_50 ?_
  refine lv_iconst (v := ((-1) : Int32)) hx hb d_B_init_53 (by decide) ?_
  refine tr_fillI (f := (fun _ => 0)) ⟨hx, hb, hml, hown, ht⟩ ⟨(tw_cb (n := 2) ht wf_I wd_38 wd_112 ⟨rfl, rfl⟩ (by decide +kernel) ⟨(Nat.le_of_ble_eq_true rfl), (Nat.le_of_ble_eq_true rfl)⟩), ht _ wd_113⟩ hK hN hP hD hS 3 2 rfl rfl (by decide) hl.1 (lv_room (Nat.le_of_ble_eq_true rfl)) d_B_init_54 (fun H11 locs hP hS => ?_) ⟨(Nat.le_of_ble_eq_true rfl), (Nat.le_of_ble_eq_true rfl)⟩
  replace hP : va_P D clS [(h0, .inr (2, [.ref q1, .ref q3, .ref q5, .ref (aH6 0)])), (q1, .inl (c1, 36, .inl (fun _ => (1 : Int32)))), (q3, .inl (c3, 36, .inl (fun _ => 0))), (q5, .inl (c5, 6, .inl (fun _ => ((-1) : Int32)))), ((aH6 0), .inr (7, [.ref (aH6 1), .ref (aH6 2), .ref (aH6 3)])), ((aH6 1), .inl ((dH6 0), 6, .inr (.inl (fun _ => 0)))), ((aH6 2), .inl ((dH6 1), 6, .inr (.inl (fun _ => 0)))), ((aH6 3), .inl ((dH6 2), 6, .inl (fun _ => 0)))] H11 := hP
  replace hD : va_D A [(h0, .inr (2, [.ref q1, .ref q3, .ref q5, .ref (aH6 0)])), (q1, .inl (c1, 36, .inl (fun _ => (1 : Int32)))), (q3, .inl (c3, 36, .inl (fun _ => 0))), (q5, .inl (c5, 6, .inl (fun _ => ((-1) : Int32)))), ((aH6 0), .inr (7, [.ref (aH6 1), .ref (aH6 2), .ref (aH6 3)])), ((aH6 1), .inl ((dH6 0), 6, .inr (.inl (fun _ => 0)))), ((aH6 2), .inl ((dH6 1), 6, .inr (.inl (fun _ => 0)))), ((aH6 3), .inl ((dH6 2), 6, .inl (fun _ => 0)))] := hD.set (p := 3) rfl
  have hP9 : va_P D clS (kwB (fun k => [h0, q1, q3, q5, (aH6 0), (aH6 1), (aH6 2), (aH6 3)].getD k 0) (fun k => [c1, c3, c5, (dH6 0), (dH6 1), (dH6 2)].getD k 0)) H11 := hP
  have hD9 : va_D A (kwB (fun k => [h0, q1, q3, q5, (aH6 0), (aH6 1), (aH6 2), (aH6 3)].getD k 0) (fun k => [c1, c3, c5, (dH6 0), (dH6 1), (dH6 2)].getD k 0)) := hD
  have hK9 : va_K D clS (kwBt (fun k => [c1, c3, c5, (dH6 0), (dH6 1), (dH6 2)].getD k 0)) s := hK
  exact W.vret hx hb hr (fun t ht9 hW => ⟨⟨((fun k => [h0, q1, q3, q5, (aH6 0), (aH6 1), (aH6 2), (aH6 3)].getD k 0), (fun k => [c1, c3, c5, (dH6 0), (dH6 1), (dH6 2)].getD k 0)), rfl, rfl, by rw [ht9]; exact hP9, va_K.moved hW.alike hK9, hD9⟩, hS.F ht9⟩) hS.2.2 d_B_init_57

def kwS (ad : Nat → Nat) (ta : Nat → ClassId) : va_W := [
  ((ad 0), .inr (4, [.int (0 : Int32), .ref (ad 1), .ref (ad 2), .ref (ad 3), .ref (ad 4), .ref (ad 5), .ref (ad 6), .ref (ad 7), .ref (ad 8), .ref (ad 9)])),
  ((ad 1), .inl ((ta 0), 40, .inl (fun _ => 0))),
  ((ad 2), .inl ((ta 1), 40, .inl (fun _ => 0))),
  ((ad 3), .inl ((ta 2), 40, .inl (fun _ => 0))),
  ((ad 4), .inl ((ta 3), 40, .inl (fun _ => 0))),
  ((ad 5), .inl ((ta 4), 40, .inl (fun _ => (1 : Int32)))),
  ((ad 6), .inl ((ta 5), 40, .inl (fun _ => 0))),
  ((ad 7), .inl ((ta 6), 40, .inl (fun _ => 0))),
  ((ad 8), .inl ((ta 7), 40, .inl (fun _ => ((-1) : Int32)))),
  ((ad 9), .inl ((ta 8), 40, .inl (fun _ => 0)))]
def kwSt (ta : Nat → ClassId) : List (ClassId × FieldType) := [((ta 0), .int), ((ta 1), .int), ((ta 2), .int), ((ta 3), .int), ((ta 4), .int), ((ta 5), .int), ((ta 6), .boolean), ((ta 7), .int), ((ta 8), .int)]
abbrev rk_S : Room := { frames := 1, cells := 9, slots := 360, locals := 24 }

set_option maxHeartbeats 4000000 in
set_option maxRecDepth 100000 in
theorem mk_S (l : Launch) {D : va_G} {h0 sz : Nat} : Met l y_S_init (.code y_S_init b_S_init 1 none :: tw) rk_S (kP D [(h0, .inr (4, [.int 0, .null, .null, .null, .null, .null, .null, .null, .null, .null]))] [.ref h0] sz) (va_Qv (fun u : (Nat → Nat) × (Nat → ClassId) => u.1 0 = h0) (kB D (va_A [(h0, .inr (4, [.int 0, .null, .null, .null, .null, .null, .null, .null, .null, .null]))] sz) kwS kwSt) (va_A [(h0, .inr (4, [.int 0, .null, .null, .null, .null, .null, .null, .null, .null, .null]))] sz)) 9 360 (va_A [(h0, .inr (4, [.int 0, .null, .null, .null, .null, .null, .null, .null, .null, .null]))] sz) := by
  refine Met.ofW (cc := b_S_init) (maxL := 1) (ret := none) (by decide) rfl ?_
  intro p e s m args below meth c s₁ B hml hv
  obtain ⟨rfl, hsz, hP, hK, hD0, hN⟩ := hv
  have hx := B.exec
  have hb := B.bytes
  have hr := B.returns
  have ht : ∀ w ∈ tw, w.before [.ref h0].toArray s = true := fun w h => atoms_spec (ws := (.code y_S_init b_S_init 1 none :: tw)) B.pre w (List.mem_cons_of_mem _ h)
  have hown : s.vm.findClass R_S = some m.cls := findClass_of_methodNamed B.named
  have hlocks := B.notSynchronized
  have hin : meth.name = "<init>" := (name_of_methodNamed B.named B.method).1
  subst hsz
  have hD := hD0.self (sz := s.heap.size)
  generalize hAe : va_A [(h0, .inr (4, [.int 0, .null, .null, .null, .null, .null, .null, .null, .null, .null]))] s.heap.size = A at hD ⊢
  have hA : ∀ q : Nat, s.heap.size ≤ q → A q := fun q h => by rw [← hAe]; exact Or.inr h
  have hS : va_S A s.heap s.heap [] := va_S.rf
  replace hP : va_P D clS [(h0, .inr (4, [.int 0, .null, .null, .null, .null, .null, .null, .null, .null, .null]))] s.heap := hP
  have hl := lv_entry ([.ref h0]) (n := 1) (Nat.le_of_ble_eq_true rfl)
  rw [lg_entry_eq]
  generalize (lg_sl ([.ref h0]) ++ List.replicate (1 - (lg_sl ([.ref h0])).length) Slot.unset).toArray = ls at hl ⊢
  replace hl : lv_has ls 1 [(0, .ref h0)] := hl
  refine lv_aload_n hx hb d_S_init_0 rfl (lv_at hl 0 rfl) ?_
  refine W.objInit hx hb hown (ht _ wd_155) (ht _ wd_56) (ht _ wc_object) rfl (by rw [hml]; exact hl.1) rfl d_S_init_1 (Nat.le_of_ble_eq_true rfl) (Nat.le_of_ble_eq_true rfl) ?_
  refine W.eq (g2 := F0 m 4 ls []) rfl ?_
  refine lv_aload_n hx hb d_S_init_4 rfl (lv_at hl 0 rfl) ?_
  refine lv_iconst (v := (0 : Int32)) hx hb d_S_init_5 (by decide) ?_
  refine va_put (ci := 4) (v := .int (0 : Int32)) (ty := .int) (C := R_S) (T := F_S) (N := 10) hx hb ht iw_S ft_S to_S nm_S hown hK hP hD hS 0 rfl rfl 0 (by decide) (ht _ wd_157) (fun _ h9 => h9) rfl (by decide +kernel) rfl rfl (Nat.le_of_ble_eq_true rfl) d_S_init_6 (fun H1 locs hP hD hS => ?_)
  replace hP : va_P D clS [(h0, .inr (4, [.int (0 : Int32), .null, .null, .null, .null, .null, .null, .null, .null, .null]))] H1 := hP
  replace hD : va_D A [(h0, .inr (4, [.int (0 : Int32), .null, .null, .null, .null, .null, .null, .null, .null, .null]))] := hD
  refine lv_aload_n hx hb d_S_init_9 rfl (lv_at hl 0 rfl) ?_
  refine lv_bipush (v := (40 : Int32)) hx hb d_S_init_10 (by decide) ?_
  refine va_newa (atype := .int) (a0 := (40, .inl (fun _ => 0))) (ty := .int) (N' := 40) hx hb (ht _ wd_84) rfl hK hP hD hS hA (fun _ => rfl) (by decide) (by decide) (Nat.le_of_ble_eq_true rfl) (Nat.le_of_ble_eq_true rfl) (Nat.le_of_ble_eq_true rfl) d_S_init_12 (fun q2 c2 H2 hK hP hD hS => ?_)
  replace hK : va_K D clS [(c2, .int)] s := hK
  replace hP : va_P D clS [(h0, .inr (4, [.int (0 : Int32), .null, .null, .null, .null, .null, .null, .null, .null, .null])), (q2, .inl (c2, 40, .inl (fun _ => 0)))] H2 := hP
  replace hD : va_D A [(h0, .inr (4, [.int (0 : Int32), .null, .null, .null, .null, .null, .null, .null, .null, .null])), (q2, .inl (c2, 40, .inl (fun _ => 0)))] := hD
  refine va_putF (ci := 4) (v := .ref q2) (ty := .array .int) (C := R_S) (T := F_S) (N := 10) hx hb ht iw_S ft_S to_S nm_S hown hK hP hD hS 0 rfl rfl 1 (by decide) (ht _ wd_160) (fun _ h9 => h9) rfl hin rfl (by decide +kernel) rfl rfl (Nat.le_of_ble_eq_true rfl) d_S_init_14 (fun H3 locs hP hD hS => ?_)
  replace hP : va_P D clS [(h0, .inr (4, [.int (0 : Int32), .ref q2, .null, .null, .null, .null, .null, .null, .null, .null])), (q2, .inl (c2, 40, .inl (fun _ => 0)))] H3 := hP
  replace hD : va_D A [(h0, .inr (4, [.int (0 : Int32), .ref q2, .null, .null, .null, .null, .null, .null, .null, .null])), (q2, .inl (c2, 40, .inl (fun _ => 0)))] := hD
  refine lv_aload_n hx hb d_S_init_17 rfl (lv_at hl 0 rfl) ?_
  refine lv_bipush (v := (40 : Int32)) hx hb d_S_init_18 (by decide) ?_
  refine va_newa (atype := .int) (a0 := (40, .inl (fun _ => 0))) (ty := .int) (N' := 40) hx hb (ht _ wd_84) rfl hK hP hD hS hA (fun _ => rfl) (by decide) (by decide) (Nat.le_of_ble_eq_true rfl) (Nat.le_of_ble_eq_true rfl) (Nat.le_of_ble_eq_true rfl) d_S_init_20 (fun q4 c4 H4 hK hP hD hS => ?_)
  replace hK : va_K D clS [(c2, .int), (c4, .int)] s := hK
  replace hP : va_P D clS [(h0, .inr (4, [.int (0 : Int32), .ref q2, .null, .null, .null, .null, .null, .null, .null, .null])), (q2, .inl (c2, 40, .inl (fun _ => 0))), (q4, .inl (c4, 40, .inl (fun _ => 0)))] H4 := hP
  replace hD : va_D A [(h0, .inr (4, [.int (0 : Int32), .ref q2, .null, .null, .null, .null, .null, .null, .null, .null])), (q2, .inl (c2, 40, .inl (fun _ => 0))), (q4, .inl (c4, 40, .inl (fun _ => 0)))] := hD
  refine va_putF (ci := 4) (v := .ref q4) (ty := .array .int) (C := R_S) (T := F_S) (N := 10) hx hb ht iw_S ft_S to_S nm_S hown hK hP hD hS 0 rfl rfl 2 (by decide) (ht _ wd_162) (fun _ h9 => h9) rfl hin rfl (by decide +kernel) rfl rfl (Nat.le_of_ble_eq_true rfl) d_S_init_22 (fun H5 locs hP hD hS => ?_)
  replace hP : va_P D clS [(h0, .inr (4, [.int (0 : Int32), .ref q2, .ref q4, .null, .null, .null, .null, .null, .null, .null])), (q2, .inl (c2, 40, .inl (fun _ => 0))), (q4, .inl (c4, 40, .inl (fun _ => 0)))] H5 := hP
  replace hD : va_D A [(h0, .inr (4, [.int (0 : Int32), .ref q2, .ref q4, .null, .null, .null, .null, .null, .null, .null])), (q2, .inl (c2, 40, .inl (fun _ => 0))), (q4, .inl (c4, 40, .inl (fun _ => 0)))] := hD
  refine lv_aload_n hx hb d_S_init_25 rfl (lv_at hl 0 rfl) ?_
  refine lv_bipush (v := (40 : Int32)) hx hb d_S_init_26 (by decide) ?_
  refine va_newa (atype := .int) (a0 := (40, .inl (fun _ => 0))) (ty := .int) (N' := 40) hx hb (ht _ wd_84) rfl hK hP hD hS hA (fun _ => rfl) (by decide) (by decide) (Nat.le_of_ble_eq_true rfl) (Nat.le_of_ble_eq_true rfl) (Nat.le_of_ble_eq_true rfl) d_S_init_28 (fun q6 c6 H6 hK hP hD hS => ?_)
  replace hK : va_K D clS [(c2, .int), (c4, .int), (c6, .int)] s := hK
  replace hP : va_P D clS [(h0, .inr (4, [.int (0 : Int32), .ref q2, .ref q4, .null, .null, .null, .null, .null, .null, .null])), (q2, .inl (c2, 40, .inl (fun _ => 0))), (q4, .inl (c4, 40, .inl (fun _ => 0))), (q6, .inl (c6, 40, .inl (fun _ => 0)))] H6 := hP
  replace hD : va_D A [(h0, .inr (4, [.int (0 : Int32), .ref q2, .ref q4, .null, .null, .null, .null, .null, .null, .null])), (q2, .inl (c2, 40, .inl (fun _ => 0))), (q4, .inl (c4, 40, .inl (fun _ => 0))), (q6, .inl (c6, 40, .inl (fun _ => 0)))] := hD
  refine va_putF (ci := 4) (v := .ref q6) (ty := .array .int) (C := R_S) (T := F_S) (N := 10) hx hb ht iw_S ft_S to_S nm_S hown hK hP hD hS 0 rfl rfl 3 (by decide) (ht _ wd_165) (fun _ h9 => h9) rfl hin rfl (by decide +kernel) rfl rfl (Nat.le_of_ble_eq_true rfl) d_S_init_30 (fun H7 locs hP hD hS => ?_)
  replace hP : va_P D clS [(h0, .inr (4, [.int (0 : Int32), .ref q2, .ref q4, .ref q6, .null, .null, .null, .null, .null, .null])), (q2, .inl (c2, 40, .inl (fun _ => 0))), (q4, .inl (c4, 40, .inl (fun _ => 0))), (q6, .inl (c6, 40, .inl (fun _ => 0)))] H7 := hP
  replace hD : va_D A [(h0, .inr (4, [.int (0 : Int32), .ref q2, .ref q4, .ref q6, .null, .null, .null, .null, .null, .null])), (q2, .inl (c2, 40, .inl (fun _ => 0))), (q4, .inl (c4, 40, .inl (fun _ => 0))), (q6, .inl (c6, 40, .inl (fun _ => 0)))] := hD
  refine lv_aload_n hx hb d_S_init_33 rfl (lv_at hl 0 rfl) ?_
  refine lv_bipush (v := (40 : Int32)) hx hb d_S_init_34 (by decide) ?_
  refine va_newa (atype := .int) (a0 := (40, .inl (fun _ => 0))) (ty := .int) (N' := 40) hx hb (ht _ wd_84) rfl hK hP hD hS hA (fun _ => rfl) (by decide) (by decide) (Nat.le_of_ble_eq_true rfl) (Nat.le_of_ble_eq_true rfl) (Nat.le_of_ble_eq_true rfl) d_S_init_36 (fun q8 c8 H8 hK hP hD hS => ?_)
  replace hK : va_K D clS [(c2, .int), (c4, .int), (c6, .int), (c8, .int)] s := hK
  replace hP : va_P D clS [(h0, .inr (4, [.int (0 : Int32), .ref q2, .ref q4, .ref q6, .null, .null, .null, .null, .null, .null])), (q2, .inl (c2, 40, .inl (fun _ => 0))), (q4, .inl (c4, 40, .inl (fun _ => 0))), (q6, .inl (c6, 40, .inl (fun _ => 0))), (q8, .inl (c8, 40, .inl (fun _ => 0)))] H8 := hP
  replace hD : va_D A [(h0, .inr (4, [.int (0 : Int32), .ref q2, .ref q4, .ref q6, .null, .null, .null, .null, .null, .null])), (q2, .inl (c2, 40, .inl (fun _ => 0))), (q4, .inl (c4, 40, .inl (fun _ => 0))), (q6, .inl (c6, 40, .inl (fun _ => 0))), (q8, .inl (c8, 40, .inl (fun _ => 0)))] := hD
  refine va_putF (ci := 4) (v := .ref q8) (ty := .array .int) (C := R_S) (T := F_S) (N := 10) hx hb ht iw_S ft_S to_S nm_S hown hK hP hD hS 0 rfl rfl 4 (by decide) (ht _ wd_166) (fun _ h9 => h9) rfl hin rfl (by decide +kernel) rfl rfl (Nat.le_of_ble_eq_true rfl) d_S_init_38 (fun H9 locs hP hD hS => ?_)
  replace hP : va_P D clS [(h0, .inr (4, [.int (0 : Int32), .ref q2, .ref q4, .ref q6, .ref q8, .null, .null, .null, .null, .null])), (q2, .inl (c2, 40, .inl (fun _ => 0))), (q4, .inl (c4, 40, .inl (fun _ => 0))), (q6, .inl (c6, 40, .inl (fun _ => 0))), (q8, .inl (c8, 40, .inl (fun _ => 0)))] H9 := hP
  replace hD : va_D A [(h0, .inr (4, [.int (0 : Int32), .ref q2, .ref q4, .ref q6, .ref q8, .null, .null, .null, .null, .null])), (q2, .inl (c2, 40, .inl (fun _ => 0))), (q4, .inl (c4, 40, .inl (fun _ => 0))), (q6, .inl (c6, 40, .inl (fun _ => 0))), (q8, .inl (c8, 40, .inl (fun _ => 0)))] := hD
  refine lv_aload_n hx hb d_S_init_41 rfl (lv_at hl 0 rfl) ?_
  refine lv_bipush (v := (40 : Int32)) hx hb d_S_init_42 (by decide) ?_
  refine va_newa (atype := .int) (a0 := (40, .inl (fun _ => 0))) (ty := .int) (N' := 40) hx hb (ht _ wd_84) rfl hK hP hD hS hA (fun _ => rfl) (by decide) (by decide) (Nat.le_of_ble_eq_true rfl) (Nat.le_of_ble_eq_true rfl) (Nat.le_of_ble_eq_true rfl) d_S_init_44 (fun q10 c10 H10 hK hP hD hS => ?_)
  replace hK : va_K D clS [(c2, .int), (c4, .int), (c6, .int), (c8, .int), (c10, .int)] s := hK
  replace hP : va_P D clS [(h0, .inr (4, [.int (0 : Int32), .ref q2, .ref q4, .ref q6, .ref q8, .null, .null, .null, .null, .null])), (q2, .inl (c2, 40, .inl (fun _ => 0))), (q4, .inl (c4, 40, .inl (fun _ => 0))), (q6, .inl (c6, 40, .inl (fun _ => 0))), (q8, .inl (c8, 40, .inl (fun _ => 0))), (q10, .inl (c10, 40, .inl (fun _ => 0)))] H10 := hP
  replace hD : va_D A [(h0, .inr (4, [.int (0 : Int32), .ref q2, .ref q4, .ref q6, .ref q8, .null, .null, .null, .null, .null])), (q2, .inl (c2, 40, .inl (fun _ => 0))), (q4, .inl (c4, 40, .inl (fun _ => 0))), (q6, .inl (c6, 40, .inl (fun _ => 0))), (q8, .inl (c8, 40, .inl (fun _ => 0))), (q10, .inl (c10, 40, .inl (fun _ => 0)))] := hD
  refine va_putF (ci := 4) (v := .ref q10) (ty := .array .int) (C := R_S) (T := F_S) (N := 10) hx hb ht iw_S ft_S to_S nm_S hown hK hP hD hS 0 rfl rfl 5 (by decide) (ht _ wd_167) (fun _ h9 => h9) rfl hin rfl (by decide +kernel) rfl rfl (Nat.le_of_ble_eq_true rfl) d_S_init_46 (fun H11 locs hP hD hS => ?_)
  replace hP : va_P D clS [(h0, .inr (4, [.int (0 : Int32), .ref q2, .ref q4, .ref q6, .ref q8, .ref q10, .null, .null, .null, .null])), (q2, .inl (c2, 40, .inl (fun _ => 0))), (q4, .inl (c4, 40, .inl (fun _ => 0))), (q6, .inl (c6, 40, .inl (fun _ => 0))), (q8, .inl (c8, 40, .inl (fun _ => 0))), (q10, .inl (c10, 40, .inl (fun _ => 0)))] H11 := hP
  replace hD : va_D A [(h0, .inr (4, [.int (0 : Int32), .ref q2, .ref q4, .ref q6, .ref q8, .ref q10, .null, .null, .null, .null])), (q2, .inl (c2, 40, .inl (fun _ => 0))), (q4, .inl (c4, 40, .inl (fun _ => 0))), (q6, .inl (c6, 40, .inl (fun _ => 0))), (q8, .inl (c8, 40, .inl (fun _ => 0))), (q10, .inl (c10, 40, .inl (fun _ => 0)))] := hD
  refine lv_aload_n hx hb d_S_init_49 rfl (lv_at hl 0 rfl) ?_
  refine lv_bipush (v := (40 : Int32)) hx hb d_S_init_50 (by decide) ?_
  refine va_newa (atype := .int) (a0 := (40, .inl (fun _ => 0))) (ty := .int) (N' := 40) hx hb (ht _ wd_84) rfl hK hP hD hS hA (fun _ => rfl) (by decide) (by decide) (Nat.le_of_ble_eq_true rfl) (Nat.le_of_ble_eq_true rfl) (Nat.le_of_ble_eq_true rfl) d_S_init_52 (fun q12 c12 H12 hK hP hD hS => ?_)
  replace hK : va_K D clS [(c2, .int), (c4, .int), (c6, .int), (c8, .int), (c10, .int), (c12, .int)] s := hK
  replace hP : va_P D clS [(h0, .inr (4, [.int (0 : Int32), .ref q2, .ref q4, .ref q6, .ref q8, .ref q10, .null, .null, .null, .null])), (q2, .inl (c2, 40, .inl (fun _ => 0))), (q4, .inl (c4, 40, .inl (fun _ => 0))), (q6, .inl (c6, 40, .inl (fun _ => 0))), (q8, .inl (c8, 40, .inl (fun _ => 0))), (q10, .inl (c10, 40, .inl (fun _ => 0))), (q12, .inl (c12, 40, .inl (fun _ => 0)))] H12 := hP
  replace hD : va_D A [(h0, .inr (4, [.int (0 : Int32), .ref q2, .ref q4, .ref q6, .ref q8, .ref q10, .null, .null, .null, .null])), (q2, .inl (c2, 40, .inl (fun _ => 0))), (q4, .inl (c4, 40, .inl (fun _ => 0))), (q6, .inl (c6, 40, .inl (fun _ => 0))), (q8, .inl (c8, 40, .inl (fun _ => 0))), (q10, .inl (c10, 40, .inl (fun _ => 0))), (q12, .inl (c12, 40, .inl (fun _ => 0)))] := hD
  refine va_putF (ci := 4) (v := .ref q12) (ty := .array .int) (C := R_S) (T := F_S) (N := 10) hx hb ht iw_S ft_S to_S nm_S hown hK hP hD hS 0 rfl rfl 6 (by decide) (ht _ wd_168) (fun _ h9 => h9) rfl hin rfl (by decide +kernel) rfl rfl (Nat.le_of_ble_eq_true rfl) d_S_init_54 (fun H13 locs hP hD hS => ?_)
  replace hP : va_P D clS [(h0, .inr (4, [.int (0 : Int32), .ref q2, .ref q4, .ref q6, .ref q8, .ref q10, .ref q12, .null, .null, .null])), (q2, .inl (c2, 40, .inl (fun _ => 0))), (q4, .inl (c4, 40, .inl (fun _ => 0))), (q6, .inl (c6, 40, .inl (fun _ => 0))), (q8, .inl (c8, 40, .inl (fun _ => 0))), (q10, .inl (c10, 40, .inl (fun _ => 0))), (q12, .inl (c12, 40, .inl (fun _ => 0)))] H13 := hP
  replace hD : va_D A [(h0, .inr (4, [.int (0 : Int32), .ref q2, .ref q4, .ref q6, .ref q8, .ref q10, .ref q12, .null, .null, .null])), (q2, .inl (c2, 40, .inl (fun _ => 0))), (q4, .inl (c4, 40, .inl (fun _ => 0))), (q6, .inl (c6, 40, .inl (fun _ => 0))), (q8, .inl (c8, 40, .inl (fun _ => 0))), (q10, .inl (c10, 40, .inl (fun _ => 0))), (q12, .inl (c12, 40, .inl (fun _ => 0)))] := hD
  refine lv_aload_n hx hb d_S_init_57 rfl (lv_at hl 0 rfl) ?_
  refine lv_bipush (v := (40 : Int32)) hx hb d_S_init_58 (by decide) ?_
  refine va_newa (atype := .boolean) (a0 := (40, .inl (fun _ => 0))) (ty := .boolean) (N' := 40) hx hb (ht _ wd_199) rfl hK hP hD hS hA (fun _ => rfl) (by decide) (by decide) (Nat.le_of_ble_eq_true rfl) (Nat.le_of_ble_eq_true rfl) (Nat.le_of_ble_eq_true rfl) d_S_init_60 (fun q14 c14 H14 hK hP hD hS => ?_)
  replace hK : va_K D clS [(c2, .int), (c4, .int), (c6, .int), (c8, .int), (c10, .int), (c12, .int), (c14, .boolean)] s := hK
  replace hP : va_P D clS [(h0, .inr (4, [.int (0 : Int32), .ref q2, .ref q4, .ref q6, .ref q8, .ref q10, .ref q12, .null, .null, .null])), (q2, .inl (c2, 40, .inl (fun _ => 0))), (q4, .inl (c4, 40, .inl (fun _ => 0))), (q6, .inl (c6, 40, .inl (fun _ => 0))), (q8, .inl (c8, 40, .inl (fun _ => 0))), (q10, .inl (c10, 40, .inl (fun _ => 0))), (q12, .inl (c12, 40, .inl (fun _ => 0))), (q14, .inl (c14, 40, .inl (fun _ => 0)))] H14 := hP
  replace hD : va_D A [(h0, .inr (4, [.int (0 : Int32), .ref q2, .ref q4, .ref q6, .ref q8, .ref q10, .ref q12, .null, .null, .null])), (q2, .inl (c2, 40, .inl (fun _ => 0))), (q4, .inl (c4, 40, .inl (fun _ => 0))), (q6, .inl (c6, 40, .inl (fun _ => 0))), (q8, .inl (c8, 40, .inl (fun _ => 0))), (q10, .inl (c10, 40, .inl (fun _ => 0))), (q12, .inl (c12, 40, .inl (fun _ => 0))), (q14, .inl (c14, 40, .inl (fun _ => 0)))] := hD
  refine va_putF (ci := 4) (v := .ref q14) (ty := .array .boolean) (C := R_S) (T := F_S) (N := 10) hx hb ht iw_S ft_S to_S nm_S hown hK hP hD hS 0 rfl rfl 7 (by decide) (ht _ wd_170) (fun _ h9 => h9) rfl hin rfl (by decide +kernel) rfl rfl (Nat.le_of_ble_eq_true rfl) d_S_init_62 (fun H15 locs hP hD hS => ?_)
  replace hP : va_P D clS [(h0, .inr (4, [.int (0 : Int32), .ref q2, .ref q4, .ref q6, .ref q8, .ref q10, .ref q12, .ref q14, .null, .null])), (q2, .inl (c2, 40, .inl (fun _ => 0))), (q4, .inl (c4, 40, .inl (fun _ => 0))), (q6, .inl (c6, 40, .inl (fun _ => 0))), (q8, .inl (c8, 40, .inl (fun _ => 0))), (q10, .inl (c10, 40, .inl (fun _ => 0))), (q12, .inl (c12, 40, .inl (fun _ => 0))), (q14, .inl (c14, 40, .inl (fun _ => 0)))] H15 := hP
  replace hD : va_D A [(h0, .inr (4, [.int (0 : Int32), .ref q2, .ref q4, .ref q6, .ref q8, .ref q10, .ref q12, .ref q14, .null, .null])), (q2, .inl (c2, 40, .inl (fun _ => 0))), (q4, .inl (c4, 40, .inl (fun _ => 0))), (q6, .inl (c6, 40, .inl (fun _ => 0))), (q8, .inl (c8, 40, .inl (fun _ => 0))), (q10, .inl (c10, 40, .inl (fun _ => 0))), (q12, .inl (c12, 40, .inl (fun _ => 0))), (q14, .inl (c14, 40, .inl (fun _ => 0)))] := hD
  refine lv_aload_n hx hb d_S_init_65 rfl (lv_at hl 0 rfl) ?_
  refine lv_bipush (v := (40 : Int32)) hx hb d_S_init_66 (by decide) ?_
  refine va_newa (atype := .int) (a0 := (40, .inl (fun _ => 0))) (ty := .int) (N' := 40) hx hb (ht _ wd_84) rfl hK hP hD hS hA (fun _ => rfl) (by decide) (by decide) (Nat.le_of_ble_eq_true rfl) (Nat.le_of_ble_eq_true rfl) (Nat.le_of_ble_eq_true rfl) d_S_init_68 (fun q16 c16 H16 hK hP hD hS => ?_)
  replace hK : va_K D clS [(c2, .int), (c4, .int), (c6, .int), (c8, .int), (c10, .int), (c12, .int), (c14, .boolean), (c16, .int)] s := hK
  replace hP : va_P D clS [(h0, .inr (4, [.int (0 : Int32), .ref q2, .ref q4, .ref q6, .ref q8, .ref q10, .ref q12, .ref q14, .null, .null])), (q2, .inl (c2, 40, .inl (fun _ => 0))), (q4, .inl (c4, 40, .inl (fun _ => 0))), (q6, .inl (c6, 40, .inl (fun _ => 0))), (q8, .inl (c8, 40, .inl (fun _ => 0))), (q10, .inl (c10, 40, .inl (fun _ => 0))), (q12, .inl (c12, 40, .inl (fun _ => 0))), (q14, .inl (c14, 40, .inl (fun _ => 0))), (q16, .inl (c16, 40, .inl (fun _ => 0)))] H16 := hP
  replace hD : va_D A [(h0, .inr (4, [.int (0 : Int32), .ref q2, .ref q4, .ref q6, .ref q8, .ref q10, .ref q12, .ref q14, .null, .null])), (q2, .inl (c2, 40, .inl (fun _ => 0))), (q4, .inl (c4, 40, .inl (fun _ => 0))), (q6, .inl (c6, 40, .inl (fun _ => 0))), (q8, .inl (c8, 40, .inl (fun _ => 0))), (q10, .inl (c10, 40, .inl (fun _ => 0))), (q12, .inl (c12, 40, .inl (fun _ => 0))), (q14, .inl (c14, 40, .inl (fun _ => 0))), (q16, .inl (c16, 40, .inl (fun _ => 0)))] := hD
  refine va_putF (ci := 4) (v := .ref q16) (ty := .array .int) (C := R_S) (T := F_S) (N := 10) hx hb ht iw_S ft_S to_S nm_S hown hK hP hD hS 0 rfl rfl 8 (by decide) (ht _ wd_173) (fun _ h9 => h9) rfl hin rfl (by decide +kernel) rfl rfl (Nat.le_of_ble_eq_true rfl) d_S_init_70 (fun H17 locs hP hD hS => ?_)
  replace hP : va_P D clS [(h0, .inr (4, [.int (0 : Int32), .ref q2, .ref q4, .ref q6, .ref q8, .ref q10, .ref q12, .ref q14, .ref q16, .null])), (q2, .inl (c2, 40, .inl (fun _ => 0))), (q4, .inl (c4, 40, .inl (fun _ => 0))), (q6, .inl (c6, 40, .inl (fun _ => 0))), (q8, .inl (c8, 40, .inl (fun _ => 0))), (q10, .inl (c10, 40, .inl (fun _ => 0))), (q12, .inl (c12, 40, .inl (fun _ => 0))), (q14, .inl (c14, 40, .inl (fun _ => 0))), (q16, .inl (c16, 40, .inl (fun _ => 0)))] H17 := hP
  replace hD : va_D A [(h0, .inr (4, [.int (0 : Int32), .ref q2, .ref q4, .ref q6, .ref q8, .ref q10, .ref q12, .ref q14, .ref q16, .null])), (q2, .inl (c2, 40, .inl (fun _ => 0))), (q4, .inl (c4, 40, .inl (fun _ => 0))), (q6, .inl (c6, 40, .inl (fun _ => 0))), (q8, .inl (c8, 40, .inl (fun _ => 0))), (q10, .inl (c10, 40, .inl (fun _ => 0))), (q12, .inl (c12, 40, .inl (fun _ => 0))), (q14, .inl (c14, 40, .inl (fun _ => 0))), (q16, .inl (c16, 40, .inl (fun _ => 0)))] := hD
  refine lv_aload_n hx hb d_S_init_73 rfl (lv_at hl 0 rfl) ?_
  refine lv_bipush (v := (40 : Int32)) hx hb d_S_init_74 (by decide) ?_
  refine va_newa (atype := .int) (a0 := (40, .inl (fun _ => 0))) (ty := .int) (N' := 40) hx hb (ht _ wd_84) rfl hK hP hD hS hA (fun _ => rfl) (by decide) (by decide) (Nat.le_of_ble_eq_true rfl) (Nat.le_of_ble_eq_true rfl) (Nat.le_of_ble_eq_true rfl) d_S_init_76 (fun q18 c18 H18 hK hP hD hS => ?_)
  replace hK : va_K D clS [(c2, .int), (c4, .int), (c6, .int), (c8, .int), (c10, .int), (c12, .int), (c14, .boolean), (c16, .int), (c18, .int)] s := hK
  replace hP : va_P D clS [(h0, .inr (4, [.int (0 : Int32), .ref q2, .ref q4, .ref q6, .ref q8, .ref q10, .ref q12, .ref q14, .ref q16, .null])), (q2, .inl (c2, 40, .inl (fun _ => 0))), (q4, .inl (c4, 40, .inl (fun _ => 0))), (q6, .inl (c6, 40, .inl (fun _ => 0))), (q8, .inl (c8, 40, .inl (fun _ => 0))), (q10, .inl (c10, 40, .inl (fun _ => 0))), (q12, .inl (c12, 40, .inl (fun _ => 0))), (q14, .inl (c14, 40, .inl (fun _ => 0))), (q16, .inl (c16, 40, .inl (fun _ => 0))), (q18, .inl (c18, 40, .inl (fun _ => 0)))] H18 := hP
  replace hD : va_D A [(h0, .inr (4, [.int (0 : Int32), .ref q2, .ref q4, .ref q6, .ref q8, .ref q10, .ref q12, .ref q14, .ref q16, .null])), (q2, .inl (c2, 40, .inl (fun _ => 0))), (q4, .inl (c4, 40, .inl (fun _ => 0))), (q6, .inl (c6, 40, .inl (fun _ => 0))), (q8, .inl (c8, 40, .inl (fun _ => 0))), (q10, .inl (c10, 40, .inl (fun _ => 0))), (q12, .inl (c12, 40, .inl (fun _ => 0))), (q14, .inl (c14, 40, .inl (fun _ => 0))), (q16, .inl (c16, 40, .inl (fun _ => 0))), (q18, .inl (c18, 40, .inl (fun _ => 0)))] := hD
  refine va_putF (ci := 4) (v := .ref q18) (ty := .array .int) (C := R_S) (T := F_S) (N := 10) hx hb ht iw_S ft_S to_S nm_S hown hK hP hD hS 0 rfl rfl 9 (by decide) (ht _ wd_175) (fun _ h9 => h9) rfl hin rfl (by decide +kernel) rfl rfl (Nat.le_of_ble_eq_true rfl) d_S_init_78 (fun H19 locs hP hD hS => ?_)
  replace hP : va_P D clS [(h0, .inr (4, [.int (0 : Int32), .ref q2, .ref q4, .ref q6, .ref q8, .ref q10, .ref q12, .ref q14, .ref q16, .ref q18])), (q2, .inl (c2, 40, .inl (fun _ => 0))), (q4, .inl (c4, 40, .inl (fun _ => 0))), (q6, .inl (c6, 40, .inl (fun _ => 0))), (q8, .inl (c8, 40, .inl (fun _ => 0))), (q10, .inl (c10, 40, .inl (fun _ => 0))), (q12, .inl (c12, 40, .inl (fun _ => 0))), (q14, .inl (c14, 40, .inl (fun _ => 0))), (q16, .inl (c16, 40, .inl (fun _ => 0))), (q18, .inl (c18, 40, .inl (fun _ => 0)))] H19 := hP
  replace hD : va_D A [(h0, .inr (4, [.int (0 : Int32), .ref q2, .ref q4, .ref q6, .ref q8, .ref q10, .ref q12, .ref q14, .ref q16, .ref q18])), (q2, .inl (c2, 40, .inl (fun _ => 0))), (q4, .inl (c4, 40, .inl (fun _ => 0))), (q6, .inl (c6, 40, .inl (fun _ => 0))), (q8, .inl (c8, 40, .inl (fun _ => 0))), (q10, .inl (c10, 40, .inl (fun _ => 0))), (q12, .inl (c12, 40, .inl (fun _ => 0))), (q14, .inl (c14, 40, .inl (fun _ => 0))), (q16, .inl (c16, 40, .inl (fun _ => 0))), (q18, .inl (c18, 40, .inl (fun _ => 0)))] := hD
  refine lv_aload_n hx hb d_S_init_81 rfl (lv_at hl 0 rfl) ?_
  refine va_get (ci := 4) (v := .ref q10) (C := R_S) (T := F_S) (N := 10) hx hb ht iw_S hown hK hP 0 rfl rfl 5 (by decide) (ht _ wd_167) (fun _ h9 => h9) rfl d_S_init_82 ?_
  refine lv_iconst (v := (1 : Int32)) hx hb d_S_init_85 (by decide) ?_
  refine tr_fillI (f := (fun _ => 0)) ⟨hx, hb, hml, hown, ht⟩ ⟨(tw_cb (n := 2) ht wf_I wd_38 wd_156 ⟨rfl, rfl⟩ (by decide +kernel) ⟨(Nat.le_of_ble_eq_true rfl), (Nat.le_of_ble_eq_true rfl)⟩), ht _ wd_113⟩ hK hN hP hD hS 5 4 rfl rfl (by decide) hl.1 (lv_room (Nat.le_of_ble_eq_true rfl)) d_S_init_86 (fun H20 locs hP hS => ?_) ⟨(Nat.le_of_ble_eq_true rfl), (Nat.le_of_ble_eq_true rfl)⟩
  replace hP : va_P D clS [(h0, .inr (4, [.int (0 : Int32), .ref q2, .ref q4, .ref q6, .ref q8, .ref q10, .ref q12, .ref q14, .ref q16, .ref q18])), (q2, .inl (c2, 40, .inl (fun _ => 0))), (q4, .inl (c4, 40, .inl (fun _ => 0))), (q6, .inl (c6, 40, .inl (fun _ => 0))), (q8, .inl (c8, 40, .inl (fun _ => 0))), (q10, .inl (c10, 40, .inl (fun _ => (1 : Int32)))), (q12, .inl (c12, 40, .inl (fun _ => 0))), (q14, .inl (c14, 40, .inl (fun _ => 0))), (q16, .inl (c16, 40, .inl (fun _ => 0))), (q18, .inl (c18, 40, .inl (fun _ => 0)))] H20 := hP
  replace hD : va_D A [(h0, .inr (4, [.int (0 : Int32), .ref q2, .ref q4, .ref q6, .ref q8, .ref q10, .ref q12, .ref q14, .ref q16, .ref q18])), (q2, .inl (c2, 40, .inl (fun _ => 0))), (q4, .inl (c4, 40, .inl (fun _ => 0))), (q6, .inl (c6, 40, .inl (fun _ => 0))), (q8, .inl (c8, 40, .inl (fun _ => 0))), (q10, .inl (c10, 40, .inl (fun _ => (1 : Int32)))), (q12, .inl (c12, 40, .inl (fun _ => 0))), (q14, .inl (c14, 40, .inl (fun _ => 0))), (q16, .inl (c16, 40, .inl (fun _ => 0))), (q18, .inl (c18, 40, .inl (fun _ => 0)))] := hD.set (p := 5) rfl
  refine lv_aload_n hx hb d_S_init_89 rfl (lv_at hl 0 rfl) ?_
  refine va_get (ci := 4) (v := .ref q16) (C := R_S) (T := F_S) (N := 10) hx hb ht iw_S hown hK hP 0 rfl rfl 8 (by decide) (ht _ wd_173) (fun _ h9 => h9) rfl d_S_init_90 ?_
  refine lv_iconst (v := ((-1) : Int32)) hx hb d_S_init_93 (by decide) ?_
  refine tr_fillI (f := (fun _ => 0)) ⟨hx, hb, hml, hown, ht⟩ ⟨(tw_cb (n := 2) ht wf_I wd_38 wd_156 ⟨rfl, rfl⟩ (by decide +kernel) ⟨(Nat.le_of_ble_eq_true rfl), (Nat.le_of_ble_eq_true rfl)⟩), ht _ wd_113⟩ hK hN hP hD hS 8 7 rfl rfl (by decide) hl.1 (lv_room (Nat.le_of_ble_eq_true rfl)) d_S_init_94 (fun H21 locs hP hS => ?_) ⟨(Nat.le_of_ble_eq_true rfl), (Nat.le_of_ble_eq_true rfl)⟩
  replace hP : va_P D clS [(h0, .inr (4, [.int (0 : Int32), .ref q2, .ref q4, .ref q6, .ref q8, .ref q10, .ref q12, .ref q14, .ref q16, .ref q18])), (q2, .inl (c2, 40, .inl (fun _ => 0))), (q4, .inl (c4, 40, .inl (fun _ => 0))), (q6, .inl (c6, 40, .inl (fun _ => 0))), (q8, .inl (c8, 40, .inl (fun _ => 0))), (q10, .inl (c10, 40, .inl (fun _ => (1 : Int32)))), (q12, .inl (c12, 40, .inl (fun _ => 0))), (q14, .inl (c14, 40, .inl (fun _ => 0))), (q16, .inl (c16, 40, .inl (fun _ => ((-1) : Int32)))), (q18, .inl (c18, 40, .inl (fun _ => 0)))] H21 := hP
  replace hD : va_D A [(h0, .inr (4, [.int (0 : Int32), .ref q2, .ref q4, .ref q6, .ref q8, .ref q10, .ref q12, .ref q14, .ref q16, .ref q18])), (q2, .inl (c2, 40, .inl (fun _ => 0))), (q4, .inl (c4, 40, .inl (fun _ => 0))), (q6, .inl (c6, 40, .inl (fun _ => 0))), (q8, .inl (c8, 40, .inl (fun _ => 0))), (q10, .inl (c10, 40, .inl (fun _ => (1 : Int32)))), (q12, .inl (c12, 40, .inl (fun _ => 0))), (q14, .inl (c14, 40, .inl (fun _ => 0))), (q16, .inl (c16, 40, .inl (fun _ => ((-1) : Int32)))), (q18, .inl (c18, 40, .inl (fun _ => 0)))] := hD.set (p := 8) rfl
  have hP9 : va_P D clS (kwS (fun k => [h0, q2, q4, q6, q8, q10, q12, q14, q16, q18].getD k 0) (fun k => [c2, c4, c6, c8, c10, c12, c14, c16, c18].getD k 0)) H21 := hP
  have hD9 : va_D A (kwS (fun k => [h0, q2, q4, q6, q8, q10, q12, q14, q16, q18].getD k 0) (fun k => [c2, c4, c6, c8, c10, c12, c14, c16, c18].getD k 0)) := hD
  have hK9 : va_K D clS (kwSt (fun k => [c2, c4, c6, c8, c10, c12, c14, c16, c18].getD k 0)) s := hK
  exact W.vret hx hb hr (fun t ht9 hW => ⟨⟨((fun k => [h0, q2, q4, q6, q8, q10, q12, q14, q16, q18].getD k 0), (fun k => [c2, c4, c6, c8, c10, c12, c14, c16, c18].getD k 0)), rfl, rfl, by rw [ht9]; exact hP9, va_K.moved hW.alike hK9, hD9⟩, hS.F ht9⟩) hS.2.2 d_S_init_97

def kwW (ad : Nat → Nat) (ta : Nat → ClassId) : va_W := [
  ((ad 0), .inr (5, [.ref (ad 1), .ref (ad 2), .ref (ad 3)])),
  ((ad 1), .inl ((ta 0), 40, .inl (fun _ => 0))),
  ((ad 2), .inl ((ta 1), 12, .inr (.inl (fun _ => 0)))),
  ((ad 3), .inl ((ta 2), 12, .inl (fun _ => 0)))]
def kwWt (ta : Nat → ClassId) : List (ClassId × FieldType) := [((ta 0), .int), ((ta 1), .long), ((ta 2), .int)]
abbrev rk_W : Room := { frames := 1, cells := 3, slots := 64, locals := 24 }

set_option maxHeartbeats 4000000 in
set_option maxRecDepth 100000 in
theorem mk_W (l : Launch) {D : va_G} {h0 sz : Nat} : Met l y_W_init (.code y_W_init b_W_init 1 none :: tw) rk_W (kP D [(h0, .inr (5, [.null, .null, .null]))] [.ref h0] sz) (va_Qv (fun u : (Nat → Nat) × (Nat → ClassId) => u.1 0 = h0) (kB D (va_A [(h0, .inr (5, [.null, .null, .null]))] sz) kwW kwWt) (va_A [(h0, .inr (5, [.null, .null, .null]))] sz)) 3 64 (va_A [(h0, .inr (5, [.null, .null, .null]))] sz) := by
  refine Met.ofW (cc := b_W_init) (maxL := 1) (ret := none) (by decide) rfl ?_
  intro p e s m args below meth c s₁ B hml hv
  obtain ⟨rfl, hsz, hP, hK, hD0, hN⟩ := hv
  have hx := B.exec
  have hb := B.bytes
  have hr := B.returns
  have ht : ∀ w ∈ tw, w.before [.ref h0].toArray s = true := fun w h => atoms_spec (ws := (.code y_W_init b_W_init 1 none :: tw)) B.pre w (List.mem_cons_of_mem _ h)
  have hown : s.vm.findClass R_W = some m.cls := findClass_of_methodNamed B.named
  have hlocks := B.notSynchronized
  have hin : meth.name = "<init>" := (name_of_methodNamed B.named B.method).1
  subst hsz
  have hD := hD0.self (sz := s.heap.size)
  generalize hAe : va_A [(h0, .inr (5, [.null, .null, .null]))] s.heap.size = A at hD ⊢
  have hA : ∀ q : Nat, s.heap.size ≤ q → A q := fun q h => by rw [← hAe]; exact Or.inr h
  have hS : va_S A s.heap s.heap [] := va_S.rf
  replace hP : va_P D clS [(h0, .inr (5, [.null, .null, .null]))] s.heap := hP
  have hl := lv_entry ([.ref h0]) (n := 1) (Nat.le_of_ble_eq_true rfl)
  rw [lg_entry_eq]
  generalize (lg_sl ([.ref h0]) ++ List.replicate (1 - (lg_sl ([.ref h0])).length) Slot.unset).toArray = ls at hl ⊢
  replace hl : lv_has ls 1 [(0, .ref h0)] := hl
  refine lv_aload_n hx hb d_W_init_0 rfl (lv_at hl 0 rfl) ?_
  refine W.objInit hx hb hown (ht _ wd_205) (ht _ wd_56) (ht _ wc_object) rfl (by rw [hml]; exact hl.1) rfl d_W_init_1 (Nat.le_of_ble_eq_true rfl) (Nat.le_of_ble_eq_true rfl) ?_
  refine W.eq (g2 := F0 m 4 ls []) rfl ?_
  refine lv_aload_n hx hb d_W_init_4 rfl (lv_at hl 0 rfl) ?_
  refine lv_bipush (v := (40 : Int32)) hx hb d_W_init_5 (by decide) ?_
  refine va_newa (atype := .int) (a0 := (40, .inl (fun _ => 0))) (ty := .int) (N' := 40) hx hb (ht _ wd_84) rfl hK hP hD hS hA (fun _ => rfl) (by decide) (by decide) (Nat.le_of_ble_eq_true rfl) (Nat.le_of_ble_eq_true rfl) (Nat.le_of_ble_eq_true rfl) d_W_init_7 (fun q1 c1 H1 hK hP hD hS => ?_)
  replace hK : va_K D clS [(c1, .int)] s := hK
  replace hP : va_P D clS [(h0, .inr (5, [.null, .null, .null])), (q1, .inl (c1, 40, .inl (fun _ => 0)))] H1 := hP
  replace hD : va_D A [(h0, .inr (5, [.null, .null, .null])), (q1, .inl (c1, 40, .inl (fun _ => 0)))] := hD
  refine va_putF (ci := 5) (v := .ref q1) (ty := .array .int) (C := R_W) (T := F_W) (N := 3) hx hb ht iw_W ft_W to_W nm_W hown hK hP hD hS 0 rfl rfl 0 (by decide) (ht _ wd_206) (fun _ h9 => h9) rfl hin rfl (by decide +kernel) rfl rfl (Nat.le_of_ble_eq_true rfl) d_W_init_9 (fun H2 locs hP hD hS => ?_)
  replace hP : va_P D clS [(h0, .inr (5, [.ref q1, .null, .null])), (q1, .inl (c1, 40, .inl (fun _ => 0)))] H2 := hP
  replace hD : va_D A [(h0, .inr (5, [.ref q1, .null, .null])), (q1, .inl (c1, 40, .inl (fun _ => 0)))] := hD
  refine lv_aload_n hx hb d_W_init_12 rfl (lv_at hl 0 rfl) ?_
  refine lv_bipush (v := (12 : Int32)) hx hb d_W_init_13 (by decide) ?_
  refine va_newa (atype := .long) (a0 := (12, .inr (.inl (fun _ => 0)))) (ty := .long) (N' := 12) hx hb (ht _ wd_111) rfl hK hP hD hS hA (fun _ => rfl) (by decide) (by decide) (Nat.le_of_ble_eq_true rfl) (Nat.le_of_ble_eq_true rfl) (Nat.le_of_ble_eq_true rfl) d_W_init_15 (fun q3 c3 H3 hK hP hD hS => ?_)
  replace hK : va_K D clS [(c1, .int), (c3, .long)] s := hK
  replace hP : va_P D clS [(h0, .inr (5, [.ref q1, .null, .null])), (q1, .inl (c1, 40, .inl (fun _ => 0))), (q3, .inl (c3, 12, .inr (.inl (fun _ => 0))))] H3 := hP
  replace hD : va_D A [(h0, .inr (5, [.ref q1, .null, .null])), (q1, .inl (c1, 40, .inl (fun _ => 0))), (q3, .inl (c3, 12, .inr (.inl (fun _ => 0))))] := hD
  refine va_putF (ci := 5) (v := .ref q3) (ty := .array .long) (C := R_W) (T := F_W) (N := 3) hx hb ht iw_W ft_W to_W nm_W hown hK hP hD hS 0 rfl rfl 1 (by decide) (ht _ wd_208) (fun _ h9 => h9) rfl hin rfl (by decide +kernel) rfl rfl (Nat.le_of_ble_eq_true rfl) d_W_init_17 (fun H4 locs hP hD hS => ?_)
  replace hP : va_P D clS [(h0, .inr (5, [.ref q1, .ref q3, .null])), (q1, .inl (c1, 40, .inl (fun _ => 0))), (q3, .inl (c3, 12, .inr (.inl (fun _ => 0))))] H4 := hP
  replace hD : va_D A [(h0, .inr (5, [.ref q1, .ref q3, .null])), (q1, .inl (c1, 40, .inl (fun _ => 0))), (q3, .inl (c3, 12, .inr (.inl (fun _ => 0))))] := hD
  refine lv_aload_n hx hb d_W_init_20 rfl (lv_at hl 0 rfl) ?_
  refine lv_bipush (v := (12 : Int32)) hx hb d_W_init_21 (by decide) ?_
  refine va_newa (atype := .int) (a0 := (12, .inl (fun _ => 0))) (ty := .int) (N' := 12) hx hb (ht _ wd_84) rfl hK hP hD hS hA (fun _ => rfl) (by decide) (by decide) (Nat.le_of_ble_eq_true rfl) (Nat.le_of_ble_eq_true rfl) (Nat.le_of_ble_eq_true rfl) d_W_init_23 (fun q5 c5 H5 hK hP hD hS => ?_)
  replace hK : va_K D clS [(c1, .int), (c3, .long), (c5, .int)] s := hK
  replace hP : va_P D clS [(h0, .inr (5, [.ref q1, .ref q3, .null])), (q1, .inl (c1, 40, .inl (fun _ => 0))), (q3, .inl (c3, 12, .inr (.inl (fun _ => 0)))), (q5, .inl (c5, 12, .inl (fun _ => 0)))] H5 := hP
  replace hD : va_D A [(h0, .inr (5, [.ref q1, .ref q3, .null])), (q1, .inl (c1, 40, .inl (fun _ => 0))), (q3, .inl (c3, 12, .inr (.inl (fun _ => 0)))), (q5, .inl (c5, 12, .inl (fun _ => 0)))] := hD
  refine va_putF (ci := 5) (v := .ref q5) (ty := .array .int) (C := R_W) (T := F_W) (N := 3) hx hb ht iw_W ft_W to_W nm_W hown hK hP hD hS 0 rfl rfl 2 (by decide) (ht _ wd_209) (fun _ h9 => h9) rfl hin rfl (by decide +kernel) rfl rfl (Nat.le_of_ble_eq_true rfl) d_W_init_25 (fun H6 locs hP hD hS => ?_)
  replace hP : va_P D clS [(h0, .inr (5, [.ref q1, .ref q3, .ref q5])), (q1, .inl (c1, 40, .inl (fun _ => 0))), (q3, .inl (c3, 12, .inr (.inl (fun _ => 0)))), (q5, .inl (c5, 12, .inl (fun _ => 0)))] H6 := hP
  replace hD : va_D A [(h0, .inr (5, [.ref q1, .ref q3, .ref q5])), (q1, .inl (c1, 40, .inl (fun _ => 0))), (q3, .inl (c3, 12, .inr (.inl (fun _ => 0)))), (q5, .inl (c5, 12, .inl (fun _ => 0)))] := hD
  have hP9 : va_P D clS (kwW (fun k => [h0, q1, q3, q5].getD k 0) (fun k => [c1, c3, c5].getD k 0)) H6 := hP
  have hD9 : va_D A (kwW (fun k => [h0, q1, q3, q5].getD k 0) (fun k => [c1, c3, c5].getD k 0)) := hD
  have hK9 : va_K D clS (kwWt (fun k => [c1, c3, c5].getD k 0)) s := hK
  exact W.vret hx hb hr (fun t ht9 hW => ⟨⟨((fun k => [h0, q1, q3, q5].getD k 0), (fun k => [c1, c3, c5].getD k 0)), rfl, rfl, by rw [ht9]; exact hP9, va_K.moved hW.alike hK9, hD9⟩, hS.F ht9⟩) hS.2.2 d_W_init_28

def kwA (ad : Nat → Nat) (ta : Nat → ClassId) : va_W := [
  ((ad 0), .inr (6, [.int (0 : Int32), .int (0 : Int32), .ref (ad 1), .ref (ad 2), .ref (ad 3)])),
  ((ad 1), .inl ((ta 0), 36, .inl (fun _ => 0))),
  ((ad 2), .inl ((ta 1), 36, .inl (fun _ => 0))),
  ((ad 3), .inl ((ta 2), 1440, .inl (fun _ => 0)))]
def kwAt (ta : Nat → ClassId) : List (ClassId × FieldType) := [((ta 0), .int), ((ta 1), .int), ((ta 2), .int)]
abbrev rk_A : Room := { frames := 1, cells := 3, slots := 1512, locals := 24 }

set_option maxHeartbeats 4000000 in
set_option maxRecDepth 100000 in
theorem mk_A (l : Launch) {D : va_G} {h0 sz : Nat} : Met l y_A_init (.code y_A_init b_A_init 1 none :: tw) rk_A (kP D [(h0, .inr (6, [.int 0, .int 0, .null, .null, .null]))] [.ref h0] sz) (va_Qv (fun u : (Nat → Nat) × (Nat → ClassId) => u.1 0 = h0) (kB D (va_A [(h0, .inr (6, [.int 0, .int 0, .null, .null, .null]))] sz) kwA kwAt) (va_A [(h0, .inr (6, [.int 0, .int 0, .null, .null, .null]))] sz)) 3 1512 (va_A [(h0, .inr (6, [.int 0, .int 0, .null, .null, .null]))] sz) := by
  refine Met.ofW (cc := b_A_init) (maxL := 1) (ret := none) (by decide) rfl ?_
  intro p e s m args below meth c s₁ B hml hv
  obtain ⟨rfl, hsz, hP, hK, hD0, hN⟩ := hv
  have hx := B.exec
  have hb := B.bytes
  have hr := B.returns
  have ht : ∀ w ∈ tw, w.before [.ref h0].toArray s = true := fun w h => atoms_spec (ws := (.code y_A_init b_A_init 1 none :: tw)) B.pre w (List.mem_cons_of_mem _ h)
  have hown : s.vm.findClass R_A = some m.cls := findClass_of_methodNamed B.named
  have hlocks := B.notSynchronized
  have hin : meth.name = "<init>" := (name_of_methodNamed B.named B.method).1
  subst hsz
  have hD := hD0.self (sz := s.heap.size)
  generalize hAe : va_A [(h0, .inr (6, [.int 0, .int 0, .null, .null, .null]))] s.heap.size = A at hD ⊢
  have hA : ∀ q : Nat, s.heap.size ≤ q → A q := fun q h => by rw [← hAe]; exact Or.inr h
  have hS : va_S A s.heap s.heap [] := va_S.rf
  replace hP : va_P D clS [(h0, .inr (6, [.int 0, .int 0, .null, .null, .null]))] s.heap := hP
  have hl := lv_entry ([.ref h0]) (n := 1) (Nat.le_of_ble_eq_true rfl)
  rw [lg_entry_eq]
  generalize (lg_sl ([.ref h0]) ++ List.replicate (1 - (lg_sl ([.ref h0])).length) Slot.unset).toArray = ls at hl ⊢
  replace hl : lv_has ls 1 [(0, .ref h0)] := hl
  refine lv_aload_n hx hb d_A_init_0 rfl (lv_at hl 0 rfl) ?_
  refine W.objInit hx hb hown (ht _ wd_223) (ht _ wd_56) (ht _ wc_object) rfl (by rw [hml]; exact hl.1) rfl d_A_init_1 (Nat.le_of_ble_eq_true rfl) (Nat.le_of_ble_eq_true rfl) ?_
  refine W.eq (g2 := F0 m 4 ls []) rfl ?_
  refine lv_aload_n hx hb d_A_init_4 rfl (lv_at hl 0 rfl) ?_
  refine lv_iconst (v := (0 : Int32)) hx hb d_A_init_5 (by decide) ?_
  refine va_put (ci := 6) (v := .int (0 : Int32)) (ty := .int) (C := R_A) (T := F_A) (N := 5) hx hb ht iw_A ft_A to_A nm_A hown hK hP hD hS 0 rfl rfl 0 (by decide) (ht _ wd_224) (fun _ h9 => h9) rfl (by decide +kernel) rfl rfl (Nat.le_of_ble_eq_true rfl) d_A_init_6 (fun H1 locs hP hD hS => ?_)
  replace hP : va_P D clS [(h0, .inr (6, [.int (0 : Int32), .int 0, .null, .null, .null]))] H1 := hP
  replace hD : va_D A [(h0, .inr (6, [.int (0 : Int32), .int 0, .null, .null, .null]))] := hD
  refine lv_aload_n hx hb d_A_init_9 rfl (lv_at hl 0 rfl) ?_
  refine lv_iconst (v := (0 : Int32)) hx hb d_A_init_10 (by decide) ?_
  refine va_put (ci := 6) (v := .int (0 : Int32)) (ty := .int) (C := R_A) (T := F_A) (N := 5) hx hb ht iw_A ft_A to_A nm_A hown hK hP hD hS 0 rfl rfl 1 (by decide) (ht _ wd_226) (fun _ h9 => h9) rfl (by decide +kernel) rfl rfl (Nat.le_of_ble_eq_true rfl) d_A_init_11 (fun H2 locs hP hD hS => ?_)
  replace hP : va_P D clS [(h0, .inr (6, [.int (0 : Int32), .int (0 : Int32), .null, .null, .null]))] H2 := hP
  replace hD : va_D A [(h0, .inr (6, [.int (0 : Int32), .int (0 : Int32), .null, .null, .null]))] := hD
  refine lv_aload_n hx hb d_A_init_14 rfl (lv_at hl 0 rfl) ?_
  refine lv_bipush (v := (36 : Int32)) hx hb d_A_init_15 (by decide) ?_
  refine va_newa (atype := .int) (a0 := (36, .inl (fun _ => 0))) (ty := .int) (N' := 36) hx hb (ht _ wd_84) rfl hK hP hD hS hA (fun _ => rfl) (by decide) (by decide) (Nat.le_of_ble_eq_true rfl) (Nat.le_of_ble_eq_true rfl) (Nat.le_of_ble_eq_true rfl) d_A_init_17 (fun q3 c3 H3 hK hP hD hS => ?_)
  replace hK : va_K D clS [(c3, .int)] s := hK
  replace hP : va_P D clS [(h0, .inr (6, [.int (0 : Int32), .int (0 : Int32), .null, .null, .null])), (q3, .inl (c3, 36, .inl (fun _ => 0)))] H3 := hP
  replace hD : va_D A [(h0, .inr (6, [.int (0 : Int32), .int (0 : Int32), .null, .null, .null])), (q3, .inl (c3, 36, .inl (fun _ => 0)))] := hD
  refine va_putF (ci := 6) (v := .ref q3) (ty := .array .int) (C := R_A) (T := F_A) (N := 5) hx hb ht iw_A ft_A to_A nm_A hown hK hP hD hS 0 rfl rfl 2 (by decide) (ht _ wd_228) (fun _ h9 => h9) rfl hin rfl (by decide +kernel) rfl rfl (Nat.le_of_ble_eq_true rfl) d_A_init_19 (fun H4 locs hP hD hS => ?_)
  replace hP : va_P D clS [(h0, .inr (6, [.int (0 : Int32), .int (0 : Int32), .ref q3, .null, .null])), (q3, .inl (c3, 36, .inl (fun _ => 0)))] H4 := hP
  replace hD : va_D A [(h0, .inr (6, [.int (0 : Int32), .int (0 : Int32), .ref q3, .null, .null])), (q3, .inl (c3, 36, .inl (fun _ => 0)))] := hD
  refine lv_aload_n hx hb d_A_init_22 rfl (lv_at hl 0 rfl) ?_
  refine lv_bipush (v := (36 : Int32)) hx hb d_A_init_23 (by decide) ?_
  refine va_newa (atype := .int) (a0 := (36, .inl (fun _ => 0))) (ty := .int) (N' := 36) hx hb (ht _ wd_84) rfl hK hP hD hS hA (fun _ => rfl) (by decide) (by decide) (Nat.le_of_ble_eq_true rfl) (Nat.le_of_ble_eq_true rfl) (Nat.le_of_ble_eq_true rfl) d_A_init_25 (fun q5 c5 H5 hK hP hD hS => ?_)
  replace hK : va_K D clS [(c3, .int), (c5, .int)] s := hK
  replace hP : va_P D clS [(h0, .inr (6, [.int (0 : Int32), .int (0 : Int32), .ref q3, .null, .null])), (q3, .inl (c3, 36, .inl (fun _ => 0))), (q5, .inl (c5, 36, .inl (fun _ => 0)))] H5 := hP
  replace hD : va_D A [(h0, .inr (6, [.int (0 : Int32), .int (0 : Int32), .ref q3, .null, .null])), (q3, .inl (c3, 36, .inl (fun _ => 0))), (q5, .inl (c5, 36, .inl (fun _ => 0)))] := hD
  refine va_putF (ci := 6) (v := .ref q5) (ty := .array .int) (C := R_A) (T := F_A) (N := 5) hx hb ht iw_A ft_A to_A nm_A hown hK hP hD hS 0 rfl rfl 3 (by decide) (ht _ wd_230) (fun _ h9 => h9) rfl hin rfl (by decide +kernel) rfl rfl (Nat.le_of_ble_eq_true rfl) d_A_init_27 (fun H6 locs hP hD hS => ?_)
  replace hP : va_P D clS [(h0, .inr (6, [.int (0 : Int32), .int (0 : Int32), .ref q3, .ref q5, .null])), (q3, .inl (c3, 36, .inl (fun _ => 0))), (q5, .inl (c5, 36, .inl (fun _ => 0)))] H6 := hP
  replace hD : va_D A [(h0, .inr (6, [.int (0 : Int32), .int (0 : Int32), .ref q3, .ref q5, .null])), (q3, .inl (c3, 36, .inl (fun _ => 0))), (q5, .inl (c5, 36, .inl (fun _ => 0)))] := hD
  refine lv_aload_n hx hb d_A_init_30 rfl (lv_at hl 0 rfl) ?_
  refine lv_sipush (v := (1440 : Int32)) hx hb d_A_init_31 (by decide) ?_
  refine va_newa (atype := .int) (a0 := (1440, .inl (fun _ => 0))) (ty := .int) (N' := 1440) hx hb (ht _ wd_84) rfl hK hP hD hS hA (fun _ => rfl) (by decide) (by decide) (Nat.le_of_ble_eq_true rfl) (Nat.le_of_ble_eq_true rfl) (Nat.le_of_ble_eq_true rfl) d_A_init_34 (fun q7 c7 H7 hK hP hD hS => ?_)
  replace hK : va_K D clS [(c3, .int), (c5, .int), (c7, .int)] s := hK
  replace hP : va_P D clS [(h0, .inr (6, [.int (0 : Int32), .int (0 : Int32), .ref q3, .ref q5, .null])), (q3, .inl (c3, 36, .inl (fun _ => 0))), (q5, .inl (c5, 36, .inl (fun _ => 0))), (q7, .inl (c7, 1440, .inl (fun _ => 0)))] H7 := hP
  replace hD : va_D A [(h0, .inr (6, [.int (0 : Int32), .int (0 : Int32), .ref q3, .ref q5, .null])), (q3, .inl (c3, 36, .inl (fun _ => 0))), (q5, .inl (c5, 36, .inl (fun _ => 0))), (q7, .inl (c7, 1440, .inl (fun _ => 0)))] := hD
  refine va_putF (ci := 6) (v := .ref q7) (ty := .array .int) (C := R_A) (T := F_A) (N := 5) hx hb ht iw_A ft_A to_A nm_A hown hK hP hD hS 0 rfl rfl 4 (by decide) (ht _ wd_232) (fun _ h9 => h9) rfl hin rfl (by decide +kernel) rfl rfl (Nat.le_of_ble_eq_true rfl) d_A_init_36 (fun H8 locs hP hD hS => ?_)
  replace hP : va_P D clS [(h0, .inr (6, [.int (0 : Int32), .int (0 : Int32), .ref q3, .ref q5, .ref q7])), (q3, .inl (c3, 36, .inl (fun _ => 0))), (q5, .inl (c5, 36, .inl (fun _ => 0))), (q7, .inl (c7, 1440, .inl (fun _ => 0)))] H8 := hP
  replace hD : va_D A [(h0, .inr (6, [.int (0 : Int32), .int (0 : Int32), .ref q3, .ref q5, .ref q7])), (q3, .inl (c3, 36, .inl (fun _ => 0))), (q5, .inl (c5, 36, .inl (fun _ => 0))), (q7, .inl (c7, 1440, .inl (fun _ => 0)))] := hD
  have hP9 : va_P D clS (kwA (fun k => [h0, q3, q5, q7].getD k 0) (fun k => [c3, c5, c7].getD k 0)) H8 := hP
  have hD9 : va_D A (kwA (fun k => [h0, q3, q5, q7].getD k 0) (fun k => [c3, c5, c7].getD k 0)) := hD
  have hK9 : va_K D clS (kwAt (fun k => [c3, c5, c7].getD k 0)) s := hK
  exact W.vret hx hb hr (fun t ht9 hW => ⟨⟨((fun k => [h0, q3, q5, q7].getD k 0), (fun k => [c3, c5, c7].getD k 0)), rfl, rfl, by rw [ht9]; exact hP9, va_K.moved hW.alike hK9, hD9⟩, hS.F ht9⟩) hS.2.2 d_A_init_39
