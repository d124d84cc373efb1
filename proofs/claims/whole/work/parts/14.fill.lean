theorem d_fillI_0 : decode b_fillI 0 = .ok (.iconst 0, 1) := by decide +kernel
theorem d_fillI_1 : decode b_fillI 1 = .ok (.istore_n 2, 1) := by decide +kernel
theorem d_fillI_2 : decode b_fillI 2 = .ok (.aload_n 0, 1) := by decide +kernel
theorem d_fillI_3 : decode b_fillI 3 = .ok (.arraylength, 1) := by decide +kernel
theorem d_fillI_4 : decode b_fillI 4 = .ok (.istore_n 3, 1) := by decide +kernel
theorem d_fillI_5 : decode b_fillI 5 = .ok (.iload_n 2, 1) := by decide +kernel
theorem d_fillI_6 : decode b_fillI 6 = .ok (.iload_n 3, 1) := by decide +kernel
theorem d_fillI_7 : decode b_fillI 7 = .ok (.if_icmp .ge 13, 3) := by decide +kernel
theorem d_fillI_10 : decode b_fillI 10 = .ok (.aload_n 0, 1) := by decide +kernel
theorem d_fillI_11 : decode b_fillI 11 = .ok (.iload_n 2, 1) := by decide +kernel
theorem d_fillI_12 : decode b_fillI 12 = .ok (.iload_n 1, 1) := by decide +kernel
theorem d_fillI_13 : decode b_fillI 13 = .ok (.iastore, 1) := by decide +kernel
theorem d_fillI_14 : decode b_fillI 14 = .ok (.iinc 2 1, 3) := by decide +kernel
theorem d_fillI_17 : decode b_fillI 17 = .ok (.goto (-12), 3) := by decide +kernel
theorem d_fillI_20 : decode b_fillI 20 = .ok (.return_, 1) := by decide +kernel
theorem d_fillJ_0 : decode b_fillJ 0 = .ok (.iconst 0, 1) := by decide +kernel
theorem d_fillJ_1 : decode b_fillJ 1 = .ok (.istore_n 3, 1) := by decide +kernel
theorem d_fillJ_2 : decode b_fillJ 2 = .ok (.aload_n 0, 1) := by decide +kernel
theorem d_fillJ_3 : decode b_fillJ 3 = .ok (.arraylength, 1) := by decide +kernel
theorem d_fillJ_4 : decode b_fillJ 4 = .ok (.istore 4, 2) := by decide +kernel
theorem d_fillJ_6 : decode b_fillJ 6 = .ok (.iload_n 3, 1) := by decide +kernel
theorem d_fillJ_7 : decode b_fillJ 7 = .ok (.iload 4, 2) := by decide +kernel
theorem d_fillJ_9 : decode b_fillJ 9 = .ok (.if_icmp .ge 13, 3) := by decide +kernel
theorem d_fillJ_12 : decode b_fillJ 12 = .ok (.aload_n 0, 1) := by decide +kernel
theorem d_fillJ_13 : decode b_fillJ 13 = .ok (.iload_n 3, 1) := by decide +kernel
theorem d_fillJ_14 : decode b_fillJ 14 = .ok (.lload_n 1, 1) := by decide +kernel
theorem d_fillJ_15 : decode b_fillJ 15 = .ok (.lastore, 1) := by decide +kernel
theorem d_fillJ_16 : decode b_fillJ 16 = .ok (.iinc 3 1, 3) := by decide +kernel
theorem d_fillJ_19 : decode b_fillJ 19 = .ok (.goto (-13), 3) := by decide +kernel
theorem d_fillJ_22 : decode b_fillJ 22 = .ok (.return_, 1) := by decide +kernel
/-! java.util.Arrays.fill of an int[] and of a long[]: the whole array becomes one number -/
theorem ar_congr {cA : ClassId} {n : Nat} {f g : Nat → Value} (h : ∀ j, j < n → f j = g j) : arrV cA n f = arrV cA n g := by
  have h1 : (fun j : Fin n => f j.val) = fun j : Fin n => g j.val := funext fun j => h j.val j.isLt
  unfold arrV
  rw [h1]
def rmF : Room := { frames := 0, cells := 0, slots := 0, locals := 0 }
set_option maxHeartbeats 4000000 in
set_option maxRecDepth 100000 in
theorem fi_loop {p : Program} {l : Launch} {e : Env} {s : State} {m : MethodId} {args : Array Value} {below : List Frame} {meth : Method} {c : Code} {D : va_G} {cl : List vw_C} {a n : Nat} {cA : ClassId} {v : Int32}
    (hx : p.tables.exec = Jvm.exec) (hb : c.code = b_fillI) (hr : meth.sig.returnType = none) (hlocks : meth.locks = false) (hK : va_K D cl [(cA, .int)] s) (hn : n < 2 ^ 31) :
    ∀ (k i : Nat) (f : Nat → Int32) (H : Heap) (locs : List Loc) (ls : Array Slot), i + k = n → (∀ j, j < i → f j = v) → va_P D cl [(a, .inl (cA, n, .inl f))] H → va_D (fun q => q = a) [(a, .inl (cA, n, .inl f))] → va_S (fun q => q = a) s.heap H locs → lv_has ls 4 [(0, .ref a), (1, .int v), (2, .int (nI i)), (3, .int (nI n))] →
      W p l e rmF s m args below meth c H locs 0 0 (MQ below (tQ D cl [(a, .inl (cA, n, .inl (fun _ => v)))] none (fun q => q = a)) args s 0 0 (fun q => q = a)) (F0 m 5 ls []) := by
  intro k
  induction k with
  | zero =>
    intro i f H locs ls hi hf hP hD hS hl
    have hin : i = n := by omega
    subst hin
    refine lv_iload_n hx hb d_fillI_5 rfl (lv_at hl 2 rfl) ?_
    refine lv_iload_n hx hb d_fillI_6 rfl (lv_at hl 3 rfl) ?_
    refine lv_icmp_ge (tgt := 20) hx hb d_fillI_7 (by decide) (fun hc => ?_) (fun hc => ?_)
    · have hP9 : va_P D cl [(a, .inl (cA, i, .inl (fun _ => v)))] H := by
        intro q x hq
        have h0 := hP 0 _ rfl
        have hz : q < 1 := (List.getElem?_eq_some_iff.mp hq).1
        rw [show q = 0 by omega] at hq
        cases hq
        show H[a]? = some (vp_cell _ _)
        have h1 : H[a]? = some (vp_cell cA (i, .inl f)) := h0
        rw [h1, vp_cell_i, vp_cell_i, ar_congr (fun j hj => by rw [hf j hj])]
      exact W.vret hx hb hr (fun t ht hW => ⟨rfl, by rw [ht]; exact hP9, hS.F ht⟩) hS.2.2 d_fillI_20
    · exact absurd (nI_le (Nat.le_refl i) hn) hc
  | succ k ih =>
    intro i f H locs ls hi hf hP hD hS hl
    have hin : i < n := by omega
    refine lv_iload_n hx hb d_fillI_5 rfl (lv_at hl 2 rfl) ?_
    refine lv_iload_n hx hb d_fillI_6 rfl (lv_at hl 3 rfl) ?_
    refine lv_icmp_ge (tgt := 20) hx hb d_fillI_7 (by decide) (fun hc => ?_) (fun hc => ?_)
    · exact absurd hc (nI_ge hin hn)
    · refine lv_aload_n hx hb d_fillI_10 rfl (lv_at hl 0 rfl) ?_
      refine lv_iload_n hx hb d_fillI_11 rfl (lv_at hl 2 rfl) ?_
      refine lv_iload_n hx hb d_fillI_12 rfl (lv_at hl 1 rfl) ?_
      refine va_iast (f := f) hx hb hK hP hD hS 0 0 rfl rfl (vp_in_nI hin hn) d_fillI_13 (fun H locs hP hD hS => ?_)
      refine lv_iinc (v := nI (i + 1)) (lv' := [(2, .int (nI (i + 1))), (0, .ref a), (1, .int v), (3, .int (nI n))]) hx hb d_fillI_14 hl (k := 2) rfl (nI_succ i).symm (by decide) rfl (fun ls hl => ?_)
      refine lv_goto (tgt := 5) hx hb d_fillI_17 (by decide) ?_
      refine ih (i + 1) (upd f (nI i).toNatClampNeg v) H locs ls (by omega) (fun j hj => ?_) hP hD hS (lv_sub hl [1, 2, 0, 3] rfl)
      rw [nI_clamp (by omega)]
      by_cases hji : j = i
      · subst hji; exact pk_us
      · rw [pk_un hji]; exact hf j (by omega)
set_option maxHeartbeats 4000000 in
set_option maxRecDepth 100000 in
theorem mc_fillI (l : Launch) {D : va_G} {cl : List vw_C} {a n : Nat} {cA : ClassId} {f : Nat → Int32} {v : Int32} (hn : n < 2 ^ 31) :
    Met l y_fillI (.code y_fillI b_fillI 4 none :: tw) rmF (tP D cl [(cA, .int)] [(a, .inl (cA, n, .inl f))] [.ref a, .int v]) (tQ D cl [(a, .inl (cA, n, .inl (fun _ => v)))] none (fun q => q = a)) 0 0 (fun q => q = a) := by
  refine Met.ofW (cc := b_fillI) (maxL := 4) (ret := none) (by decide) rfl ?_
  intro p e s m args below meth c s₁ B hml hv
  obtain ⟨rfl, hP, hK, -⟩ := hv
  have hx := B.exec
  have hb := B.bytes
  have hr := B.returns
  have hlocks := B.notSynchronized
  have hS : va_S (fun q => q = a) s.heap s.heap [] := va_S.rf
  have hD : va_D (fun q => q = a) [(a, .inl (cA, n, .inl f))] := ⟨fun i j x y hi hj _ => by
    have h1 : i < 1 := (List.getElem?_eq_some_iff.mp hi).1
    have h2 : j < 1 := (List.getElem?_eq_some_iff.mp hj).1
    omega, fun k q hk => by
    have hz : k < 1 := (List.getElem?_eq_some_iff.mp hk).1
    rw [show k = 0 by omega] at hk
    cases hk
    rfl⟩
  have hl := lv_entry ([.ref a, .int v]) (n := 4) (Nat.le_of_ble_eq_true rfl)
  rw [lg_entry_eq]
  generalize (lg_sl ([.ref a, .int v]) ++ List.replicate (4 - (lg_sl ([.ref a, .int v])).length) Slot.unset).toArray = ls at hl ⊢
  replace hl : lv_has ls 4 [(0, .ref a), (1, .int v)] := hl
  refine lv_iconst (v := 0) hx hb d_fillI_0 (by decide) ?_
  refine lv_istore_n (lv' := [(2, .int 0), (0, .ref a), (1, .int v)]) hx hb d_fillI_1 rfl hl (by decide) rfl (fun ls hl => ?_)
  refine lv_aload_n hx hb d_fillI_2 rfl (lv_at hl 1 rfl) ?_
  refine va_alen (v := nI n) hx hb hK hP 0 0 rfl rfl rfl d_fillI_3 ?_
  refine lv_istore_n (lv' := [(3, .int (nI n)), (2, .int 0), (0, .ref a), (1, .int v)]) hx hb d_fillI_4 rfl hl (by decide) rfl (fun ls hl => ?_)
  exact fi_loop hx hb hr hlocks hK hn n 0 f _ _ ls (by omega) (fun j hj => absurd hj (Nat.not_lt_zero j)) hP hD hS (by rw [nI_0]; exact lv_sub hl [2, 3, 1, 0] rfl)
set_option maxHeartbeats 4000000 in
set_option maxRecDepth 100000 in
theorem fj_loop {p : Program} {l : Launch} {e : Env} {s : State} {m : MethodId} {args : Array Value} {below : List Frame} {meth : Method} {c : Code} {D : va_G} {cl : List vw_C} {a n : Nat} {cA : ClassId} {v : Int64}
    (hx : p.tables.exec = Jvm.exec) (hb : c.code = b_fillJ) (hr : meth.sig.returnType = none) (hlocks : meth.locks = false) (hK : va_K D cl [(cA, .long)] s) (hn : n < 2 ^ 31) :
    ∀ (k i : Nat) (f : Nat → Int64) (H : Heap) (locs : List Loc) (ls : Array Slot), i + k = n → (∀ j, j < i → f j = v) → va_P D cl [(a, .inl (cA, n, .inr (.inl f)))] H → va_D (fun q => q = a) [(a, .inl (cA, n, .inr (.inl f)))] → va_S (fun q => q = a) s.heap H locs → lv_has ls 5 [(0, .ref a), (1, .long v), (3, .int (nI i)), (4, .int (nI n))] →
      W p l e rmF s m args below meth c H locs 0 0 (MQ below (tQ D cl [(a, .inl (cA, n, .inr (.inl (fun _ => v))))] none (fun q => q = a)) args s 0 0 (fun q => q = a)) (F0 m 6 ls []) := by
  intro k
  induction k with
  | zero =>
    intro i f H locs ls hi hf hP hD hS hl
    have hin : i = n := by omega
    subst hin
    refine lv_iload_n hx hb d_fillJ_6 rfl (lv_at hl 2 rfl) ?_
    refine lv_iload hx hb d_fillJ_7 (lv_at hl 3 rfl) ?_
    refine lv_icmp_ge (tgt := 22) hx hb d_fillJ_9 (by decide) (fun hc => ?_) (fun hc => ?_)
    · have hP9 : va_P D cl [(a, .inl (cA, i, .inr (.inl (fun _ => v))))] H := by
        intro q x hq
        have h0 := hP 0 _ rfl
        have hz : q < 1 := (List.getElem?_eq_some_iff.mp hq).1
        rw [show q = 0 by omega] at hq
        cases hq
        show H[a]? = some (vp_cell _ _)
        have h1 : H[a]? = some (vp_cell cA (i, .inr (.inl f))) := h0
        rw [h1, vp_cell_l, vp_cell_l, ar_congr (fun j hj => by rw [hf j hj])]
      exact W.vret hx hb hr (fun t ht hW => ⟨rfl, by rw [ht]; exact hP9, hS.F ht⟩) hS.2.2 d_fillJ_22
    · exact absurd (nI_le (Nat.le_refl i) hn) hc
  | succ k ih =>
    intro i f H locs ls hi hf hP hD hS hl
    have hin : i < n := by omega
    refine lv_iload_n hx hb d_fillJ_6 rfl (lv_at hl 2 rfl) ?_
    refine lv_iload hx hb d_fillJ_7 (lv_at hl 3 rfl) ?_
    refine lv_icmp_ge (tgt := 22) hx hb d_fillJ_9 (by decide) (fun hc => ?_) (fun hc => ?_)
    · exact absurd hc (nI_ge hin hn)
    · refine lv_aload_n hx hb d_fillJ_12 rfl (lv_at hl 0 rfl) ?_
      refine lv_iload_n hx hb d_fillJ_13 rfl (lv_at hl 2 rfl) ?_
      refine lv_lload_n hx hb d_fillJ_14 rfl (lv_at hl 1 rfl) ?_
      refine va_last (f := f) hx hb hK hP hD hS 0 0 rfl rfl (vp_in_nI hin hn) d_fillJ_15 (fun H locs hP hD hS => ?_)
      refine lv_iinc (v := nI (i + 1)) (lv' := [(3, .int (nI (i + 1))), (0, .ref a), (1, .long v), (4, .int (nI n))]) hx hb d_fillJ_16 hl (k := 2) rfl (nI_succ i).symm (by decide) rfl (fun ls hl => ?_)
      refine lv_goto (tgt := 6) hx hb d_fillJ_19 (by decide) ?_
      refine ih (i + 1) (vp_updL f (nI i).toNatClampNeg v) H locs ls (by omega) (fun j hj => ?_) hP hD hS (lv_sub hl [1, 2, 0, 3] rfl)
      rw [nI_clamp (by omega)]
      by_cases hji : j = i
      · subst hji; exact pk_uLs
      · rw [pk_uLn hji]; exact hf j (by omega)
set_option maxHeartbeats 4000000 in
set_option maxRecDepth 100000 in
theorem mc_fillJ (l : Launch) {D : va_G} {cl : List vw_C} {a n : Nat} {cA : ClassId} {f : Nat → Int64} {v : Int64} (hn : n < 2 ^ 31) :
    Met l y_fillJ (.code y_fillJ b_fillJ 5 none :: tw) rmF (tP D cl [(cA, .long)] [(a, .inl (cA, n, .inr (.inl f)))] [.ref a, .long v]) (tQ D cl [(a, .inl (cA, n, .inr (.inl (fun _ => v))))] none (fun q => q = a)) 0 0 (fun q => q = a) := by
  refine Met.ofW (cc := b_fillJ) (maxL := 5) (ret := none) (by decide) rfl ?_
  intro p e s m args below meth c s₁ B hml hv
  obtain ⟨rfl, hP, hK, -⟩ := hv
  have hx := B.exec
  have hb := B.bytes
  have hr := B.returns
  have hlocks := B.notSynchronized
  have hS : va_S (fun q => q = a) s.heap s.heap [] := va_S.rf
  have hD : va_D (fun q => q = a) [(a, .inl (cA, n, .inr (.inl f)))] := ⟨fun i j x y hi hj _ => by
    have h1 : i < 1 := (List.getElem?_eq_some_iff.mp hi).1
    have h2 : j < 1 := (List.getElem?_eq_some_iff.mp hj).1
    omega, fun k q hk => by
    have hz : k < 1 := (List.getElem?_eq_some_iff.mp hk).1
    rw [show k = 0 by omega] at hk
    cases hk
    rfl⟩
  have hl := lv_entry ([.ref a, .long v]) (n := 5) (Nat.le_of_ble_eq_true rfl)
  rw [lg_entry_eq]
  generalize (lg_sl ([.ref a, .long v]) ++ List.replicate (5 - (lg_sl ([.ref a, .long v])).length) Slot.unset).toArray = ls at hl ⊢
  replace hl : lv_has ls 5 [(0, .ref a), (1, .long v)] := hl
  refine lv_iconst (v := 0) hx hb d_fillJ_0 (by decide) ?_
  refine lv_istore_n (lv' := [(3, .int 0), (0, .ref a), (1, .long v)]) hx hb d_fillJ_1 rfl hl (by decide) rfl (fun ls hl => ?_)
  refine lv_aload_n hx hb d_fillJ_2 rfl (lv_at hl 1 rfl) ?_
  refine va_alen (v := nI n) hx hb hK hP 0 0 rfl rfl rfl d_fillJ_3 ?_
  refine lv_istore (lv' := [(4, .int (nI n)), (3, .int 0), (0, .ref a), (1, .long v)]) hx hb d_fillJ_4 hl (by decide) rfl (fun ls hl => ?_)
  exact fj_loop hx hb hr hlocks hK hn n 0 f _ _ ls (by omega) (fun j hj => absurd hj (Nat.not_lt_zero j)) hP hD hS (by rw [nI_0]; exact lv_sub hl [2, 3, 1, 0] rfl)
section TRF
variable {p : Program} {l : Launch} {e : Env} {R : Room} {s : State} {m : MethodId} {args : Array Value} {below : List Frame} {meth : Method} {c : Code} {H : Heap} {locs : List Loc} {cells slots : Nat} {Q : State → Prop}
variable {cc : ByteArray} {pc nL : Nat} {ls : Array Slot} {rest : List Value} {D : va_G} {cl : List vw_C} {A : Nat → Prop} {a : Nat} {tys : List (ClassId × FieldType)} {ws : va_W} {H0 : Heap} {own : String} {index : Nat}
theorem tr_set {q0 : Nat} {e0 e1 : va_E} {H1 : Heap} (h : va_P D cl ws H) (hD : va_D A ws) (hp : ws[q0]? = some (a, e0)) (he : va_at D cl (a, e1) H1) (oq : ∀ q : Nat, q < H.size → ¬ q = a → H1[q]? = H[q]?) : va_P D cl (ws.set q0 (a, e1)) H1 := by
  have hl := (List.getElem?_eq_some_iff.mp hp).1
  intro k q hk
  by_cases hkp : k = q0
  · subst hkp
    rw [List.getElem?_set_self hl] at hk
    cases hk
    exact he
  · rw [List.getElem?_set_ne (Ne.symm hkp)] at hk
    exact (h k q hk).kept (oq q.1 ((h k q hk).lt) (fun z => hkp (hD.1 k q0 q (a, e0) hk hp z)))
theorem tr_fillI (S : CallFix p m c cc nL s args tw own) (cw : CallB R s args own index y_fillI b_fillI 4 none (.code y_fillI b_fillI 4 none :: tw) rmF 0 0 2 ∧ (Cond.static y_fillI).before args s = true) (hK : va_K D cl tys s) (hN : tW s) (hP : va_P D cl ws H) (hD : va_D A ws) (hS : va_S A H0 H locs) (q0 t0 : Nat) {cA : ClassId} {n : Nat} {f : Nat → Int32} (ha : ws[q0]? = some (a, .inl (cA, n, .inl f))) (ht : tys[t0]? = some (cA, .int)) {v : Int32} (hn : n < 2 ^ 31) (hsz : ls.size = nL) (hW : 2 * (F0 m pc ls (.int v :: .ref a :: rest)).monitorRoom + (rest.map fun v => v.category).sum ≤ 8) (hdg : decode cc pc = .ok (.invokestatic index, 3))
    (kk : ∀ (H1 : Heap) (locs1 : List Loc), va_P D cl (ws.set q0 (a, .inl (cA, n, .inl (fun _ => v)))) H1 → va_S A H0 H1 locs1 → W p l e R s m args below meth c H1 locs1 cells slots Q (F0 m (pc + 3) ls rest)) (hc : cells ≤ R.cells ∧ slots ≤ R.slots) : W p l e R s m args below meth c H locs cells slots Q (F0 m pc ls (.int v :: .ref a :: rest)) := by
  have h1 : va_P D cl [(a, .inl (cA, n, .inl f))] H := hP.sub [q0] (by simp [ha])
  have h2 : va_K D cl [(cA, .int)] s := hK.sub [t0] (by simp [ht])
  exact tr_call (va_runS (As := [.ref a, .int v]) (rest := rest) S (mc_fillI l hn) cw ⟨tP_blind, fun U hU hW => ⟨rfl, by rw [hU]; exact h1, va_K.moved hW.alike h2, tW_warm hW hN⟩⟩ rfl rfl hsz rfl hW hdg hc) hS (fun q hq => by rw [hq]; exact hD.2 q0 _ ha) (fun q hq => by rw [hq]; exact hD.2 q0 _ ha)
    (fun H1 locs1 hP1 hk hz hS1 => kk H1 locs1 (tr_set hP hD ha (hP1 0 _ rfl) hk) hS1)
theorem tr_fillJ (S : CallFix p m c cc nL s args tw own) (cw : CallB R s args own index y_fillJ b_fillJ 5 none (.code y_fillJ b_fillJ 5 none :: tw) rmF 0 0 2 ∧ (Cond.static y_fillJ).before args s = true) (hK : va_K D cl tys s) (hN : tW s) (hP : va_P D cl ws H) (hD : va_D A ws) (hS : va_S A H0 H locs) (q0 t0 : Nat) {cA : ClassId} {n : Nat} {f : Nat → Int64} (ha : ws[q0]? = some (a, .inl (cA, n, .inr (.inl f)))) (ht : tys[t0]? = some (cA, .long)) {v : Int64} (hn : n < 2 ^ 31) (hsz : ls.size = nL) (hW : 2 * (F0 m pc ls (.long v :: .ref a :: rest)).monitorRoom + (rest.map fun v => v.category).sum ≤ 8) (hdg : decode cc pc = .ok (.invokestatic index, 3))
    (kk : ∀ (H1 : Heap) (locs1 : List Loc), va_P D cl (ws.set q0 (a, .inl (cA, n, .inr (.inl (fun _ => v))))) H1 → va_S A H0 H1 locs1 → W p l e R s m args below meth c H1 locs1 cells slots Q (F0 m (pc + 3) ls rest)) (hc : cells ≤ R.cells ∧ slots ≤ R.slots) : W p l e R s m args below meth c H locs cells slots Q (F0 m pc ls (.long v :: .ref a :: rest)) := by
  have h1 : va_P D cl [(a, .inl (cA, n, .inr (.inl f)))] H := hP.sub [q0] (by simp [ha])
  have h2 : va_K D cl [(cA, .long)] s := hK.sub [t0] (by simp [ht])
  exact tr_call (va_runS (As := [.ref a, .long v]) (rest := rest) S (mc_fillJ l hn) cw ⟨tP_blind, fun U hU hW => ⟨rfl, by rw [hU]; exact h1, va_K.moved hW.alike h2, tW_warm hW hN⟩⟩ rfl rfl hsz rfl hW hdg hc) hS (fun q hq => by rw [hq]; exact hD.2 q0 _ ha) (fun q hq => by rw [hq]; exact hD.2 q0 _ ha)
    (fun H1 locs1 hP1 hk hz hS1 => kk H1 locs1 (tr_set hP hD ha (hP1 0 _ rfl) hk) hS1)
end TRF
