/-- the cells of component M in the state σ, at the addresses ad; ta: the classes of its arrays -/
def cwM (ad : Nat → Nat) (ta : Nat → ClassId) (σ : tS) : va_W := [
  (ad 0, .inr (3, [.ref (ad 1), .ref (ad 2)])),
  (ad 1, .inl (ta 0, 108, .inl (σ.2.1 0))),
  (ad 2, .inr (7, [.ref (ad 3), .ref (ad 4), .ref (ad 5)])),
  (ad 3, .inl (ta 1, 3, .inr (.inl (σ.2.2 0)))),
  (ad 4, .inl (ta 2, 3, .inr (.inl (σ.2.2 1)))),
  (ad 5, .inl (ta 3, 3, .inl (σ.2.1 1)))]
def tyM (ta : Nat → ClassId) : List (ClassId × FieldType) := [(ta 0, .int), (ta 1, .long), (ta 2, .long), (ta 3, .int)]

theorem kD_same {A : Nat → Prop} {w1 w2 : va_W} (h : va_D A w1) (he : w1.map Prod.fst = w2.map Prod.fst) : va_D A w2 := by
  have at' : ∀ (i : Nat) (p : Nat × va_E), w2[i]? = some p → ∃ q, w1[i]? = some q ∧ q.1 = p.1 := by
    intro i p hp
    have h1 : (w2.map Prod.fst)[i]? = some p.1 := by rw [List.getElem?_map, hp]; rfl
    rw [← he, List.getElem?_map] at h1
    cases h2 : w1[i]? with
    | none => rw [h2] at h1; cases h1
    | some q => rw [h2] at h1; exact ⟨q, rfl, Option.some.inj h1⟩
  refine ⟨fun i j p q hi hj e => ?_, fun k q hk => ?_⟩
  · obtain ⟨p', h1, h2⟩ := at' i p hi
    obtain ⟨q', h3, h4⟩ := at' j q hj
    exact h.1 i j p' q' h1 h3 (by rw [h2, h4]; exact e)
  · obtain ⟨q', h1, h2⟩ := at' k q hk
    rw [← h2]
    exact h.2 k q' h1
def z0 : tS := (fun _ => 0, fun _ _ => 0, fun _ _ => 0)

/-- TripRounds$Modes.placeOf(II)I  -/
def mf_kM_placeOf (p0 : Int32) (p1 : Int32) (σ : tS) : Option (Int32 × tS) :=
  some (((p0 * (36 : Int32)) + p1), σ)
abbrev rm_kM_placeOf : Room := { frames := 0, cells := 0, slots := 0, locals := 0 }
set_option maxHeartbeats 4000000 in
set_option maxRecDepth 100000 in
theorem mc_kM_placeOf (l : Launch) {D : va_G} {ad : Nat → Nat} {ta : Nat → ClassId} (hd : True) {σ σ' : tS} {p0 : Int32} {p1 : Int32} {r : Int32} (hf : mf_kM_placeOf p0 p1 σ = some (r, σ')) : Met l y_M_placeOf (.code y_M_placeOf b_M_placeOf 2 (some .int) :: tw) rm_kM_placeOf (tP D clS (tyM ta) (cwM ad ta σ) [.int p0, .int p1]) (tQ D clS (cwM ad ta σ') (some (.int r)) tNo) 0 0 tNo := by
  refine Met.ofW (cc := b_M_placeOf) (maxL := 2) (ret := (some .int)) (by decide) rfl ?_
  intro p e s m args below meth c s₁ B hml hv
  obtain ⟨rfl, hP, hK, hN⟩ := hv
  have hx := B.exec
  have hb := B.bytes
  have hr := B.returns
  have ht : ∀ w ∈ tw, w.before [.int p0, .int p1].toArray s = true := fun w h => atoms_spec (ws := (.code y_M_placeOf b_M_placeOf 2 (some .int) :: tw)) B.pre w (List.mem_cons_of_mem _ h)
  have hown : s.vm.findClass R_M = some m.cls := findClass_of_methodNamed B.named
  have hlocks := B.notSynchronized
  have CX : tC p s m [.int p0, .int p1].toArray meth c b_M_placeOf (some .int) 2 R_M D clS (tyM ta) := ⟨hx, hb, hr, hml, hown, ht, hlocks, hK, hN⟩
  have hS : va_S tNo s.heap s.heap [] := va_S.rf
  have hl := lv_entry ([.int p0, .int p1]) (n := 2) (Nat.le_of_ble_eq_true rfl)
  rw [lg_entry_eq]
  generalize (lg_sl ([.int p0, .int p1]) ++ List.replicate (2 - (lg_sl ([.int p0, .int p1])).length) Slot.unset).toArray = ls at hl ⊢
  replace hl : lv_has ls 2 [(0, .int p0), (1, .int p1)] := hl
  unfold mf_kM_placeOf at hf
  refine lv_iload_n hx hb d_M_placeOf_0 rfl (lv_at hl 0 rfl) ?_
  refine lv_bipush (v := (36 : Int32)) hx hb d_M_placeOf_1 (by decide) ?_
  refine lv_imul hx hb d_M_placeOf_3 ?_
  refine lv_iload_n hx hb d_M_placeOf_4 rfl (lv_at hl 1 rfl) ?_
  refine lv_iadd hx hb d_M_placeOf_5 ?_
  obtain ⟨rfl, rfl⟩ := tp_of hf
  exact W.iret (v := ((p0 * (36 : Int32)) + p1)) hx hb hr (fun t ht hW => ⟨rfl, by rw [ht]; exact hP, hS.F ht⟩) hS.2.2 d_M_placeOf_6
/-- TripRounds$Modes.<init>, the loop at 26 -/
def ms_kM_init_26 (go : Int32 → tS → Option (Int32 × tS)) : Int32 → tS → Option (Int32 × tS) := fun v1 σ =>
  if (36 : Int32) ≤ v1 then (some (v1, σ)) else (tb2 (mf_kM_placeOf (0 : Int32) v1 σ) (fun r_1 s_1 => tg r_1 108 (go (v1 + (1 : Int32)) (tI s_1 0 r_1.toNatClampNeg (1000 : Int32)))))
def ml_kM_init_26 : Nat → Int32 → tS → Option (Int32 × tS) := tit (fun _ _ => none) ms_kM_init_26
theorem nI_lit36 : (36 : Int32) = nI 36 := by decide
/-- the pulls as a new object has them -/
theorem kl_M : ∀ (k i : Nat) (σ : tS) (f : Nat), i + k = 36 → k < f → ∃ v σ1, ml_kM_init_26 f (nI i) σ = some (v, σ1) ∧ σ1.1 = σ.1 ∧ σ1.2.2 = σ.2.2 ∧ (∀ a, a ≠ 0 → σ1.2.1 a = σ.2.1 a) ∧ ∀ j, (i ≤ j ∧ j < 36 → σ1.2.1 0 j = 1000) ∧ (j < i ∨ 36 ≤ j → σ1.2.1 0 j = σ.2.1 0 j) := by
  intro k
  induction k with
  | zero =>
    intro i σ f hi hf
    obtain ⟨f, rfl⟩ : ∃ g, f = g + 1 := ⟨f - 1, by omega⟩
    have hi' : i = 36 := by omega
    subst hi'
    refine ⟨nI 36, σ, ?_, rfl, rfl, fun _ _ => rfl, fun j => ⟨fun h => absurd h.2 (by omega), fun _ => rfl⟩⟩
    show ms_kM_init_26 (ml_kM_init_26 f) (nI 36) σ = _
    unfold ms_kM_init_26
    rw [if_pos (by rw [nI_lit36]; exact nI_le (Nat.le_refl _) (by decide))]
  | succ k ih =>
    intro i σ f hi hf
    obtain ⟨f, rfl⟩ : ∃ g, f = g + 1 := ⟨f - 1, by omega⟩
    have hlt : i < 36 := by omega
    have hr : ((0 : Int32) * (36 : Int32) + nI i) = nI i := by rw [Int32.zero_mul, Int32.zero_add]
    have hin : ¬ (nI i < 0 ∨ 108 ≤ (nI i).toNatClampNeg) := nI_in (by omega) (by decide)
    have e1 : ml_kM_init_26 (f + 1) (nI i) σ = ml_kM_init_26 f (nI i + 1) (tI σ 0 (nI i).toNatClampNeg 1000) := by
      show ms_kM_init_26 (ml_kM_init_26 f) (nI i) σ = _
      unfold ms_kM_init_26
      rw [if_neg (by rw [nI_lit36]; exact nI_ge hlt (by decide))]
      unfold mf_kM_placeOf
      simp only [tb2, hr, tg, if_neg hin]
    rw [e1, nI_1, nI_clamp (by omega)]
    obtain ⟨v, σ1, h1, h2, h3, h4, h5⟩ := ih (i + 1) (tI σ 0 i 1000) f (by omega) (by omega)
    refine ⟨v, σ1, h1, h2, h3, fun a ha => ?_, fun j => ⟨fun hj => ?_, fun hj => ?_⟩⟩
    · rw [h4 a ha]
      show (if a = 0 then _ else _) = _
      rw [if_neg ha]
    · by_cases hji : j = i
      · subst hji
        rw [(h5 j).2 (Or.inl (by omega))]
        show upd (σ.2.1 0) j 1000 j = 1000
        exact pk_us
      · exact (h5 j).1 ⟨by omega, hj.2⟩
    · rw [(h5 j).2 (by omega)]
      show upd (σ.2.1 0) i 1000 j = _
      exact pk_un (by omega)

def kwM (ad : Nat → Nat) (ta : Nat → ClassId) : va_W := [
  ((ad 0), .inr (3, [.ref (ad 1), .ref (ad 2)])),
  ((ad 1), .inl ((ta 0), 108, .inl (fun k => if k < 36 then 1000 else 0))),
  ((ad 2), .inr (7, [.ref (ad 3), .ref (ad 4), .ref (ad 5)])),
  ((ad 3), .inl ((ta 1), 3, .inr (.inl (fun _ => 0)))),
  ((ad 4), .inl ((ta 2), 3, .inr (.inl (fun _ => 0)))),
  ((ad 5), .inl ((ta 3), 3, .inl (fun _ => 0)))]
def kwMt (ta : Nat → ClassId) : List (ClassId × FieldType) := [((ta 0), .int), ((ta 1), .long), ((ta 2), .long), ((ta 3), .int)]
abbrev rk_M : Room := { frames := 2, cells := 5, slots := 120, locals := 60 }

set_option maxHeartbeats 4000000 in
set_option maxRecDepth 100000 in
theorem mw_kM_init_26 {p : Program} {l : Launch} {e : Env} {s : State} {m : MethodId} {args : Array Value} {below : List Frame} {meth : Method} {c : Code} {D : va_G} {ad : Nat → Nat} {ta : Nat → ClassId} {Q : State → Prop} {A : Nat → Prop} (hDA : ∀ σ : tS, va_D A (cwM ad ta σ)) (CX : tC p s m args meth c b_M_init none 2 R_M D clS (tyM ta)) (hd : True) : ∀ (k : Nat) (v1 : Int32) (σ : tS) (res : (Int32 × tS)), ml_kM_init_26 k v1 σ = some res → ∀ (H : Heap) (locs : List Loc), va_P D clS (cwM ad ta σ) H → va_S A s.heap H locs → ∀ (ls : Array Slot), lv_has ls 2 [(0, .ref (ad 0)), (1, .int v1)] → (∀ (H : Heap) (locs : List Loc), va_P D clS (cwM ad ta res.2) H → va_S A s.heap H locs → ∀ (ls : Array Slot), lv_has ls 2 [(0, .ref (ad 0)), (1, .int res.1)] → W p l e rk_M s m args below meth c H locs 5 120 Q (F0 m 51 ls [])) → W p l e rk_M s m args below meth c H locs 5 120 Q (F0 m 26 ls []) := by
  obtain ⟨hx, hb, hr, hml, hown, ht, hlocks, hK, hN⟩ := id CX
  intro k
  induction k with
  | zero =>
    intro v1 σ res hf
    exact tn_no hf
  | succ k ih =>
    intro v1 σ res hf H locs hP hS ls hl kk
    replace hf : ms_kM_init_26 (ml_kM_init_26 k) v1 σ = some res := hf
    unfold ms_kM_init_26 at hf
    refine lv_iload_n hx hb d_M_init_26 rfl (lv_at hl 1 rfl) ?_
    refine lv_bipush (v := (36 : Int32)) hx hb d_M_init_27 (by decide) ?_
    refine lv_icmp_ge (tgt := 51) hx hb d_M_init_29 (by decide) (fun hc => ?_) (fun hc => ?_)
    · replace hf := ti_pos hc hf
      obtain rfl := ts_of hf
      exact kk _ _ hP hS _ (lv_sub hl [0, 1] rfl)
    · replace hf := ti_neg hc hf
      refine lv_aload_n hx hb d_M_init_32 rfl (lv_at hl 0 rfl) ?_
      refine va_get (ci := 3) (v := .ref (ad 1)) (C := R_M) (T := F_M) (N := 2) hx hb ht iw_M hown hK hP 0 rfl rfl 0 (by decide) (ht _ wd_142) (fun _ h9 => h9) rfl d_M_init_33 ?_
      refine lv_iconst (v := (0 : Int32)) hx hb d_M_init_36 (by decide) ?_
      refine lv_iload_n hx hb d_M_init_37 rfl (lv_at hl 1 rfl) ?_
      obtain ⟨r_1, s_1, hq1, hf⟩ := tb2_of hf
      refine tr_calli (va_runS (As := [.int (0 : Int32), .int v1]) (rest := [.ref (ad 1)]) ⟨hx, hb, hml, hown, ht⟩ (mc_kM_placeOf l hd hq1) ⟨(tw_cb (n := 2) ht wc_M_placeOf wd_39 wd_139 ⟨rfl, rfl⟩ (by decide +kernel) ⟨(Nat.le_of_ble_eq_true rfl), (Nat.le_of_ble_eq_true rfl)⟩), ht _ wd_140⟩ ⟨tP_blind, fun U hU hW => ⟨rfl, by rw [hU]; exact hP, va_K.moved hW.alike hK, tW_warm hW hN⟩⟩ rfl rfl hl.1 rfl (lv_room (Nat.le_of_ble_eq_true rfl)) d_M_init_38 ⟨(Nat.le_of_ble_eq_true rfl), (Nat.le_of_ble_eq_true rfl)⟩) hS (fun _ h => h.elim) (fun _ h => h.elim) (fun H locs hP hS => ?_)
      refine lv_sipush (v := (1000 : Int32)) hx hb d_M_init_41 (by decide) ?_
      obtain ⟨hi2, hf⟩ := tg_of hf
      refine va_iast (f := s_1.2.1 0) hx hb hK hP (hDA _) hS 1 0 rfl rfl hi2 d_M_init_44 (fun H locs hP _ hS => ?_)
      replace hP : va_P D clS (cwM ad ta (tI s_1 0 r_1.toNatClampNeg (1000 : Int32))) H := hP
      refine lv_iinc (v := (v1 + (1 : Int32))) (lv' := [(1, .int (v1 + (1 : Int32))), (0, .ref (ad 0))]) hx hb d_M_init_45 hl (k := 1) rfl rfl (by decide) rfl (fun ls hl => ?_)
      refine lv_goto (tgt := 26) hx hb d_M_init_48 (by decide) ?_
      exact ih _ _ _ hf _ _ hP hS _ (lv_sub hl [1, 0] rfl) kk
set_option maxHeartbeats 4000000 in
set_option maxRecDepth 100000 in
theorem mk_M (l : Launch) {D : va_G} {h0 sz : Nat} : Met l y_M_init (.code y_M_init b_M_init 2 none :: tw) rk_M (kP D [(h0, .inr (3, [.null, .null]))] [.ref h0] sz) (va_Qv (fun u : (Nat → Nat) × (Nat → ClassId) => u.1 0 = h0) (kB D (va_A [(h0, .inr (3, [.null, .null]))] sz) kwM kwMt) (va_A [(h0, .inr (3, [.null, .null]))] sz)) 5 120 (va_A [(h0, .inr (3, [.null, .null]))] sz) := by
  refine Met.ofW (cc := b_M_init) (maxL := 2) (ret := none) (by decide) rfl ?_
  intro p e s m args below meth c s₁ B hml hv
  obtain ⟨rfl, hsz, hP, hK, hD0, hN⟩ := hv
  have hx := B.exec
  have hb := B.bytes
  have hr := B.returns
  have ht : ∀ w ∈ tw, w.before [.ref h0].toArray s = true := fun w h => atoms_spec (ws := (.code y_M_init b_M_init 2 none :: tw)) B.pre w (List.mem_cons_of_mem _ h)
  have hown : s.vm.findClass R_M = some m.cls := findClass_of_methodNamed B.named
  have hlocks := B.notSynchronized
  have hin : meth.name = "<init>" := (name_of_methodNamed B.named B.method).1
  subst hsz
  have hD := hD0.self (sz := s.heap.size)
  generalize hAe : va_A [(h0, .inr (3, [.null, .null]))] s.heap.size = A at hD ⊢
  have hA : ∀ q : Nat, s.heap.size ≤ q → A q := fun q h => by rw [← hAe]; exact Or.inr h
  have hS : va_S A s.heap s.heap [] := va_S.rf
  replace hP : va_P D clS [(h0, .inr (3, [.null, .null]))] s.heap := hP
  have hl := lv_entry ([.ref h0]) (n := 2) (Nat.le_of_ble_eq_true rfl)
  rw [lg_entry_eq]
  generalize (lg_sl ([.ref h0]) ++ List.replicate (2 - (lg_sl ([.ref h0])).length) Slot.unset).toArray = ls at hl ⊢
  replace hl : lv_has ls 2 [(0, .ref h0)] := hl
  refine lv_aload_n hx hb d_M_init_0 rfl (lv_at hl 0 rfl) ?_
  refine W.objInit hx hb hown (ht _ wd_136) (ht _ wd_56) (ht _ wc_object) rfl (by rw [hml]; exact hl.1) rfl d_M_init_1 (Nat.le_of_ble_eq_true rfl) (Nat.le_of_ble_eq_true rfl) ?_
  refine W.eq (g2 := F0 m 4 ls []) rfl ?_
  refine lv_aload_n hx hb d_M_init_4 rfl (lv_at hl 0 rfl) ?_
  refine lv_bipush (v := (108 : Int32)) hx hb d_M_init_5 (by decide) ?_
  refine va_newa (atype := .int) (a0 := (108, .inl (fun _ => 0))) (ty := .int) (N' := 108) hx hb (ht _ wd_84) rfl hK hP hD hS hA (fun _ => rfl) (by decide) (by decide) (Nat.le_of_ble_eq_true rfl) (Nat.le_of_ble_eq_true rfl) (Nat.le_of_ble_eq_true rfl) d_M_init_7 (fun q1 c1 H1 hK hP hD hS => ?_)
  replace hK : va_K D clS [(c1, .int)] s := hK
  replace hP : va_P D clS [(h0, .inr (3, [.null, .null])), (q1, .inl (c1, 108, .inl (fun _ => 0)))] H1 := hP
  replace hD : va_D A [(h0, .inr (3, [.null, .null])), (q1, .inl (c1, 108, .inl (fun _ => 0)))] := hD
  refine va_putF (ci := 3) (v := .ref q1) (ty := .array .int) (C := R_M) (T := F_M) (N := 2) hx hb ht iw_M ft_M to_M nm_M hown hK hP hD hS 0 rfl rfl 0 (by decide) (ht _ wd_142) (fun _ h9 => h9) rfl hin rfl (by decide +kernel) rfl rfl (Nat.le_of_ble_eq_true rfl) d_M_init_9 (fun H2 locs hP hD hS => ?_)
  replace hP : va_P D clS [(h0, .inr (3, [.ref q1, .null])), (q1, .inl (c1, 108, .inl (fun _ => 0)))] H2 := hP
  replace hD : va_D A [(h0, .inr (3, [.ref q1, .null])), (q1, .inl (c1, 108, .inl (fun _ => 0)))] := hD
  refine lv_aload_n hx hb d_M_init_12 rfl (lv_at hl 0 rfl) ?_
  refine va_new (ci := 7) (fs := [.null, .null, .null]) (C := R_H) (T := F_H) (N := 3) hx hb ht iw_H ft_H to_H hown (ht _ wd_137) (ht _ wd_92) (ht _ wd_37) hK hP hD hS hA rfl (by decide) (Nat.le_of_ble_eq_true rfl) (Nat.le_of_ble_eq_true rfl) d_M_init_13 (fun q3 H3 hP hD hS => ?_)
  replace hP : va_P D clS [(h0, .inr (3, [.ref q1, .null])), (q1, .inl (c1, 108, .inl (fun _ => 0))), (q3, .inr (7, [.null, .null, .null]))] H3 := hP
  replace hD : va_D A [(h0, .inr (3, [.ref q1, .null])), (q1, .inl (c1, 108, .inl (fun _ => 0))), (q3, .inr (7, [.null, .null, .null]))] := hD
  refine lv_dup hx hb d_M_init_16 rfl ?_
  refine lv_iconst (v := (3 : Int32)) hx hb d_M_init_17 (by decide) ?_
  have hPc := hP.sub (ws' := [(q3, .inr (7, [.null, .null, .null]))]) [2] rfl
  have hDc := hD.sub (ws' := [(q3, .inr (7, [.null, .null, .null]))]) [2] (by decide) rfl
  have hKc := hK.sub (tys' := []) [] rfl
  have hFc := va_free (wc := [(q3, .inr (7, [.null, .null, .null]))]) hD hS hA [2] rfl
  refine va_callv (va_runI (As := [.int (3 : Int32)]) (rest := [.ref q3, .ref h0]) ⟨hx, hb, hml, hown, ht⟩ (mk_H3 l (D := D) (h0 := q3) (sz := H3.size)) ⟨callB_of 1 ht (tw_G wc_H_init) rfl rfl rfl (ht _ wd_37) (ht _ wd_138) (by decide +kernel) ⟨(Nat.le_of_ble_eq_true rfl), (Nat.le_of_ble_eq_true rfl)⟩, rfl, ht _ wd_94⟩ ⟨kP_blind, fun U hU hW => ⟨rfl, by rw [hU], by rw [hU]; exact hPc, va_K.moved hW.alike hKc, hDc.weaken (fun _ _ _ _ => trivial), tW_warm hW hN⟩⟩ rfl rfl hl.1 rfl (lv_room (Nat.le_of_ble_eq_true rfl)) d_M_init_18 ⟨(Nat.le_of_ble_eq_true rfl), (Nat.le_of_ble_eq_true rfl)⟩) hS (fun q _ h => hFc q h) hFc (fun u4 t4 H4 locs hth hvm hw hB hz1 hk1 hS => ?_)
  obtain ⟨aH3, dH3⟩ := u4
  obtain ⟨hP1, hK1, hD1⟩ := hB
  rw [hth] at hP1
  have hK1 := va_K.moved hvm.symm hK1
  replace hw : aH3 0 = q3 := hw
  subst hw
  obtain ⟨hP, hD⟩ := va_join (wr := [(h0, .inr (3, [.ref q1, .null])), (q1, .inl (c1, 108, .inl (fun _ => 0)))]) (w1 := kwK aH3 dH3) hP hD [2] [0, 1] rfl rfl (by decide) (by decide) hk1 hFc hP1 hD1
  have hK := hK.app hK1
  replace hK : va_K D clS [(c1, .int), ((dH3 0), .long), ((dH3 1), .long), ((dH3 2), .int)] s := hK
  replace hP : va_P D clS [(h0, .inr (3, [.ref q1, .null])), (q1, .inl (c1, 108, .inl (fun _ => 0))), ((aH3 0), .inr (7, [.ref (aH3 1), .ref (aH3 2), .ref (aH3 3)])), ((aH3 1), .inl ((dH3 0), 3, .inr (.inl (fun _ => 0)))), ((aH3 2), .inl ((dH3 1), 3, .inr (.inl (fun _ => 0)))), ((aH3 3), .inl ((dH3 2), 3, .inl (fun _ => 0)))] H4 := hP
  replace hD : va_D A [(h0, .inr (3, [.ref q1, .null])), (q1, .inl (c1, 108, .inl (fun _ => 0))), ((aH3 0), .inr (7, [.ref (aH3 1), .ref (aH3 2), .ref (aH3 3)])), ((aH3 1), .inl ((dH3 0), 3, .inr (.inl (fun _ => 0)))), ((aH3 2), .inl ((dH3 1), 3, .inr (.inl (fun _ => 0)))), ((aH3 3), .inl ((dH3 2), 3, .inl (fun _ => 0)))] := hD
  refine va_putF (ci := 3) (v := .ref (aH3 0)) (ty := .object "TripRounds$Sharing") (C := R_M) (T := F_M) (N := 2) hx hb ht iw_M ft_M to_M nm_M hown hK hP hD hS 0 rfl rfl 1 (by decide) (ht _ wd_144) (fun _ h9 => h9) rfl hin rfl (by decide +kernel) rfl rfl (Nat.le_of_ble_eq_true rfl) d_M_init_21 (fun H5 locs hP hD hS => ?_)
  replace hP : va_P D clS [(h0, .inr (3, [.ref q1, .ref (aH3 0)])), (q1, .inl (c1, 108, .inl (fun _ => 0))), ((aH3 0), .inr (7, [.ref (aH3 1), .ref (aH3 2), .ref (aH3 3)])), ((aH3 1), .inl ((dH3 0), 3, .inr (.inl (fun _ => 0)))), ((aH3 2), .inl ((dH3 1), 3, .inr (.inl (fun _ => 0)))), ((aH3 3), .inl ((dH3 2), 3, .inl (fun _ => 0)))] H5 := hP
  replace hD : va_D A [(h0, .inr (3, [.ref q1, .ref (aH3 0)])), (q1, .inl (c1, 108, .inl (fun _ => 0))), ((aH3 0), .inr (7, [.ref (aH3 1), .ref (aH3 2), .ref (aH3 3)])), ((aH3 1), .inl ((dH3 0), 3, .inr (.inl (fun _ => 0)))), ((aH3 2), .inl ((dH3 1), 3, .inr (.inl (fun _ => 0)))), ((aH3 3), .inl ((dH3 2), 3, .inl (fun _ => 0)))] := hD
  refine lv_iconst (v := (0 : Int32)) hx hb d_M_init_24 (by decide) ?_
  refine lv_istore_n (lv' := [(1, .int (0 : Int32)), (0, .ref h0)]) hx hb d_M_init_25 rfl hl (by decide) rfl (fun ls hl => ?_)
  obtain ⟨ad, had⟩ : ∃ ad : Nat → Nat, ad = fun k => [h0, q1, (aH3 0), (aH3 1), (aH3 2), (aH3 3)].getD k 0 := ⟨_, rfl⟩
  obtain ⟨ta, hta⟩ : ∃ ta : Nat → ClassId, ta = fun k => [c1, (dH3 0), (dH3 1), (dH3 2)].getD k 0 := ⟨_, rfl⟩
  have hPm : va_P D clS (cwM ad ta z0) H5 := by subst had hta; exact hP
  have hKm : va_K D clS (tyM ta) s := by subst hta; exact hK
  have hDA : ∀ σ : tS, va_D A (cwM ad ta σ) := fun σ => by subst had hta; exact kD_same hD rfl
  have CX : tC p s m [.ref h0].toArray meth c b_M_init none 2 R_M D clS (tyM ta) := ⟨hx, hb, hr, hml, hown, ht, hlocks, hKm, hN⟩
  obtain ⟨v9, s9, hq9, hF9, hJ9, hI9, hp9⟩ := kl_M 36 0 z0 4096 (by decide) (by decide)
  have hl2 : lv_has ls 2 [(0, .ref (ad 0)), (1, .int (nI 0))] := by subst had; exact lv_sub hl [1, 0] rfl
  refine mw_kM_init_26 hDA CX trivial _ _ _ _ hq9 _ _ hPm hS _ hl2 (fun H99 locs hP hS ls hl => ?_)
  have hP := kc_I (k := 1) (g := fun k => if k < 36 then 1000 else 0) hP rfl (fun j hj => by
    have h8 := hp9 j
    by_cases h7 : j < 36
    · rw [h8.1 ⟨Nat.zero_le j, h7⟩, if_pos h7]
    · rw [h8.2 (Or.inr (Nat.le_of_not_lt h7)), if_neg h7]; rfl)
  have hI1 : s9.2.1 1 = fun _ => 0 := hI9 1 (by decide)
  have hJ0 : s9.2.2 = fun _ _ => 0 := hJ9
  replace hP : va_P D clS [(ad 0, .inr (3, [.ref (ad 1), .ref (ad 2)])), (ad 1, .inl (ta 0, 108, .inl (fun k => if k < 36 then 1000 else 0))), (ad 2, .inr (7, [.ref (ad 3), .ref (ad 4), .ref (ad 5)])), (ad 3, .inl (ta 1, 3, .inr (.inl (s9.2.2 0)))), (ad 4, .inl (ta 2, 3, .inr (.inl (s9.2.2 1)))), (ad 5, .inl (ta 3, 3, .inl (s9.2.1 1)))] H99 := hP
  rw [hI1, hJ0] at hP
  have hP9 : va_P D clS (kwM ad ta) H99 := hP
  have hD9 : va_D A (kwM ad ta) := kD_same (hDA z0) rfl
  have hK9 : va_K D clS (kwMt ta) s := hKm
  have h00 : ad 0 = h0 := by subst had; rfl
  exact W.vret hx hb hr (fun t ht9 hW => ⟨⟨(ad, ta), rfl, h00, by rw [ht9]; exact hP9, va_K.moved hW.alike hK9, hD9⟩, hS.F ht9⟩) hS.2.2 d_M_init_51
