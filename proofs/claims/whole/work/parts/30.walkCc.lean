abbrev rm_M_tripsBy : Room := { frames := 2, cells := 0, slots := 0, locals := 52 }
set_option maxHeartbeats 4000000 in
set_option maxRecDepth 100000 in
theorem mw_M_tripsBy_3 {p : Program} {l : Launch} {e : Env} {s : State} {m : MethodId} {args : Array Value} {below : List Frame} {meth : Method} {c : Code} {D : va_G} {ad : Nat → Nat} {ta : Nat → ClassId} (CX : tC p s m args meth c b_M_tripsBy (some .int) 5 R_M D clS (tyC ta)) (hd : tD 37 ad) : ∀ (k : Nat) (v1 : Int32) (v2 : Int32) (v3 : Int32) (v4 : Int32) (σ : tS) (res : (Int32 × tS)), ml_M_tripsBy_3 k v1 v2 v3 v4 σ = some res → ∀ (H : Heap) (locs : List Loc), va_P D clS (cwC ad ta σ) H → va_S (tA 37 ad) s.heap H locs → ∀ (ls : Array Slot), lv_has ls 5 [(0, .ref (ad 3)), (1, .int v1), (2, .int v2), (3, .int v3), (4, .int v4)] → W p l e rm_M_tripsBy s m args below meth c H locs 0 0 (MQ below (tQ D clS (cwC ad ta res.2) (some (.int res.1)) (tA 37 ad)) args s 0 0 (tA 37 ad)) (F0 m 3 ls []) := by
  obtain ⟨hx, hb, hr, hml, hown, ht, hlocks, hK, hN⟩ := id CX
  intro k
  induction k with
  | zero =>
    intro v1 v2 v3 v4 σ res hf
    exact tn_no hf
  | succ k ih =>
    intro v1 v2 v3 v4 σ res hf H locs hP hS ls hl
    replace hf : ms_M_tripsBy_3 (ml_M_tripsBy_3 k) v1 v2 v3 v4 σ = some res := hf
    unfold ms_M_tripsBy_3 at hf
    refine lv_iload hx hb d_M_tripsBy_3 (lv_at hl 4 rfl) ?_
    refine lv_iconst (v := (3 : Int32)) hx hb d_M_tripsBy_5 (by decide) ?_
    refine lv_icmp_ge (tgt := 37) hx hb d_M_tripsBy_6 (by decide) (fun hc => ?_) (fun hc => ?_)
    · replace hf := ti_pos hc hf
      refine lv_aload_n hx hb d_M_tripsBy_37 rfl (lv_at hl 0 rfl) ?_
      refine va_get (ci := 3) (v := .ref (ad 8)) (C := R_M) (T := F_M) (N := 2) hx hb ht iw_M hown hK hP 3 rfl rfl 1 (by decide) (ht _ wd_144) (fun _ h9 => h9) rfl d_M_tripsBy_38 ?_
      refine lv_iload_n hx hb d_M_tripsBy_41 rfl (lv_at hl 3 rfl) ?_
      refine lv_iconst (v := (3 : Int32)) hx hb d_M_tripsBy_42 (by decide) ?_
      obtain ⟨s_1, hq1, hf⟩ := tb1_of hf
      refine tr_callv (va_runV (C := R_H) (As := [.int v3, .int (3 : Int32)]) (rest := []) ⟨hx, hb, hml, hown, ht⟩ (mc_H8_shareOut l hd hq1) ⟨(tw_cb (n := 2) ht wc_H_shareOut wd_37 wd_572 ⟨rfl, rfl⟩ (by decide +kernel) ⟨(Nat.le_of_ble_eq_true rfl), (Nat.le_of_ble_eq_true rfl)⟩), ht _ wd_498, ht _ wd_499⟩ ⟨tP_blind, va_recv hK hP (ci := 7) (q0 := 8) rfl rfl, fun U hU hW => ⟨rfl, by rw [hU]; exact hP, va_K.moved hW.alike hK, tW_warm hW hN⟩⟩ rfl rfl hl.1 rfl (lv_room (Nat.le_of_ble_eq_true rfl)) d_M_tripsBy_43 ⟨Nat.zero_le _, Nat.zero_le _⟩) hS (fun _ h => h) (fun _ h => h) (fun H locs hP hS => ?_)
      refine lv_aload_n hx hb d_M_tripsBy_46 rfl (lv_at hl 0 rfl) ?_
      refine va_get (ci := 3) (v := .ref (ad 8)) (C := R_M) (T := F_M) (N := 2) hx hb ht iw_M hown hK hP 3 rfl rfl 1 (by decide) (ht _ wd_144) (fun _ h9 => h9) rfl d_M_tripsBy_47 ?_
      refine va_get (ci := 7) (v := .ref (ad 36)) (C := R_H) (T := F_H) (N := 3) hx hb ht iw_H hown hK hP 8 rfl rfl 2 (by decide) (ht _ wd_102) (fun _ h9 => h9) rfl d_M_tripsBy_50 ?_
      refine lv_iload_n hx hb d_M_tripsBy_53 rfl (lv_at hl 1 rfl) ?_
      obtain ⟨hi2, hf⟩ := tg_of hf
      refine va_iald (f := s_1.2.1 22) hx hb hK hP 36 27 rfl rfl hi2 d_M_tripsBy_54 ?_
      obtain rfl := ts_of hf
      exact W.iret (v := (s_1.2.1 22 v1.toNatClampNeg)) hx hb hr (fun t ht hW => ⟨rfl, by rw [ht]; exact hP, hS.F ht⟩) hS.2.2 d_M_tripsBy_55
    · replace hf := ti_neg hc hf
      refine lv_aload_n hx hb d_M_tripsBy_9 rfl (lv_at hl 0 rfl) ?_
      refine va_get (ci := 3) (v := .ref (ad 8)) (C := R_M) (T := F_M) (N := 2) hx hb ht iw_M hown hK hP 3 rfl rfl 1 (by decide) (ht _ wd_144) (fun _ h9 => h9) rfl d_M_tripsBy_10 ?_
      refine va_get (ci := 7) (v := .ref (ad 34)) (C := R_H) (T := F_H) (N := 3) hx hb ht iw_H hown hK hP 8 rfl rfl 0 (by decide) (ht _ wd_98) (fun _ h9 => h9) rfl d_M_tripsBy_13 ?_
      refine lv_iload hx hb d_M_tripsBy_16 (lv_at hl 4 rfl) ?_
      refine lv_aload_n hx hb d_M_tripsBy_18 rfl (lv_at hl 0 rfl) ?_
      refine va_get (ci := 3) (v := .ref (ad 15)) (C := R_M) (T := F_M) (N := 2) hx hb ht iw_M hown hK hP 3 rfl rfl 0 (by decide) (ht _ wd_142) (fun _ h9 => h9) rfl d_M_tripsBy_19 ?_
      refine lv_iload hx hb d_M_tripsBy_22 (lv_at hl 4 rfl) ?_
      refine lv_iload_n hx hb d_M_tripsBy_24 rfl (lv_at hl 2 rfl) ?_
      obtain ⟨r_3, s_3, hq3, hf⟩ := tb2_of hf
      refine tr_calli (va_runS (As := [.int v4, .int v2]) (rest := [.ref (ad 15), .int v4, .ref (ad 34)]) ⟨hx, hb, hml, hown, ht⟩ (mc_M_placeOf l hd hq3) ⟨(tw_cb (n := 2) ht wc_M_placeOf wd_39 wd_139 ⟨rfl, rfl⟩ (by decide +kernel) ⟨(Nat.le_of_ble_eq_true rfl), (Nat.le_of_ble_eq_true rfl)⟩), ht _ wd_140⟩ ⟨tP_blind, fun U hU hW => ⟨rfl, by rw [hU]; exact hP, va_K.moved hW.alike hK, tW_warm hW hN⟩⟩ rfl rfl hl.1 rfl (lv_room (Nat.le_of_ble_eq_true rfl)) d_M_tripsBy_25 ⟨Nat.zero_le _, Nat.zero_le _⟩) hS (fun _ h => h.elim) (fun _ h => h.elim) (fun H locs hP hS => ?_)
      obtain ⟨hi4, hf⟩ := tg_of hf
      refine va_iald (f := s_3.2.1 6) hx hb hK hP 15 6 rfl rfl hi4 d_M_tripsBy_28 ?_
      refine lv_i2l hx hb d_M_tripsBy_29 rfl ?_
      obtain ⟨hi5, hf⟩ := tg_of hf
      refine va_last (f := s_3.2.2 3) hx hb hK hP (cwC_D hd) hS 34 25 rfl rfl hi5 d_M_tripsBy_30 (fun H locs hP _ hS => ?_)
      replace hP : va_P D clS (cwC ad ta (tJ s_3 3 v4.toNatClampNeg (((s_3.2.1 6 r_3.toNatClampNeg)).toInt64))) H := hP
      refine lv_iinc (v := (v4 + (1 : Int32))) (lv' := [(4, .int (v4 + (1 : Int32))), (0, .ref (ad 3)), (1, .int v1), (2, .int v2), (3, .int v3)]) hx hb d_M_tripsBy_31 hl (k := 4) rfl rfl (by decide) rfl (fun ls hl => ?_)
      refine lv_goto (tgt := 3) hx hb d_M_tripsBy_34 (by decide) ?_
      exact ih _ _ _ _ _ _ hf _ _ hP hS _ (lv_sub hl [1, 2, 3, 4, 0] rfl)
set_option maxHeartbeats 4000000 in
set_option maxRecDepth 100000 in
theorem mc_M_tripsBy (l : Launch) {D : va_G} {ad : Nat → Nat} {ta : Nat → ClassId} (hd : tD 37 ad) {σ σ' : tS} {p0 : Int32} {p1 : Int32} {p2 : Int32} {r : Int32} (hf : mf_M_tripsBy p0 p1 p2 σ = some (r, σ')) : Met l y_M_tripsBy (.code y_M_tripsBy b_M_tripsBy 5 (some .int) :: tw) rm_M_tripsBy (tP D clS (tyC ta) (cwC ad ta σ) [.ref (ad 3), .int p0, .int p1, .int p2]) (tQ D clS (cwC ad ta σ') (some (.int r)) (tA 37 ad)) 0 0 (tA 37 ad) := by
  refine Met.ofW (cc := b_M_tripsBy) (maxL := 5) (ret := (some .int)) (by decide) rfl ?_
  intro p e s m args below meth c s₁ B hml hv
  obtain ⟨rfl, hP, hK, hN⟩ := hv
  have hx := B.exec
  have hb := B.bytes
  have hr := B.returns
  have ht : ∀ w ∈ tw, w.before [.ref (ad 3), .int p0, .int p1, .int p2].toArray s = true := fun w h => atoms_spec (ws := (.code y_M_tripsBy b_M_tripsBy 5 (some .int) :: tw)) B.pre w (List.mem_cons_of_mem _ h)
  have hown : s.vm.findClass R_M = some m.cls := findClass_of_methodNamed B.named
  have hlocks := B.notSynchronized
  have CX : tC p s m [.ref (ad 3), .int p0, .int p1, .int p2].toArray meth c b_M_tripsBy (some .int) 5 R_M D clS (tyC ta) := ⟨hx, hb, hr, hml, hown, ht, hlocks, hK, hN⟩
  have hS : va_S (tA 37 ad) s.heap s.heap [] := va_S.rf
  have hl := lv_entry ([.ref (ad 3), .int p0, .int p1, .int p2]) (n := 5) (Nat.le_of_ble_eq_true rfl)
  rw [lg_entry_eq]
  generalize (lg_sl ([.ref (ad 3), .int p0, .int p1, .int p2]) ++ List.replicate (5 - (lg_sl ([.ref (ad 3), .int p0, .int p1, .int p2])).length) Slot.unset).toArray = ls at hl ⊢
  replace hl : lv_has ls 5 [(0, .ref (ad 3)), (1, .int p0), (2, .int p1), (3, .int p2)] := hl
  unfold mf_M_tripsBy at hf
  refine lv_iconst (v := (0 : Int32)) hx hb d_M_tripsBy_0 (by decide) ?_
  refine lv_istore (lv' := [(4, .int (0 : Int32)), (0, .ref (ad 3)), (1, .int p0), (2, .int p1), (3, .int p2)]) hx hb d_M_tripsBy_1 hl (by decide) rfl (fun ls hl => ?_)
  exact mw_M_tripsBy_3 CX hd _ _ _ _ _ _ _ hf _ _ hP hS _ (lv_sub hl [1, 2, 3, 4, 0] rfl)
abbrev rm_T_chosen : Room := { frames := 3, cells := 0, slots := 0, locals := 76 }
set_option maxHeartbeats 4000000 in
set_option maxRecDepth 100000 in
theorem mc_T_chosen (l : Launch) {D : va_G} {ad : Nat → Nat} {ta : Nat → ClassId} (hd : tD 37 ad) {σ σ' : tS} {p0 : Int32} {p1 : Int32} {p2 : Int32} {r : Int32} (hf : mf_T_chosen p0 p1 p2 σ = some (r, σ')) : Met l y_T_chosen (.code y_T_chosen b_T_chosen 5 (some .int) :: tw) rm_T_chosen (tP D clS (tyC ta) (cwC ad ta σ) [.ref (ad 0), .int p0, .int p1, .int p2]) (tQ D clS (cwC ad ta σ') (some (.int r)) (tA 37 ad)) 0 0 (tA 37 ad) := by
  refine Met.ofW (cc := b_T_chosen) (maxL := 5) (ret := (some .int)) (by decide) rfl ?_
  intro p e s m args below meth c s₁ B hml hv
  obtain ⟨rfl, hP, hK, hN⟩ := hv
  have hx := B.exec
  have hb := B.bytes
  have hr := B.returns
  have ht : ∀ w ∈ tw, w.before [.ref (ad 0), .int p0, .int p1, .int p2].toArray s = true := fun w h => atoms_spec (ws := (.code y_T_chosen b_T_chosen 5 (some .int) :: tw)) B.pre w (List.mem_cons_of_mem _ h)
  have hown : s.vm.findClass R_T = some m.cls := findClass_of_methodNamed B.named
  have hlocks := B.notSynchronized
  have CX : tC p s m [.ref (ad 0), .int p0, .int p1, .int p2].toArray meth c b_T_chosen (some .int) 5 R_T D clS (tyC ta) := ⟨hx, hb, hr, hml, hown, ht, hlocks, hK, hN⟩
  have hS : va_S (tA 37 ad) s.heap s.heap [] := va_S.rf
  have hl := lv_entry ([.ref (ad 0), .int p0, .int p1, .int p2]) (n := 5) (Nat.le_of_ble_eq_true rfl)
  rw [lg_entry_eq]
  generalize (lg_sl ([.ref (ad 0), .int p0, .int p1, .int p2]) ++ List.replicate (5 - (lg_sl ([.ref (ad 0), .int p0, .int p1, .int p2])).length) Slot.unset).toArray = ls at hl ⊢
  replace hl : lv_has ls 5 [(0, .ref (ad 0)), (1, .int p0), (2, .int p1), (3, .int p2)] := hl
  unfold mf_T_chosen at hf
  refine lv_iload_n hx hb d_T_chosen_0 rfl (lv_at hl 1 rfl) ?_
  refine lv_iconst (v := (0 : Int32)) hx hb d_T_chosen_1 (by decide) ?_
  refine lv_iconst (v := (2 : Int32)) hx hb d_T_chosen_2 (by decide) ?_
  obtain ⟨s_1, hq1, hf⟩ := tb1_of hf
  refine tr_callv (va_runS (As := [.int p0, .int (0 : Int32), .int (2 : Int32)]) (rest := []) ⟨hx, hb, hml, hown, ht⟩ (mc_T_needWithin l hd hq1) ⟨(tw_cb (n := 3) ht wc_T_needWithin wd_34 wd_420 ⟨rfl, rfl⟩ (by decide +kernel) ⟨(Nat.le_of_ble_eq_true rfl), (Nat.le_of_ble_eq_true rfl)⟩), ht _ wd_421⟩ ⟨tP_blind, fun U hU hW => ⟨rfl, by rw [hU]; exact hP, va_K.moved hW.alike hK, tW_warm hW hN⟩⟩ rfl rfl hl.1 rfl (lv_room (Nat.le_of_ble_eq_true rfl)) d_T_chosen_3 ⟨Nat.zero_le _, Nat.zero_le _⟩) hS (fun _ h => h.elim) (fun _ h => h.elim) (fun H locs hP hS => ?_)
  refine lv_aload_n hx hb d_T_chosen_6 rfl (lv_at hl 0 rfl) ?_
  refine lv_iload_n hx hb d_T_chosen_7 rfl (lv_at hl 2 rfl) ?_
  obtain ⟨s_2, hq2, hf⟩ := tb1_of hf
  refine tr_callv (va_runV (C := R_T) (As := [.int p1]) (rest := []) ⟨hx, hb, hml, hown, ht⟩ (mc_T_needZone l hd hq2) ⟨(tw_cb (n := 1) ht wc_T_needZone wd_34 wd_469 ⟨rfl, rfl⟩ (by decide +kernel) ⟨(Nat.le_of_ble_eq_true rfl), (Nat.le_of_ble_eq_true rfl)⟩), ht _ wd_471, ht _ wd_7⟩ ⟨tP_blind, va_recv hK hP (ci := 0) (q0 := 0) rfl rfl, fun U hU hW => ⟨rfl, by rw [hU]; exact hP, va_K.moved hW.alike hK, tW_warm hW hN⟩⟩ rfl rfl hl.1 rfl (lv_room (Nat.le_of_ble_eq_true rfl)) d_T_chosen_8 ⟨Nat.zero_le _, Nat.zero_le _⟩) hS (fun _ h => h.elim) (fun _ h => h.elim) (fun H locs hP hS => ?_)
  refine lv_aload_n hx hb d_T_chosen_11 rfl (lv_at hl 0 rfl) ?_
  refine lv_iload_n hx hb d_T_chosen_12 rfl (lv_at hl 3 rfl) ?_
  obtain ⟨s_3, hq3, hf⟩ := tb1_of hf
  refine tr_callv (va_runV (C := R_T) (As := [.int p2]) (rest := []) ⟨hx, hb, hml, hown, ht⟩ (mc_T_needZone l hd hq3) ⟨(tw_cb (n := 1) ht wc_T_needZone wd_34 wd_469 ⟨rfl, rfl⟩ (by decide +kernel) ⟨(Nat.le_of_ble_eq_true rfl), (Nat.le_of_ble_eq_true rfl)⟩), ht _ wd_471, ht _ wd_7⟩ ⟨tP_blind, va_recv hK hP (ci := 0) (q0 := 0) rfl rfl, fun U hU hW => ⟨rfl, by rw [hU]; exact hP, va_K.moved hW.alike hK, tW_warm hW hN⟩⟩ rfl rfl hl.1 rfl (lv_room (Nat.le_of_ble_eq_true rfl)) d_T_chosen_13 ⟨Nat.zero_le _, Nat.zero_le _⟩) hS (fun _ h => h.elim) (fun _ h => h.elim) (fun H locs hP hS => ?_)
  refine lv_iload_n hx hb d_T_chosen_16 rfl (lv_at hl 2 rfl) ?_
  refine lv_iload_n hx hb d_T_chosen_17 rfl (lv_at hl 3 rfl) ?_
  obtain ⟨r_4, s_4, hq4, hf⟩ := tb2_of hf
  refine tr_calli (va_runS (As := [.int p1, .int p2]) (rest := []) ⟨hx, hb, hml, hown, ht⟩ (mc_T_pairOf l hd hq4) ⟨(tw_cb (n := 2) ht wc_T_pairOf wd_34 wd_313 ⟨rfl, rfl⟩ (by decide +kernel) ⟨(Nat.le_of_ble_eq_true rfl), (Nat.le_of_ble_eq_true rfl)⟩), ht _ wd_314⟩ ⟨tP_blind, fun U hU hW => ⟨rfl, by rw [hU]; exact hP, va_K.moved hW.alike hK, tW_warm hW hN⟩⟩ rfl rfl hl.1 rfl (lv_room (Nat.le_of_ble_eq_true rfl)) d_T_chosen_18 ⟨Nat.zero_le _, Nat.zero_le _⟩) hS (fun _ h => h.elim) (fun _ h => h.elim) (fun H locs hP hS => ?_)
  refine lv_istore (lv' := [(4, .int r_4), (0, .ref (ad 0)), (1, .int p0), (2, .int p1), (3, .int p2)]) hx hb d_T_chosen_21 hl (by decide) rfl (fun ls hl => ?_)
  refine lv_aload_n hx hb d_T_chosen_23 rfl (lv_at hl 1 rfl) ?_
  refine va_get (ci := 0) (v := .ref (ad 3)) (C := R_T) (T := F_T) (N := 7) hx hb ht iw_T hown hK hP 0 rfl rfl 3 (by decide) (ht _ wd_248) (fun _ h9 => h9) rfl d_T_chosen_24 ?_
  refine lv_iload_n hx hb d_T_chosen_27 rfl (lv_at hl 2 rfl) ?_
  refine lv_iload hx hb d_T_chosen_28 (lv_at hl 0 rfl) ?_
  refine lv_aload_n hx hb d_T_chosen_30 rfl (lv_at hl 1 rfl) ?_
  refine va_get (ci := 0) (v := .ref (ad 2)) (C := R_T) (T := F_T) (N := 7) hx hb ht iw_T hown hK hP 0 rfl rfl 2 (by decide) (ht _ wd_247) (fun _ h9 => h9) rfl d_T_chosen_31 ?_
  refine va_get (ci := 2) (v := .ref (ad 13)) (C := R_B) (T := F_B) (N := 4) hx hb ht iw_B hown hK hP 2 rfl rfl 1 (by decide) (ht _ wd_118) (fun _ h9 => h9) rfl d_T_chosen_34 ?_
  refine lv_iload hx hb d_T_chosen_37 (lv_at hl 0 rfl) ?_
  obtain ⟨hi5, hf⟩ := tg_of hf
  refine va_iald (f := s_4.2.1 4) hx hb hK hP 13 4 rfl rfl hi5 d_T_chosen_39 ?_
  obtain ⟨r_6, s_6, hq6, hf⟩ := tb2_of hf
  refine tr_calli (va_runV (C := R_M) (As := [.int p0, .int r_4, .int (s_4.2.1 4 r_4.toNatClampNeg)]) (rest := []) ⟨hx, hb, hml, hown, ht⟩ (mc_M_tripsBy l hd hq6) ⟨(tw_cb (n := 3) ht wc_M_tripsBy wd_39 wd_568 ⟨rfl, rfl⟩ (by decide +kernel) ⟨(Nat.le_of_ble_eq_true rfl), (Nat.le_of_ble_eq_true rfl)⟩), ht _ wd_569, ht _ wd_570⟩ ⟨tP_blind, va_recv hK hP (ci := 3) (q0 := 3) rfl rfl, fun U hU hW => ⟨rfl, by rw [hU]; exact hP, va_K.moved hW.alike hK, tW_warm hW hN⟩⟩ rfl rfl hl.1 rfl (lv_room (Nat.le_of_ble_eq_true rfl)) d_T_chosen_40 ⟨Nat.zero_le _, Nat.zero_le _⟩) hS (fun _ h => h) (fun _ h => h) (fun H locs hP hS => ?_)
  obtain ⟨rfl, rfl⟩ := tp_of hf
  exact W.iret (v := r_6) hx hb hr (fun t ht hW => ⟨rfl, by rw [ht]; exact hP, hS.F ht⟩) hS.2.2 d_T_chosen_43
abbrev rm_A_begin : Room := { frames := 1, cells := 0, slots := 0, locals := 24 }
set_option maxHeartbeats 4000000 in
set_option maxRecDepth 100000 in
theorem mc_A_begin (l : Launch) {D : va_G} {ad : Nat → Nat} {ta : Nat → ClassId} (hd : tD 37 ad) {σ σ' : tS} {p0 : Int32} (hf : mf_A_begin p0 σ = some σ') : Met l y_A_begin (.code y_A_begin b_A_begin 2 none :: tw) rm_A_begin (tP D clS (tyC ta) (cwC ad ta σ) [.ref (ad 6), .int p0]) (tQ D clS (cwC ad ta σ') none (tA 37 ad)) 0 0 (tA 37 ad) := by
  refine Met.ofW (cc := b_A_begin) (maxL := 2) (ret := none) (by decide) rfl ?_
  intro p e s m args below meth c s₁ B hml hv
  obtain ⟨rfl, hP, hK, hN⟩ := hv
  have hx := B.exec
  have hb := B.bytes
  have hr := B.returns
  have ht : ∀ w ∈ tw, w.before [.ref (ad 6), .int p0].toArray s = true := fun w h => atoms_spec (ws := (.code y_A_begin b_A_begin 2 none :: tw)) B.pre w (List.mem_cons_of_mem _ h)
  have hown : s.vm.findClass R_A = some m.cls := findClass_of_methodNamed B.named
  have hlocks := B.notSynchronized
  have CX : tC p s m [.ref (ad 6), .int p0].toArray meth c b_A_begin none 2 R_A D clS (tyC ta) := ⟨hx, hb, hr, hml, hown, ht, hlocks, hK, hN⟩
  have hS : va_S (tA 37 ad) s.heap s.heap [] := va_S.rf
  have hl := lv_entry ([.ref (ad 6), .int p0]) (n := 2) (Nat.le_of_ble_eq_true rfl)
  rw [lg_entry_eq]
  generalize (lg_sl ([.ref (ad 6), .int p0]) ++ List.replicate (2 - (lg_sl ([.ref (ad 6), .int p0])).length) Slot.unset).toArray = ls at hl ⊢
  replace hl : lv_has ls 2 [(0, .ref (ad 6)), (1, .int p0)] := hl
  unfold mf_A_begin at hf
  refine lv_aload_n hx hb d_A_begin_0 rfl (lv_at hl 0 rfl) ?_
  refine lv_iload_n hx hb d_A_begin_1 rfl (lv_at hl 1 rfl) ?_
  refine va_put (ci := 6) (v := .int p0) (ty := .int) (C := R_A) (T := F_A) (N := 5) hx hb ht iw_A ft_A to_A nm_A hown hK hP (cwC_D hd) hS 6 rfl rfl 0 (by decide) (ht _ wd_224) (fun _ h9 => h9) rfl (by decide +kernel) rfl rfl (Nat.le_of_ble_eq_true rfl) d_A_begin_2 (fun H locs hP _ hS => ?_)
  replace hP : va_P D clS (cwC ad ta (tF σ 3 p0)) H := hP
  refine lv_aload_n hx hb d_A_begin_5 rfl (lv_at hl 0 rfl) ?_
  refine lv_iconst (v := (0 : Int32)) hx hb d_A_begin_6 (by decide) ?_
  refine va_put (ci := 6) (v := .int (0 : Int32)) (ty := .int) (C := R_A) (T := F_A) (N := 5) hx hb ht iw_A ft_A to_A nm_A hown hK hP (cwC_D hd) hS 6 rfl rfl 1 (by decide) (ht _ wd_226) (fun _ h9 => h9) rfl (by decide +kernel) rfl rfl (Nat.le_of_ble_eq_true rfl) d_A_begin_7 (fun H locs hP _ hS => ?_)
  replace hP : va_P D clS (cwC ad ta (tF (tF σ 3 p0) 4 (0 : Int32))) H := hP
  refine lv_aload_n hx hb d_A_begin_10 rfl (lv_at hl 0 rfl) ?_
  refine va_get (ci := 6) (v := .ref (ad 29)) (C := R_A) (T := F_A) (N := 5) hx hb ht iw_A hown hK hP 6 rfl rfl 3 (by decide) (ht _ wd_230) (fun _ h9 => h9) rfl d_A_begin_11 ?_
  refine lv_iconst (v := (0 : Int32)) hx hb d_A_begin_14 (by decide) ?_
  refine tr_fillI (f := σ.2.1 19) ⟨hx, hb, hml, hown, ht⟩ ⟨(tw_cb (n := 2) ht wf_I wd_38 wd_588 ⟨rfl, rfl⟩ (by decide +kernel) ⟨(Nat.le_of_ble_eq_true rfl), (Nat.le_of_ble_eq_true rfl)⟩), ht _ wd_113⟩ hK hN hP (cwC_D hd) hS 29 20 rfl rfl (by decide) hl.1 (lv_room (Nat.le_of_ble_eq_true rfl)) d_A_begin_15 (fun H locs hP hS => ?_) ⟨Nat.zero_le _, Nat.zero_le _⟩
  replace hP : va_P D clS (cwC ad ta (tIf (tF (tF σ 3 p0) 4 (0 : Int32)) 19 (0 : Int32))) H := hP
  refine lv_aload_n hx hb d_A_begin_18 rfl (lv_at hl 0 rfl) ?_
  refine va_get (ci := 6) (v := .ref (ad 30)) (C := R_A) (T := F_A) (N := 5) hx hb ht iw_A hown hK hP 6 rfl rfl 4 (by decide) (ht _ wd_232) (fun _ h9 => h9) rfl d_A_begin_19 ?_
  refine lv_iconst (v := (0 : Int32)) hx hb d_A_begin_22 (by decide) ?_
  refine tr_fillI (f := σ.2.1 20) ⟨hx, hb, hml, hown, ht⟩ ⟨(tw_cb (n := 2) ht wf_I wd_38 wd_588 ⟨rfl, rfl⟩ (by decide +kernel) ⟨(Nat.le_of_ble_eq_true rfl), (Nat.le_of_ble_eq_true rfl)⟩), ht _ wd_113⟩ hK hN hP (cwC_D hd) hS 30 21 rfl rfl (by decide) hl.1 (lv_room (Nat.le_of_ble_eq_true rfl)) d_A_begin_23 (fun H locs hP hS => ?_) ⟨Nat.zero_le _, Nat.zero_le _⟩
  replace hP : va_P D clS (cwC ad ta (tIf (tIf (tF (tF σ 3 p0) 4 (0 : Int32)) 19 (0 : Int32)) 20 (0 : Int32))) H := hP
  obtain rfl := ts_of hf
  exact W.vret hx hb hr (fun t ht hW => ⟨rfl, by rw [ht]; exact hP, hS.F ht⟩) hS.2.2 d_A_begin_26
abbrev rm_T_gatherDrivers : Room := { frames := 3, cells := 0, slots := 0, locals := 76 }
set_option maxHeartbeats 4000000 in
set_option maxRecDepth 100000 in
theorem mw_T_gatherDrivers_15 {p : Program} {l : Launch} {e : Env} {s : State} {m : MethodId} {args : Array Value} {below : List Frame} {meth : Method} {c : Code} {D : va_G} {ad : Nat → Nat} {ta : Nat → ClassId} {Q : State → Prop} (CX : tC p s m args meth c b_T_gatherDrivers none 4 R_T D clS (tyC ta)) (hd : tD 37 ad) : ∀ (k : Nat) (v1 : Int32) (v2 : Int32) (σ : tS) (res : (Int32 × Int32 × tS)), ml_T_gatherDrivers_15 k v1 v2 σ = some res → ∀ (H : Heap) (locs : List Loc), va_P D clS (cwC ad ta σ) H → va_S (tA 37 ad) s.heap H locs → ∀ (ls : Array Slot), lv_has ls 4 [(0, .ref (ad 0)), (1, .int v1), (2, .int v2)] → (∀ (H : Heap) (locs : List Loc), va_P D clS (cwC ad ta res.2.2) H → va_S (tA 37 ad) s.heap H locs → ∀ (ls : Array Slot), lv_has ls 4 [(0, .ref (ad 0)), (1, .int res.1), (2, .int res.2.1)] → W p l e rm_T_gatherDrivers s m args below meth c H locs 0 0 Q (F0 m 74 ls [])) → W p l e rm_T_gatherDrivers s m args below meth c H locs 0 0 Q (F0 m 15 ls []) := by
  obtain ⟨hx, hb, hr, hml, hown, ht, hlocks, hK, hN⟩ := id CX
  intro k
  induction k with
  | zero =>
    intro v1 v2 σ res hf
    exact tn_no hf
  | succ k ih =>
    intro v1 v2 σ res hf H locs hP hS ls hl kk
    replace hf : ms_T_gatherDrivers_15 (ml_T_gatherDrivers_15 k) v1 v2 σ = some res := hf
    unfold ms_T_gatherDrivers_15 at hf
    refine lv_iload_n hx hb d_T_gatherDrivers_15 rfl (lv_at hl 2 rfl) ?_
    refine lv_aload_n hx hb d_T_gatherDrivers_16 rfl (lv_at hl 0 rfl) ?_
    refine va_get (ci := 0) (v := .ref (ad 1)) (C := R_T) (T := F_T) (N := 7) hx hb ht iw_T hown hK hP 0 rfl rfl 1 (by decide) (ht _ wd_246) (fun _ h9 => h9) rfl d_T_gatherDrivers_17 ?_
    refine va_get (ci := 1) (v := .int (σ.1 1)) (C := R_Z) (T := F_Z) (N := 4) hx hb ht iw_Z hown hK hP 1 rfl rfl 0 (by decide) (ht _ wd_66) (fun _ h9 => h9) rfl d_T_gatherDrivers_20 ?_
    refine lv_icmp_ge (tgt := 74) hx hb d_T_gatherDrivers_23 (by decide) (fun hc => ?_) (fun hc => ?_)
    · replace hf := ti_pos hc hf
      obtain rfl := ts_of hf
      exact kk _ _ hP hS _ (lv_sub hl [0, 1, 2] rfl)
    · replace hf := ti_neg hc hf
      refine lv_iload_n hx hb d_T_gatherDrivers_26 rfl (lv_at hl 1 rfl) ?_
      refine lv_iload_n hx hb d_T_gatherDrivers_27 rfl (lv_at hl 2 rfl) ?_
      obtain ⟨r_1, s_1, hq1, hf⟩ := tb2_of hf
      refine tr_calli (va_runS (As := [.int v1, .int v2]) (rest := []) ⟨hx, hb, hml, hown, ht⟩ (mc_T_pairOf l hd hq1) ⟨(tw_cb (n := 2) ht wc_T_pairOf wd_34 wd_313 ⟨rfl, rfl⟩ (by decide +kernel) ⟨(Nat.le_of_ble_eq_true rfl), (Nat.le_of_ble_eq_true rfl)⟩), ht _ wd_314⟩ ⟨tP_blind, fun U hU hW => ⟨rfl, by rw [hU]; exact hP, va_K.moved hW.alike hK, tW_warm hW hN⟩⟩ rfl rfl hl.1 rfl (lv_room (Nat.le_of_ble_eq_true rfl)) d_T_gatherDrivers_28 ⟨Nat.zero_le _, Nat.zero_le _⟩) hS (fun _ h => h.elim) (fun _ h => h.elim) (fun H locs hP hS => ?_)
      refine lv_istore_n (lv' := [(3, .int r_1), (0, .ref (ad 0)), (1, .int v1), (2, .int v2)]) hx hb d_T_gatherDrivers_31 rfl hl (by decide) rfl (fun ls hl => ?_)
      refine lv_aload_n hx hb d_T_gatherDrivers_32 rfl (lv_at hl 1 rfl) ?_
      refine va_get (ci := 0) (v := .ref (ad 6)) (C := R_T) (T := F_T) (N := 7) hx hb ht iw_T hown hK hP 0 rfl rfl 6 (by decide) (ht _ wd_251) (fun _ h9 => h9) rfl d_T_gatherDrivers_33 ?_
      refine va_get (ci := 6) (v := .ref (ad 28)) (C := R_A) (T := F_A) (N := 5) hx hb ht iw_A hown hK hP 6 rfl rfl 2 (by decide) (ht _ wd_229) (fun _ h9 => h9) rfl d_T_gatherDrivers_36 ?_
      refine lv_iload_n hx hb d_T_gatherDrivers_39 rfl (lv_at hl 0 rfl) ?_
      refine lv_iload_n hx hb d_T_gatherDrivers_40 rfl (lv_at hl 2 rfl) ?_
      refine lv_iload_n hx hb d_T_gatherDrivers_41 rfl (lv_at hl 3 rfl) ?_
      refine lv_icmp_ne (tgt := 49) hx hb d_T_gatherDrivers_42 (by decide) (fun hc => ?_) (fun hc => ?_)
      · replace hf := ti_neg hc hf
        refine lv_aload_n hx hb d_T_gatherDrivers_49 rfl (lv_at hl 1 rfl) ?_
        refine va_get (ci := 0) (v := .ref (ad 3)) (C := R_T) (T := F_T) (N := 7) hx hb ht iw_T hown hK hP 0 rfl rfl 3 (by decide) (ht _ wd_248) (fun _ h9 => h9) rfl d_T_gatherDrivers_50 ?_
        refine lv_iconst (v := (0 : Int32)) hx hb d_T_gatherDrivers_53 (by decide) ?_
        refine lv_iload_n hx hb d_T_gatherDrivers_54 rfl (lv_at hl 0 rfl) ?_
        refine lv_aload_n hx hb d_T_gatherDrivers_55 rfl (lv_at hl 1 rfl) ?_
        refine va_get (ci := 0) (v := .ref (ad 2)) (C := R_T) (T := F_T) (N := 7) hx hb ht iw_T hown hK hP 0 rfl rfl 2 (by decide) (ht _ wd_247) (fun _ h9 => h9) rfl d_T_gatherDrivers_56 ?_
        refine va_get (ci := 2) (v := .ref (ad 13)) (C := R_B) (T := F_B) (N := 4) hx hb ht iw_B hown hK hP 2 rfl rfl 1 (by decide) (ht _ wd_118) (fun _ h9 => h9) rfl d_T_gatherDrivers_59 ?_
        refine lv_iload_n hx hb d_T_gatherDrivers_62 rfl (lv_at hl 0 rfl) ?_
        obtain ⟨hi2, hf⟩ := tg_of hf
        refine va_iald (f := s_1.2.1 4) hx hb hK hP 13 4 rfl rfl hi2 d_T_gatherDrivers_63 ?_
        obtain ⟨r_3, s_3, hq3, hf⟩ := tb2_of hf
        refine tr_calli (va_runV (C := R_M) (As := [.int (0 : Int32), .int r_1, .int (s_1.2.1 4 r_1.toNatClampNeg)]) (rest := [.int r_1, .ref (ad 28)]) ⟨hx, hb, hml, hown, ht⟩ (mc_M_tripsBy l hd hq3) ⟨(tw_cb (n := 3) ht wc_M_tripsBy wd_39 wd_568 ⟨rfl, rfl⟩ (by decide +kernel) ⟨(Nat.le_of_ble_eq_true rfl), (Nat.le_of_ble_eq_true rfl)⟩), ht _ wd_569, ht _ wd_570⟩ ⟨tP_blind, va_recv hK hP (ci := 3) (q0 := 3) rfl rfl, fun U hU hW => ⟨rfl, by rw [hU]; exact hP, va_K.moved hW.alike hK, tW_warm hW hN⟩⟩ rfl rfl hl.1 rfl (lv_room (Nat.le_of_ble_eq_true rfl)) d_T_gatherDrivers_64 ⟨Nat.zero_le _, Nat.zero_le _⟩) hS (fun _ h => h) (fun _ h => h) (fun H locs hP hS => ?_)
        obtain ⟨hi4, hf⟩ := tg_of hf
        refine va_iast (f := s_3.2.1 18) hx hb hK hP (cwC_D hd) hS 28 19 rfl rfl hi4 d_T_gatherDrivers_67 (fun H locs hP _ hS => ?_)
        replace hP : va_P D clS (cwC ad ta (tI s_3 18 r_1.toNatClampNeg r_3)) H := hP
        refine lv_iinc (v := (v2 + (1 : Int32))) (lv' := [(2, .int (v2 + (1 : Int32))), (3, .int r_1), (0, .ref (ad 0)), (1, .int v1)]) hx hb d_T_gatherDrivers_68 hl (k := 3) rfl rfl (by decide) rfl (fun ls hl => ?_)
        refine lv_goto (tgt := 15) hx hb d_T_gatherDrivers_71 (by decide) ?_
        exact ih _ _ _ _ hf _ _ hP hS _ (lv_sub hl [2, 3, 0] rfl) kk
      · replace hf := ti_pos hc hf
        refine lv_iconst (v := (0 : Int32)) hx hb d_T_gatherDrivers_45 (by decide) ?_
        refine lv_goto (tgt := 67) hx hb d_T_gatherDrivers_46 (by decide) ?_
        obtain ⟨hi5, hf⟩ := tg_of hf
        refine va_iast (f := s_1.2.1 18) hx hb hK hP (cwC_D hd) hS 28 19 rfl rfl hi5 d_T_gatherDrivers_67 (fun H locs hP _ hS => ?_)
        replace hP : va_P D clS (cwC ad ta (tI s_1 18 r_1.toNatClampNeg (0 : Int32))) H := hP
        refine lv_iinc (v := (v2 + (1 : Int32))) (lv' := [(2, .int (v2 + (1 : Int32))), (3, .int r_1), (0, .ref (ad 0)), (1, .int v1)]) hx hb d_T_gatherDrivers_68 hl (k := 3) rfl rfl (by decide) rfl (fun ls hl => ?_)
        refine lv_goto (tgt := 15) hx hb d_T_gatherDrivers_71 (by decide) ?_
        exact ih _ _ _ _ hf _ _ hP hS _ (lv_sub hl [2, 3, 0] rfl) kk
set_option maxHeartbeats 4000000 in
set_option maxRecDepth 100000 in
theorem mw_T_gatherDrivers_2 {p : Program} {l : Launch} {e : Env} {s : State} {m : MethodId} {args : Array Value} {below : List Frame} {meth : Method} {c : Code} {D : va_G} {ad : Nat → Nat} {ta : Nat → ClassId} (CX : tC p s m args meth c b_T_gatherDrivers none 4 R_T D clS (tyC ta)) (hd : tD 37 ad) : ∀ (k : Nat) (v1 : Int32) (σ : tS) (res : tS), ml_T_gatherDrivers_2 k v1 σ = some res → ∀ (H : Heap) (locs : List Loc), va_P D clS (cwC ad ta σ) H → va_S (tA 37 ad) s.heap H locs → ∀ (ls : Array Slot), lv_has ls 4 [(0, .ref (ad 0)), (1, .int v1)] → W p l e rm_T_gatherDrivers s m args below meth c H locs 0 0 (MQ below (tQ D clS (cwC ad ta res) none (tA 37 ad)) args s 0 0 (tA 37 ad)) (F0 m 2 ls []) := by
  obtain ⟨hx, hb, hr, hml, hown, ht, hlocks, hK, hN⟩ := id CX
  intro k
  induction k with
  | zero =>
    intro v1 σ res hf
    exact tn_no hf
  | succ k ih =>
    intro v1 σ res hf H locs hP hS ls hl
    replace hf : ms_T_gatherDrivers_2 (ml_T_gatherDrivers_2 k) v1 σ = some res := hf
    unfold ms_T_gatherDrivers_2 at hf
    refine lv_iload_n hx hb d_T_gatherDrivers_2 rfl (lv_at hl 1 rfl) ?_
    refine lv_aload_n hx hb d_T_gatherDrivers_3 rfl (lv_at hl 0 rfl) ?_
    refine va_get (ci := 0) (v := .ref (ad 1)) (C := R_T) (T := F_T) (N := 7) hx hb ht iw_T hown hK hP 0 rfl rfl 1 (by decide) (ht _ wd_246) (fun _ h9 => h9) rfl d_T_gatherDrivers_4 ?_
    refine va_get (ci := 1) (v := .int (σ.1 1)) (C := R_Z) (T := F_Z) (N := 4) hx hb ht iw_Z hown hK hP 1 rfl rfl 0 (by decide) (ht _ wd_66) (fun _ h9 => h9) rfl d_T_gatherDrivers_7 ?_
    refine lv_icmp_ge (tgt := 80) hx hb d_T_gatherDrivers_10 (by decide) (fun hc => ?_) (fun hc => ?_)
    · replace hf := ti_pos hc hf
      obtain rfl := ts_of hf
      exact W.vret hx hb hr (fun t ht hW => ⟨rfl, by rw [ht]; exact hP, hS.F ht⟩) hS.2.2 d_T_gatherDrivers_80
    · replace hf := ti_neg hc hf
      refine lv_iconst (v := (0 : Int32)) hx hb d_T_gatherDrivers_13 (by decide) ?_
      refine lv_istore_n (lv' := [(2, .int (0 : Int32)), (0, .ref (ad 0)), (1, .int v1)]) hx hb d_T_gatherDrivers_14 rfl hl (by decide) rfl (fun ls hl => ?_)
      obtain ⟨e_6, hq6, hf⟩ := tb1_of hf
      refine mw_T_gatherDrivers_15 CX hd _ _ _ _ _ hq6 _ _ hP hS _ (lv_sub hl [1, 2, 0] rfl) (fun H locs hP hS ls hl => ?_)
      refine lv_iinc (v := (e_6.1 + (1 : Int32))) (lv' := [(1, .int (e_6.1 + (1 : Int32))), (0, .ref (ad 0)), (2, .int e_6.2.1)]) hx hb d_T_gatherDrivers_74 hl (k := 1) rfl rfl (by decide) rfl (fun ls hl => ?_)
      refine lv_goto (tgt := 2) hx hb d_T_gatherDrivers_77 (by decide) ?_
      exact ih _ _ _ hf _ _ hP hS _ (lv_sub hl [1, 0] rfl)
set_option maxHeartbeats 4000000 in
set_option maxRecDepth 100000 in
theorem mc_T_gatherDrivers (l : Launch) {D : va_G} {ad : Nat → Nat} {ta : Nat → ClassId} (hd : tD 37 ad) {σ σ' : tS}  (hf : mf_T_gatherDrivers  σ = some σ') : Met l y_T_gatherDrivers (.code y_T_gatherDrivers b_T_gatherDrivers 4 none :: tw) rm_T_gatherDrivers (tP D clS (tyC ta) (cwC ad ta σ) [.ref (ad 0)]) (tQ D clS (cwC ad ta σ') none (tA 37 ad)) 0 0 (tA 37 ad) := by
  refine Met.ofW (cc := b_T_gatherDrivers) (maxL := 4) (ret := none) (by decide) rfl ?_
  intro p e s m args below meth c s₁ B hml hv
  obtain ⟨rfl, hP, hK, hN⟩ := hv
  have hx := B.exec
  have hb := B.bytes
  have hr := B.returns
  have ht : ∀ w ∈ tw, w.before [.ref (ad 0)].toArray s = true := fun w h => atoms_spec (ws := (.code y_T_gatherDrivers b_T_gatherDrivers 4 none :: tw)) B.pre w (List.mem_cons_of_mem _ h)
  have hown : s.vm.findClass R_T = some m.cls := findClass_of_methodNamed B.named
  have hlocks := B.notSynchronized
  have CX : tC p s m [.ref (ad 0)].toArray meth c b_T_gatherDrivers none 4 R_T D clS (tyC ta) := ⟨hx, hb, hr, hml, hown, ht, hlocks, hK, hN⟩
  have hS : va_S (tA 37 ad) s.heap s.heap [] := va_S.rf
  have hl := lv_entry ([.ref (ad 0)]) (n := 4) (Nat.le_of_ble_eq_true rfl)
  rw [lg_entry_eq]
  generalize (lg_sl ([.ref (ad 0)]) ++ List.replicate (4 - (lg_sl ([.ref (ad 0)])).length) Slot.unset).toArray = ls at hl ⊢
  replace hl : lv_has ls 4 [(0, .ref (ad 0))] := hl
  unfold mf_T_gatherDrivers at hf
  refine lv_iconst (v := (0 : Int32)) hx hb d_T_gatherDrivers_0 (by decide) ?_
  refine lv_istore_n (lv' := [(1, .int (0 : Int32)), (0, .ref (ad 0))]) hx hb d_T_gatherDrivers_1 rfl hl (by decide) rfl (fun ls hl => ?_)
  exact mw_T_gatherDrivers_2 CX hd _ _ _ _ hf _ _ hP hS _ (lv_sub hl [1, 0] rfl)
abbrev rm_S_timeOf : Room := { frames := 1, cells := 0, slots := 0, locals := 30 }
set_option maxHeartbeats 4000000 in
set_option maxRecDepth 100000 in
theorem mc_S_timeOf (l : Launch) {D : va_G} {ad : Nat → Nat} {ta : Nat → ClassId} (hd : tD 37 ad) {σ σ' : tS} {p0 : Int32} {r : Int32} (hf : mf_S_timeOf p0 σ = some (r, σ')) : Met l y_S_timeOf (.code y_S_timeOf b_S_timeOf 4 (some .int) :: tw) rm_S_timeOf (tP D clS (tyC ta) (cwC ad ta σ) [.ref (ad 4), .int p0]) (tQ D clS (cwC ad ta σ') (some (.int r)) tNo) 0 0 tNo := by
  refine Met.ofW (cc := b_S_timeOf) (maxL := 4) (ret := (some .int)) (by decide) rfl ?_
  intro p e s m args below meth c s₁ B hml hv
  obtain ⟨rfl, hP, hK, hN⟩ := hv
  have hx := B.exec
  have hb := B.bytes
  have hr := B.returns
  have ht : ∀ w ∈ tw, w.before [.ref (ad 4), .int p0].toArray s = true := fun w h => atoms_spec (ws := (.code y_S_timeOf b_S_timeOf 4 (some .int) :: tw)) B.pre w (List.mem_cons_of_mem _ h)
  have hown : s.vm.findClass R_S = some m.cls := findClass_of_methodNamed B.named
  have hlocks := B.notSynchronized
  have CX : tC p s m [.ref (ad 4), .int p0].toArray meth c b_S_timeOf (some .int) 4 R_S D clS (tyC ta) := ⟨hx, hb, hr, hml, hown, ht, hlocks, hK, hN⟩
  have hS : va_S tNo s.heap s.heap [] := va_S.rf
  have hl := lv_entry ([.ref (ad 4), .int p0]) (n := 4) (Nat.le_of_ble_eq_true rfl)
  rw [lg_entry_eq]
  generalize (lg_sl ([.ref (ad 4), .int p0]) ++ List.replicate (4 - (lg_sl ([.ref (ad 4), .int p0])).length) Slot.unset).toArray = ls at hl ⊢
  replace hl : lv_has ls 4 [(0, .ref (ad 4)), (1, .int p0)] := hl
  unfold mf_S_timeOf at hf
  refine lv_aload_n hx hb d_S_timeOf_0 rfl (lv_at hl 0 rfl) ?_
  refine va_get (ci := 4) (v := .ref (ad 19)) (C := R_S) (T := F_S) (N := 10) hx hb ht iw_S hown hK hP 4 rfl rfl 4 (by decide) (ht _ wd_166) (fun _ h9 => h9) rfl d_S_timeOf_1 ?_
  refine lv_iload_n hx hb d_S_timeOf_4 rfl (lv_at hl 1 rfl) ?_
  obtain ⟨hi1, hf⟩ := tg_of hf
  refine va_iald (f := σ.2.1 10) hx hb hK hP 19 10 rfl rfl hi1 d_S_timeOf_5 ?_
  refine lv_i2l hx hb d_S_timeOf_6 rfl ?_
  refine lv_aload_n hx hb d_S_timeOf_7 rfl (lv_at hl 0 rfl) ?_
  refine va_get (ci := 4) (v := .ref (ad 24)) (C := R_S) (T := F_S) (N := 10) hx hb ht iw_S hown hK hP 4 rfl rfl 9 (by decide) (ht _ wd_175) (fun _ h9 => h9) rfl d_S_timeOf_8 ?_
  refine lv_iload_n hx hb d_S_timeOf_11 rfl (lv_at hl 1 rfl) ?_
  obtain ⟨hi2, hf⟩ := tg_of hf
  refine va_iald (f := σ.2.1 15) hx hb hK hP 24 15 rfl rfl hi2 d_S_timeOf_12 ?_
  refine lv_i2l hx hb d_S_timeOf_13 rfl ?_
  refine lv_lmul hx hb d_S_timeOf_14 ?_
  refine lv_aload_n hx hb d_S_timeOf_15 rfl (lv_at hl 0 rfl) ?_
  refine va_get (ci := 4) (v := .ref (ad 20)) (C := R_S) (T := F_S) (N := 10) hx hb ht iw_S hown hK hP 4 rfl rfl 5 (by decide) (ht _ wd_167) (fun _ h9 => h9) rfl d_S_timeOf_16 ?_
  refine lv_iload_n hx hb d_S_timeOf_19 rfl (lv_at hl 1 rfl) ?_
  obtain ⟨hi3, hf⟩ := tg_of hf
  refine va_iald (f := σ.2.1 11) hx hb hK hP 20 11 rfl rfl hi3 d_S_timeOf_20 ?_
  refine lv_i2l hx hb d_S_timeOf_21 rfl ?_
  obtain ⟨hz4, hf⟩ := tz_of hf
  refine lv_ldiv hx hb d_S_timeOf_22 hz4 ?_
  refine lv_lstore_n (lv' := [(2, .long ((((σ.2.1 10 p0.toNatClampNeg)).toInt64 * ((σ.2.1 15 p0.toNatClampNeg)).toInt64) / ((σ.2.1 11 p0.toNatClampNeg)).toInt64)), (0, .ref (ad 4)), (1, .int p0)]) hx hb d_S_timeOf_23 rfl hl (by decide) rfl (fun ls hl => ?_)
  refine lv_aload_n hx hb d_S_timeOf_24 rfl (lv_at hl 1 rfl) ?_
  refine va_get (ci := 4) (v := .ref (ad 18)) (C := R_S) (T := F_S) (N := 10) hx hb ht iw_S hown hK hP 4 rfl rfl 3 (by decide) (ht _ wd_165) (fun _ h9 => h9) rfl d_S_timeOf_25 ?_
  refine lv_iload_n hx hb d_S_timeOf_28 rfl (lv_at hl 2 rfl) ?_
  obtain ⟨hi5, hf⟩ := tg_of hf
  refine va_iald (f := σ.2.1 9) hx hb hK hP 18 9 rfl rfl hi5 d_S_timeOf_29 ?_
  refine lv_i2l hx hb d_S_timeOf_30 rfl ?_
  refine lv_lload_n hx hb d_S_timeOf_31 rfl (lv_at hl 0 rfl) ?_
  refine lv_ladd hx hb d_S_timeOf_32 ?_
  refine lv_aload_n hx hb d_S_timeOf_33 rfl (lv_at hl 1 rfl) ?_
  refine va_get (ci := 4) (v := .ref (ad 21)) (C := R_S) (T := F_S) (N := 10) hx hb ht iw_S hown hK hP 4 rfl rfl 6 (by decide) (ht _ wd_168) (fun _ h9 => h9) rfl d_S_timeOf_34 ?_
  refine lv_iload_n hx hb d_S_timeOf_37 rfl (lv_at hl 2 rfl) ?_
  obtain ⟨hi6, hf⟩ := tg_of hf
  refine va_iald (f := σ.2.1 12) hx hb hK hP 21 12 rfl rfl hi6 d_S_timeOf_38 ?_
  refine lv_i2l hx hb d_S_timeOf_39 rfl ?_
  refine lv_ladd hx hb d_S_timeOf_40 ?_
  refine lv_ldc2 (v := (1000000 : Int64)) hx hb hown (ht _ wd_279) d_S_timeOf_41 ?_
  refine va_mmin_long hx hb (hml.trans hl.1.symm) hown (ht _ wd_280) (ht _ wd_281) (ht _ wd_49) (ht _ wm_min_long) (Nat.le_of_ble_eq_true rfl) (Nat.le_of_ble_eq_true rfl) (Nat.zero_le _) (Nat.zero_le _) d_S_timeOf_44 ?_
  refine lv_l2i hx hb d_S_timeOf_47 rfl ?_
  obtain ⟨rfl, rfl⟩ := tp_of hf
  exact W.iret (v := ((if (1000000 : Int64) < ((((σ.2.1 9 p0.toNatClampNeg)).toInt64 + ((((σ.2.1 10 p0.toNatClampNeg)).toInt64 * ((σ.2.1 15 p0.toNatClampNeg)).toInt64) / ((σ.2.1 11 p0.toNatClampNeg)).toInt64)) + ((σ.2.1 12 p0.toNatClampNeg)).toInt64) then (1000000 : Int64) else ((((σ.2.1 9 p0.toNatClampNeg)).toInt64 + ((((σ.2.1 10 p0.toNatClampNeg)).toInt64 * ((σ.2.1 15 p0.toNatClampNeg)).toInt64) / ((σ.2.1 11 p0.toNatClampNeg)).toInt64)) + ((σ.2.1 12 p0.toNatClampNeg)).toInt64))).toInt32) hx hb hr (fun t ht hW => ⟨rfl, by rw [ht]; exact hP, hS.F ht⟩) hS.2.2 d_S_timeOf_48
abbrev rm_W_holdTimes : Room := { frames := 2, cells := 0, slots := 0, locals := 53 }
set_option maxHeartbeats 4000000 in
set_option maxRecDepth 100000 in
theorem mw_W_holdTimes_2 {p : Program} {l : Launch} {e : Env} {s : State} {m : MethodId} {args : Array Value} {below : List Frame} {meth : Method} {c : Code} {D : va_G} {ad : Nat → Nat} {ta : Nat → ClassId} (CX : tC p s m args meth c b_W_holdTimes none 3 R_W D clS (tyC ta)) (hd : tD 37 ad) : ∀ (k : Nat) (v2 : Int32) (σ : tS) (res : tS), ml_W_holdTimes_2 k v2 σ = some res → ∀ (H : Heap) (locs : List Loc), va_P D clS (cwC ad ta σ) H → va_S (tA 37 ad) s.heap H locs → ∀ (ls : Array Slot), lv_has ls 3 [(0, .ref (ad 5)), (1, .ref (ad 4)), (2, .int v2)] → W p l e rm_W_holdTimes s m args below meth c H locs 0 0 (MQ below (tQ D clS (cwC ad ta res) none (tA 37 ad)) args s 0 0 (tA 37 ad)) (F0 m 2 ls []) := by
  obtain ⟨hx, hb, hr, hml, hown, ht, hlocks, hK, hN⟩ := id CX
  intro k
  induction k with
  | zero =>
    intro v2 σ res hf
    exact tn_no hf
  | succ k ih =>
    intro v2 σ res hf H locs hP hS ls hl
    replace hf : ms_W_holdTimes_2 (ml_W_holdTimes_2 k) v2 σ = some res := hf
    unfold ms_W_holdTimes_2 at hf
    refine lv_iload_n hx hb d_W_holdTimes_2 rfl (lv_at hl 2 rfl) ?_
    refine lv_aload_n hx hb d_W_holdTimes_3 rfl (lv_at hl 1 rfl) ?_
    refine va_get (ci := 4) (v := .int (σ.1 2)) (C := R_S) (T := F_S) (N := 10) hx hb ht iw_S hown hK hP 4 rfl rfl 0 (by decide) (ht _ wd_158) (fun _ h9 => h9) rfl d_W_holdTimes_4 ?_
    refine lv_icmp_ge (tgt := 27) hx hb d_W_holdTimes_7 (by decide) (fun hc => ?_) (fun hc => ?_)
    · replace hf := ti_pos hc hf
      obtain rfl := ts_of hf
      exact W.vret hx hb hr (fun t ht hW => ⟨rfl, by rw [ht]; exact hP, hS.F ht⟩) hS.2.2 d_W_holdTimes_27
    · replace hf := ti_neg hc hf
      refine lv_aload_n hx hb d_W_holdTimes_10 rfl (lv_at hl 0 rfl) ?_
      refine va_get (ci := 5) (v := .ref (ad 25)) (C := R_W) (T := F_W) (N := 3) hx hb ht iw_W hown hK hP 5 rfl rfl 0 (by decide) (ht _ wd_206) (fun _ h9 => h9) rfl d_W_holdTimes_11 ?_
      refine lv_iload_n hx hb d_W_holdTimes_14 rfl (lv_at hl 2 rfl) ?_
      refine lv_aload_n hx hb d_W_holdTimes_15 rfl (lv_at hl 1 rfl) ?_
      refine lv_iload_n hx hb d_W_holdTimes_16 rfl (lv_at hl 2 rfl) ?_
      obtain ⟨r_1, s_1, hq1, hf⟩ := tb2_of hf
      refine tr_calli (va_runV (C := R_S) (As := [.int v2]) (rest := [.int v2, .ref (ad 25)]) ⟨hx, hb, hml, hown, ht⟩ (mc_S_timeOf l hd hq1) ⟨(tw_cb (n := 1) ht wc_S_timeOf wd_40 wd_275 ⟨rfl, rfl⟩ (by decide +kernel) ⟨(Nat.le_of_ble_eq_true rfl), (Nat.le_of_ble_eq_true rfl)⟩), ht _ wd_276, ht _ wd_277⟩ ⟨tP_blind, va_recv hK hP (ci := 4) (q0 := 4) rfl rfl, fun U hU hW => ⟨rfl, by rw [hU]; exact hP, va_K.moved hW.alike hK, tW_warm hW hN⟩⟩ rfl rfl hl.1 rfl (lv_room (Nat.le_of_ble_eq_true rfl)) d_W_holdTimes_17 ⟨Nat.zero_le _, Nat.zero_le _⟩) hS (fun _ h => h.elim) (fun _ h => h.elim) (fun H locs hP hS => ?_)
      obtain ⟨hi2, hf⟩ := tg_of hf
      refine va_iast (f := s_1.2.1 16) hx hb hK hP (cwC_D hd) hS 25 16 rfl rfl hi2 d_W_holdTimes_20 (fun H locs hP _ hS => ?_)
      replace hP : va_P D clS (cwC ad ta (tI s_1 16 v2.toNatClampNeg r_1)) H := hP
      refine lv_iinc (v := (v2 + (1 : Int32))) (lv' := [(2, .int (v2 + (1 : Int32))), (0, .ref (ad 5)), (1, .ref (ad 4))]) hx hb d_W_holdTimes_21 hl (k := 2) rfl rfl (by decide) rfl (fun ls hl => ?_)
      refine lv_goto (tgt := 2) hx hb d_W_holdTimes_24 (by decide) ?_
      exact ih _ _ _ hf _ _ hP hS _ (lv_sub hl [1, 2, 0] rfl)
set_option maxHeartbeats 4000000 in
set_option maxRecDepth 100000 in
theorem mc_W_holdTimes (l : Launch) {D : va_G} {ad : Nat → Nat} {ta : Nat → ClassId} (hd : tD 37 ad) {σ σ' : tS}  (hf : mf_W_holdTimes  σ = some σ') : Met l y_W_holdTimes (.code y_W_holdTimes b_W_holdTimes 3 none :: tw) rm_W_holdTimes (tP D clS (tyC ta) (cwC ad ta σ) [.ref (ad 5), .ref (ad 4)]) (tQ D clS (cwC ad ta σ') none (tA 37 ad)) 0 0 (tA 37 ad) := by
  refine Met.ofW (cc := b_W_holdTimes) (maxL := 3) (ret := none) (by decide) rfl ?_
  intro p e s m args below meth c s₁ B hml hv
  obtain ⟨rfl, hP, hK, hN⟩ := hv
  have hx := B.exec
  have hb := B.bytes
  have hr := B.returns
  have ht : ∀ w ∈ tw, w.before [.ref (ad 5), .ref (ad 4)].toArray s = true := fun w h => atoms_spec (ws := (.code y_W_holdTimes b_W_holdTimes 3 none :: tw)) B.pre w (List.mem_cons_of_mem _ h)
  have hown : s.vm.findClass R_W = some m.cls := findClass_of_methodNamed B.named
  have hlocks := B.notSynchronized
  have CX : tC p s m [.ref (ad 5), .ref (ad 4)].toArray meth c b_W_holdTimes none 3 R_W D clS (tyC ta) := ⟨hx, hb, hr, hml, hown, ht, hlocks, hK, hN⟩
  have hS : va_S (tA 37 ad) s.heap s.heap [] := va_S.rf
  have hl := lv_entry ([.ref (ad 5), .ref (ad 4)]) (n := 3) (Nat.le_of_ble_eq_true rfl)
  rw [lg_entry_eq]
  generalize (lg_sl ([.ref (ad 5), .ref (ad 4)]) ++ List.replicate (3 - (lg_sl ([.ref (ad 5), .ref (ad 4)])).length) Slot.unset).toArray = ls at hl ⊢
  replace hl : lv_has ls 3 [(0, .ref (ad 5)), (1, .ref (ad 4))] := hl
  unfold mf_W_holdTimes at hf
  refine lv_iconst (v := (0 : Int32)) hx hb d_W_holdTimes_0 (by decide) ?_
  refine lv_istore_n (lv' := [(2, .int (0 : Int32)), (0, .ref (ad 5)), (1, .ref (ad 4))]) hx hb d_W_holdTimes_1 rfl hl (by decide) rfl (fun ls hl => ?_)
  exact mw_W_holdTimes_2 CX hd _ _ _ _ hf _ _ hP hS _ (lv_sub hl [1, 2, 0] rfl)
abbrev rm_W_costBy : Room := { frames := 0, cells := 0, slots := 0, locals := 0 }
set_option maxHeartbeats 4000000 in
set_option maxRecDepth 100000 in
theorem mc_W_costBy (l : Launch) {D : va_G} {ad : Nat → Nat} {ta : Nat → ClassId} (hd : tD 37 ad) {σ σ' : tS} {p0 : Int32} {r : Int64} (hf : mf_W_costBy p0 σ = some (r, σ')) : Met l y_W_costBy (.code y_W_costBy b_W_costBy 5 (some .long) :: tw) rm_W_costBy (tP D clS (tyC ta) (cwC ad ta σ) [.ref (ad 5), .int p0, .ref (ad 4)]) (tQ D clS (cwC ad ta σ') (some (.long r)) tNo) 0 0 tNo := by
  refine Met.ofW (cc := b_W_costBy) (maxL := 5) (ret := (some .long)) (by decide) rfl ?_
  intro p e s m args below meth c s₁ B hml hv
  obtain ⟨rfl, hP, hK, hN⟩ := hv
  have hx := B.exec
  have hb := B.bytes
  have hr := B.returns
  have ht : ∀ w ∈ tw, w.before [.ref (ad 5), .int p0, .ref (ad 4)].toArray s = true := fun w h => atoms_spec (ws := (.code y_W_costBy b_W_costBy 5 (some .long) :: tw)) B.pre w (List.mem_cons_of_mem _ h)
  have hown : s.vm.findClass R_W = some m.cls := findClass_of_methodNamed B.named
  have hlocks := B.notSynchronized
  have CX : tC p s m [.ref (ad 5), .int p0, .ref (ad 4)].toArray meth c b_W_costBy (some .long) 5 R_W D clS (tyC ta) := ⟨hx, hb, hr, hml, hown, ht, hlocks, hK, hN⟩
  have hS : va_S tNo s.heap s.heap [] := va_S.rf
  have hl := lv_entry ([.ref (ad 5), .int p0, .ref (ad 4)]) (n := 5) (Nat.le_of_ble_eq_true rfl)
  rw [lg_entry_eq]
  generalize (lg_sl ([.ref (ad 5), .int p0, .ref (ad 4)]) ++ List.replicate (5 - (lg_sl ([.ref (ad 5), .int p0, .ref (ad 4)])).length) Slot.unset).toArray = ls at hl ⊢
  replace hl : lv_has ls 5 [(0, .ref (ad 5)), (1, .int p0), (2, .ref (ad 4))] := hl
  unfold mf_W_costBy at hf
  refine lv_aload_n hx hb d_W_costBy_0 rfl (lv_at hl 0 rfl) ?_
  refine va_get (ci := 5) (v := .ref (ad 26)) (C := R_W) (T := F_W) (N := 3) hx hb ht iw_W hown hK hP 5 rfl rfl 1 (by decide) (ht _ wd_208) (fun _ h9 => h9) rfl d_W_costBy_1 ?_
  refine lv_aload_n hx hb d_W_costBy_4 rfl (lv_at hl 2 rfl) ?_
  refine va_get (ci := 4) (v := .ref (ad 17)) (C := R_S) (T := F_S) (N := 10) hx hb ht iw_S hown hK hP 4 rfl rfl 2 (by decide) (ht _ wd_164) (fun _ h9 => h9) rfl d_W_costBy_5 ?_
  refine lv_iload_n hx hb d_W_costBy_8 rfl (lv_at hl 1 rfl) ?_
  obtain ⟨hi1, hf⟩ := tg_of hf
  refine va_iald (f := σ.2.1 8) hx hb hK hP 17 8 rfl rfl hi1 d_W_costBy_9 ?_
  obtain ⟨hi2, hf⟩ := tg_of hf
  refine va_lald (f := σ.2.2 0) hx hb hK hP 26 17 rfl rfl hi2 d_W_costBy_10 ?_
  refine lv_lstore_n (lv' := [(3, .long (σ.2.2 0 (σ.2.1 8 p0.toNatClampNeg).toNatClampNeg)), (0, .ref (ad 5)), (1, .int p0), (2, .ref (ad 4))]) hx hb d_W_costBy_11 rfl hl (by decide) rfl (fun ls hl => ?_)
  refine lv_aload_n hx hb d_W_costBy_12 rfl (lv_at hl 3 rfl) ?_
  refine va_get (ci := 4) (v := .ref (ad 22)) (C := R_S) (T := F_S) (N := 10) hx hb ht iw_S hown hK hP 4 rfl rfl 7 (by decide) (ht _ wd_172) (fun _ h9 => h9) rfl d_W_costBy_13 ?_
  refine lv_iload_n hx hb d_W_costBy_16 rfl (lv_at hl 2 rfl) ?_
  obtain ⟨hi3, hf⟩ := tg_of hf
  refine va_zald (f := σ.2.1 13) hx hb hK hP 22 13 rfl rfl hi3 d_W_costBy_17 ?_
  refine lv_if_eq (tgt := 29) hx hb d_W_costBy_18 (by decide) (fun hc => ?_) (fun hc => ?_)
  · replace hf := ti_pos hc hf
    refine lv_ldc2 (v := (1099511627776 : Int64)) hx hb hown (ht _ wd_287) d_W_costBy_29 ?_
    obtain ⟨rfl, rfl⟩ := tp_of hf
    exact W.lret (v := (1099511627776 : Int64)) hx hb hr (fun t ht hW => ⟨rfl, by rw [ht]; exact hP, hS.F ht⟩) hS.2.2 d_W_costBy_32
  · replace hf := ti_neg hc hf
    refine lv_lload_n hx hb d_W_costBy_21 rfl (lv_at hl 0 rfl) ?_
    refine lv_ldc2 (v := (1099511627776 : Int64)) hx hb hown (ht _ wd_287) d_W_costBy_22 ?_
    refine W.lcmp hx hb d_W_costBy_25 ?_
    refine lv_if_ne (tgt := 33) hx hb d_W_costBy_26 (by decide) (fun hc => ?_) (fun hc => ?_)
    · replace hf := ti_neg hc hf
      refine lv_lload_n hx hb d_W_costBy_33 rfl (lv_at hl 0 rfl) ?_
      refine lv_aload_n hx hb d_W_costBy_34 rfl (lv_at hl 1 rfl) ?_
      refine va_get (ci := 5) (v := .ref (ad 25)) (C := R_W) (T := F_W) (N := 3) hx hb ht iw_W hown hK hP 5 rfl rfl 0 (by decide) (ht _ wd_206) (fun _ h9 => h9) rfl d_W_costBy_35 ?_
      refine lv_iload_n hx hb d_W_costBy_38 rfl (lv_at hl 2 rfl) ?_
      obtain ⟨hi4, hf⟩ := tg_of hf
      refine va_iald (f := σ.2.1 16) hx hb hK hP 25 16 rfl rfl hi4 d_W_costBy_39 ?_
      refine lv_i2l hx hb d_W_costBy_40 rfl ?_
      refine lv_ldc2 (v := (64 : Int64)) hx hb hown (ht _ wd_299) d_W_costBy_41 ?_
      refine lv_lmul hx hb d_W_costBy_44 ?_
      refine lv_ladd hx hb d_W_costBy_45 ?_
      refine lv_lconst (v := (1 : Int64)) hx hb d_W_costBy_46 (by decide) ?_
      refine lv_ladd hx hb d_W_costBy_47 ?_
      obtain ⟨rfl, rfl⟩ := tp_of hf
      exact W.lret (v := (((σ.2.2 0 (σ.2.1 8 p0.toNatClampNeg).toNatClampNeg) + (((σ.2.1 16 p0.toNatClampNeg)).toInt64 * (64 : Int64))) + (1 : Int64))) hx hb hr (fun t ht hW => ⟨rfl, by rw [ht]; exact hP, hS.F ht⟩) hS.2.2 d_W_costBy_48
    · replace hf := ti_pos hc hf
      refine lv_ldc2 (v := (1099511627776 : Int64)) hx hb hown (ht _ wd_287) d_W_costBy_29 ?_
      obtain ⟨rfl, rfl⟩ := tp_of hf
      exact W.lret (v := (1099511627776 : Int64)) hx hb hr (fun t ht hW => ⟨rfl, by rw [ht]; exact hP, hS.F ht⟩) hS.2.2 d_W_costBy_32
abbrev rm_W_chooseNexts : Room := { frames := 1, cells := 0, slots := 0, locals := 24 }
set_option maxHeartbeats 4000000 in
set_option maxRecDepth 100000 in
theorem mw_W_chooseNexts_10 {p : Program} {l : Launch} {e : Env} {s : State} {m : MethodId} {args : Array Value} {below : List Frame} {meth : Method} {c : Code} {D : va_G} {ad : Nat → Nat} {ta : Nat → ClassId} (CX : tC p s m args meth c b_W_chooseNexts none 6 R_W D clS (tyC ta)) (hd : tD 37 ad) : ∀ (k : Nat) (v2 : Int32) (σ : tS) (res : tS), ml_W_chooseNexts_10 k v2 σ = some res → ∀ (H : Heap) (locs : List Loc), va_P D clS (cwC ad ta σ) H → va_S (tA 37 ad) s.heap H locs → ∀ (ls : Array Slot), lv_has ls 6 [(0, .ref (ad 5)), (1, .ref (ad 4)), (2, .int v2)] → W p l e rm_W_chooseNexts s m args below meth c H locs 0 0 (MQ below (tQ D clS (cwC ad ta res) none (tA 37 ad)) args s 0 0 (tA 37 ad)) (F0 m 10 ls []) := by
  obtain ⟨hx, hb, hr, hml, hown, ht, hlocks, hK, hN⟩ := id CX
  intro k
  induction k with
  | zero =>
    intro v2 σ res hf
    exact tn_no hf
  | succ k ih =>
    intro v2 σ res hf H locs hP hS ls hl
    replace hf : ms_W_chooseNexts_10 (ml_W_chooseNexts_10 k) v2 σ = some res := hf
    unfold ms_W_chooseNexts_10 at hf
    refine lv_iload_n hx hb d_W_chooseNexts_10 rfl (lv_at hl 2 rfl) ?_
    refine lv_aload_n hx hb d_W_chooseNexts_11 rfl (lv_at hl 1 rfl) ?_
    refine va_get (ci := 4) (v := .int (σ.1 2)) (C := R_S) (T := F_S) (N := 10) hx hb ht iw_S hown hK hP 4 rfl rfl 0 (by decide) (ht _ wd_158) (fun _ h9 => h9) rfl d_W_chooseNexts_12 ?_
    refine lv_icmp_ge (tgt := 77) hx hb d_W_chooseNexts_15 (by decide) (fun hc => ?_) (fun hc => ?_)
    · replace hf := ti_pos hc hf
      obtain rfl := ts_of hf
      exact W.vret hx hb hr (fun t ht hW => ⟨rfl, by rw [ht]; exact hP, hS.F ht⟩) hS.2.2 d_W_chooseNexts_77
    · replace hf := ti_neg hc hf
      refine lv_aload_n hx hb d_W_chooseNexts_18 rfl (lv_at hl 1 rfl) ?_
      refine va_get (ci := 4) (v := .ref (ad 16)) (C := R_S) (T := F_S) (N := 10) hx hb ht iw_S hown hK hP 4 rfl rfl 1 (by decide) (ht _ wd_161) (fun _ h9 => h9) rfl d_W_chooseNexts_19 ?_
      refine lv_iload_n hx hb d_W_chooseNexts_22 rfl (lv_at hl 2 rfl) ?_
      obtain ⟨hi1, hf⟩ := tg_of hf
      refine va_iald (f := σ.2.1 7) hx hb hK hP 16 7 rfl rfl hi1 d_W_chooseNexts_23 ?_
      refine lv_istore_n (lv' := [(3, .int (σ.2.1 7 v2.toNatClampNeg)), (0, .ref (ad 5)), (1, .ref (ad 4)), (2, .int v2)]) hx hb d_W_chooseNexts_24 rfl hl (by decide) rfl (fun ls hl => ?_)
      refine lv_aload_n hx hb d_W_chooseNexts_25 rfl (lv_at hl 1 rfl) ?_
      refine lv_iload_n hx hb d_W_chooseNexts_26 rfl (lv_at hl 3 rfl) ?_
      refine lv_aload_n hx hb d_W_chooseNexts_27 rfl (lv_at hl 2 rfl) ?_
      obtain ⟨r_2, s_2, hq2, hf⟩ := tb2_of hf
      refine tr_calll (va_runV (C := R_W) (As := [.int v2, .ref (ad 4)]) (rest := []) ⟨hx, hb, hml, hown, ht⟩ (mc_W_costBy l hd hq2) ⟨(tw_cb (n := 2) ht wc_W_costBy wd_41 wd_295 ⟨rfl, rfl⟩ (by decide +kernel) ⟨(Nat.le_of_ble_eq_true rfl), (Nat.le_of_ble_eq_true rfl)⟩), ht _ wd_297, ht _ wd_1⟩ ⟨tP_blind, va_recv hK hP (ci := 5) (q0 := 5) rfl rfl, fun U hU hW => ⟨rfl, by rw [hU]; exact hP, va_K.moved hW.alike hK, tW_warm hW hN⟩⟩ rfl rfl hl.1 rfl (lv_room (Nat.le_of_ble_eq_true rfl)) d_W_chooseNexts_28 ⟨Nat.zero_le _, Nat.zero_le _⟩) hS (fun _ h => h.elim) (fun _ h => h.elim) (fun H locs hP hS => ?_)
      refine lv_lstore (lv' := [(4, .long r_2), (3, .int (σ.2.1 7 v2.toNatClampNeg)), (0, .ref (ad 5)), (1, .ref (ad 4)), (2, .int v2)]) hx hb d_W_chooseNexts_31 hl (by decide) rfl (fun ls hl => ?_)
      refine lv_aload_n hx hb d_W_chooseNexts_33 rfl (lv_at hl 2 rfl) ?_
      refine va_get (ci := 5) (v := .ref (ad 27)) (C := R_W) (T := F_W) (N := 3) hx hb ht iw_W hown hK hP 5 rfl rfl 2 (by decide) (ht _ wd_209) (fun _ h9 => h9) rfl d_W_chooseNexts_34 ?_
      refine lv_iload_n hx hb d_W_chooseNexts_37 rfl (lv_at hl 1 rfl) ?_
      obtain ⟨hi3, hf⟩ := tg_of hf
      refine va_iald (f := s_2.2.1 17) hx hb hK hP 27 18 rfl rfl hi3 d_W_chooseNexts_38 ?_
      refine lv_iconst (v := ((-1) : Int32)) hx hb d_W_chooseNexts_39 (by decide) ?_
      refine lv_icmp_ne (tgt := 71) hx hb d_W_chooseNexts_40 (by decide) (fun hc => ?_) (fun hc => ?_)
      · replace hf := ti_neg hc hf
        refine lv_iinc (v := (v2 + (1 : Int32))) (lv' := [(2, .int (v2 + (1 : Int32))), (4, .long r_2), (3, .int (σ.2.1 7 v2.toNatClampNeg)), (0, .ref (ad 5)), (1, .ref (ad 4))]) hx hb d_W_chooseNexts_71 hl (k := 4) rfl rfl (by decide) rfl (fun ls hl => ?_)
        refine lv_goto (tgt := 10) hx hb d_W_chooseNexts_74 (by decide) ?_
        exact ih _ _ _ hf _ _ hP hS _ (lv_sub hl [3, 4, 0] rfl)
      · replace hf := ti_pos hc hf
        refine lv_lload hx hb d_W_chooseNexts_43 (lv_at hl 0 rfl) ?_
        refine lv_ldc2 (v := (1099511627776 : Int64)) hx hb hown (ht _ wd_287) d_W_chooseNexts_45 ?_
        refine W.lcmp hx hb d_W_chooseNexts_48 ?_
        refine lv_if_eq (tgt := 71) hx hb d_W_chooseNexts_49 (by decide) (fun hc => ?_) (fun hc => ?_)
        · replace hf := ti_pos hc hf
          refine lv_iinc (v := (v2 + (1 : Int32))) (lv' := [(2, .int (v2 + (1 : Int32))), (4, .long r_2), (3, .int (σ.2.1 7 v2.toNatClampNeg)), (0, .ref (ad 5)), (1, .ref (ad 4))]) hx hb d_W_chooseNexts_71 hl (k := 4) rfl rfl (by decide) rfl (fun ls hl => ?_)
          refine lv_goto (tgt := 10) hx hb d_W_chooseNexts_74 (by decide) ?_
          exact ih _ _ _ hf _ _ hP hS _ (lv_sub hl [3, 4, 0] rfl)
        · replace hf := ti_neg hc hf
          refine lv_lload hx hb d_W_chooseNexts_52 (lv_at hl 0 rfl) ?_
          refine lv_aload_n hx hb d_W_chooseNexts_54 rfl (lv_at hl 2 rfl) ?_
          refine va_get (ci := 5) (v := .ref (ad 26)) (C := R_W) (T := F_W) (N := 3) hx hb ht iw_W hown hK hP 5 rfl rfl 1 (by decide) (ht _ wd_208) (fun _ h9 => h9) rfl d_W_chooseNexts_55 ?_
          refine lv_iload_n hx hb d_W_chooseNexts_58 rfl (lv_at hl 1 rfl) ?_
          obtain ⟨hi4, hf⟩ := tg_of hf
          refine va_lald (f := s_2.2.2 0) hx hb hK hP 26 17 rfl rfl hi4 d_W_chooseNexts_59 ?_
          refine W.lcmp hx hb d_W_chooseNexts_60 ?_
          refine lv_if_ne (tgt := 71) hx hb d_W_chooseNexts_61 (by decide) (fun hc => ?_) (fun hc => ?_)
          · replace hf := ti_neg hc hf
            refine lv_iinc (v := (v2 + (1 : Int32))) (lv' := [(2, .int (v2 + (1 : Int32))), (4, .long r_2), (3, .int (σ.2.1 7 v2.toNatClampNeg)), (0, .ref (ad 5)), (1, .ref (ad 4))]) hx hb d_W_chooseNexts_71 hl (k := 4) rfl rfl (by decide) rfl (fun ls hl => ?_)
            refine lv_goto (tgt := 10) hx hb d_W_chooseNexts_74 (by decide) ?_
            exact ih _ _ _ hf _ _ hP hS _ (lv_sub hl [3, 4, 0] rfl)
          · replace hf := ti_pos hc hf
            refine lv_aload_n hx hb d_W_chooseNexts_64 rfl (lv_at hl 2 rfl) ?_
            refine va_get (ci := 5) (v := .ref (ad 27)) (C := R_W) (T := F_W) (N := 3) hx hb ht iw_W hown hK hP 5 rfl rfl 2 (by decide) (ht _ wd_209) (fun _ h9 => h9) rfl d_W_chooseNexts_65 ?_
            refine lv_iload_n hx hb d_W_chooseNexts_68 rfl (lv_at hl 1 rfl) ?_
            refine lv_iload_n hx hb d_W_chooseNexts_69 rfl (lv_at hl 4 rfl) ?_
            obtain ⟨hi5, hf⟩ := tg_of hf
            refine va_iast (f := s_2.2.1 17) hx hb hK hP (cwC_D hd) hS 27 18 rfl rfl hi5 d_W_chooseNexts_70 (fun H locs hP _ hS => ?_)
            replace hP : va_P D clS (cwC ad ta (tI s_2 17 ((σ.2.1 7 v2.toNatClampNeg).toNatClampNeg) v2)) H := hP
            refine lv_iinc (v := (v2 + (1 : Int32))) (lv' := [(2, .int (v2 + (1 : Int32))), (4, .long r_2), (3, .int (σ.2.1 7 v2.toNatClampNeg)), (0, .ref (ad 5)), (1, .ref (ad 4))]) hx hb d_W_chooseNexts_71 hl (k := 4) rfl rfl (by decide) rfl (fun ls hl => ?_)
            refine lv_goto (tgt := 10) hx hb d_W_chooseNexts_74 (by decide) ?_
            exact ih _ _ _ hf _ _ hP hS _ (lv_sub hl [3, 4, 0] rfl)
set_option maxHeartbeats 4000000 in
set_option maxRecDepth 100000 in
theorem mc_W_chooseNexts (l : Launch) {D : va_G} {ad : Nat → Nat} {ta : Nat → ClassId} (hd : tD 37 ad) {σ σ' : tS}  (hf : mf_W_chooseNexts  σ = some σ') : Met l y_W_chooseNexts (.code y_W_chooseNexts b_W_chooseNexts 6 none :: tw) rm_W_chooseNexts (tP D clS (tyC ta) (cwC ad ta σ) [.ref (ad 5), .ref (ad 4)]) (tQ D clS (cwC ad ta σ') none (tA 37 ad)) 0 0 (tA 37 ad) := by
  refine Met.ofW (cc := b_W_chooseNexts) (maxL := 6) (ret := none) (by decide) rfl ?_
  intro p e s m args below meth c s₁ B hml hv
  obtain ⟨rfl, hP, hK, hN⟩ := hv
  have hx := B.exec
  have hb := B.bytes
  have hr := B.returns
  have ht : ∀ w ∈ tw, w.before [.ref (ad 5), .ref (ad 4)].toArray s = true := fun w h => atoms_spec (ws := (.code y_W_chooseNexts b_W_chooseNexts 6 none :: tw)) B.pre w (List.mem_cons_of_mem _ h)
  have hown : s.vm.findClass R_W = some m.cls := findClass_of_methodNamed B.named
  have hlocks := B.notSynchronized
  have CX : tC p s m [.ref (ad 5), .ref (ad 4)].toArray meth c b_W_chooseNexts none 6 R_W D clS (tyC ta) := ⟨hx, hb, hr, hml, hown, ht, hlocks, hK, hN⟩
  have hS : va_S (tA 37 ad) s.heap s.heap [] := va_S.rf
  have hl := lv_entry ([.ref (ad 5), .ref (ad 4)]) (n := 6) (Nat.le_of_ble_eq_true rfl)
  rw [lg_entry_eq]
  generalize (lg_sl ([.ref (ad 5), .ref (ad 4)]) ++ List.replicate (6 - (lg_sl ([.ref (ad 5), .ref (ad 4)])).length) Slot.unset).toArray = ls at hl ⊢
  replace hl : lv_has ls 6 [(0, .ref (ad 5)), (1, .ref (ad 4))] := hl
  unfold mf_W_chooseNexts at hf
  refine lv_aload_n hx hb d_W_chooseNexts_0 rfl (lv_at hl 0 rfl) ?_
  refine va_get (ci := 5) (v := .ref (ad 27)) (C := R_W) (T := F_W) (N := 3) hx hb ht iw_W hown hK hP 5 rfl rfl 2 (by decide) (ht _ wd_209) (fun _ h9 => h9) rfl d_W_chooseNexts_1 ?_
  refine lv_iconst (v := ((-1) : Int32)) hx hb d_W_chooseNexts_4 (by decide) ?_
  refine tr_fillI (f := σ.2.1 17) ⟨hx, hb, hml, hown, ht⟩ ⟨(tw_cb (n := 2) ht wf_I wd_38 wd_304 ⟨rfl, rfl⟩ (by decide +kernel) ⟨(Nat.le_of_ble_eq_true rfl), (Nat.le_of_ble_eq_true rfl)⟩), ht _ wd_113⟩ hK hN hP (cwC_D hd) hS 27 18 rfl rfl (by decide) hl.1 (lv_room (Nat.le_of_ble_eq_true rfl)) d_W_chooseNexts_5 (fun H locs hP hS => ?_) ⟨Nat.zero_le _, Nat.zero_le _⟩
  replace hP : va_P D clS (cwC ad ta (tIf σ 17 ((-1) : Int32))) H := hP
  refine lv_iconst (v := (0 : Int32)) hx hb d_W_chooseNexts_8 (by decide) ?_
  refine lv_istore_n (lv' := [(2, .int (0 : Int32)), (0, .ref (ad 5)), (1, .ref (ad 4))]) hx hb d_W_chooseNexts_9 rfl hl (by decide) rfl (fun ls hl => ?_)
  exact mw_W_chooseNexts_10 CX hd _ _ _ _ hf _ _ hP hS _ (lv_sub hl [1, 2, 0] rfl)
abbrev rm_W_lowerCosts : Room := { frames := 1, cells := 0, slots := 0, locals := 24 }
set_option maxHeartbeats 4000000 in
set_option maxRecDepth 100000 in
theorem mw_W_lowerCosts_4 {p : Program} {l : Launch} {e : Env} {s : State} {m : MethodId} {args : Array Value} {below : List Frame} {meth : Method} {c : Code} {D : va_G} {ad : Nat → Nat} {ta : Nat → ClassId} (CX : tC p s m args meth c b_W_lowerCosts (some .boolean) 6 R_W D clS (tyC ta)) (hd : tD 37 ad) : ∀ (k : Nat) (v2 : Int32) (v3 : Int32) (σ : tS) (res : (Int32 × tS)), ml_W_lowerCosts_4 k v2 v3 σ = some res → ∀ (H : Heap) (locs : List Loc), va_P D clS (cwC ad ta σ) H → va_S (tA 37 ad) s.heap H locs → ∀ (ls : Array Slot), lv_has ls 6 [(0, .ref (ad 5)), (1, .ref (ad 4)), (2, .int v2), (3, .int v3)] → W p l e rm_W_lowerCosts s m args below meth c H locs 0 0 (MQ below (tQ D clS (cwC ad ta res.2) (some (.int res.1)) (tA 37 ad)) args s 0 0 (tA 37 ad)) (F0 m 4 ls []) := by
  obtain ⟨hx, hb, hr, hml, hown, ht, hlocks, hK, hN⟩ := id CX
  intro k
  induction k with
  | zero =>
    intro v2 v3 σ res hf
    exact tn_no hf
  | succ k ih =>
    intro v2 v3 σ res hf H locs hP hS ls hl
    replace hf : ms_W_lowerCosts_4 (ml_W_lowerCosts_4 k) v2 v3 σ = some res := hf
    unfold ms_W_lowerCosts_4 at hf
    refine lv_iload_n hx hb d_W_lowerCosts_4 rfl (lv_at hl 3 rfl) ?_
    refine lv_aload_n hx hb d_W_lowerCosts_5 rfl (lv_at hl 1 rfl) ?_
    refine va_get (ci := 4) (v := .int (σ.1 2)) (C := R_S) (T := F_S) (N := 10) hx hb ht iw_S hown hK hP 4 rfl rfl 0 (by decide) (ht _ wd_158) (fun _ h9 => h9) rfl d_W_lowerCosts_6 ?_
    refine lv_icmp_ge (tgt := 58) hx hb d_W_lowerCosts_9 (by decide) (fun hc => ?_) (fun hc => ?_)
    · replace hf := ti_pos hc hf
      refine lv_iload_n hx hb d_W_lowerCosts_58 rfl (lv_at hl 2 rfl) ?_
      obtain ⟨hb01, hf⟩ := tb_of hf
      obtain rfl := ts_of hf
      exact W.zret (v := v2) (ty := .boolean) hx hb hr (tb_nar hb01) (fun t ht hW => ⟨rfl, by rw [ht]; exact hP, hS.F ht⟩) hS.2.2 d_W_lowerCosts_59
    · replace hf := ti_neg hc hf
      refine lv_aload_n hx hb d_W_lowerCosts_12 rfl (lv_at hl 0 rfl) ?_
      refine lv_iload_n hx hb d_W_lowerCosts_13 rfl (lv_at hl 3 rfl) ?_
      refine lv_aload_n hx hb d_W_lowerCosts_14 rfl (lv_at hl 1 rfl) ?_
      obtain ⟨r_1, s_1, hq1, hf⟩ := tb2_of hf
      refine tr_calll (va_runV (C := R_W) (As := [.int v3, .ref (ad 4)]) (rest := []) ⟨hx, hb, hml, hown, ht⟩ (mc_W_costBy l hd hq1) ⟨(tw_cb (n := 2) ht wc_W_costBy wd_41 wd_295 ⟨rfl, rfl⟩ (by decide +kernel) ⟨(Nat.le_of_ble_eq_true rfl), (Nat.le_of_ble_eq_true rfl)⟩), ht _ wd_297, ht _ wd_1⟩ ⟨tP_blind, va_recv hK hP (ci := 5) (q0 := 5) rfl rfl, fun U hU hW => ⟨rfl, by rw [hU]; exact hP, va_K.moved hW.alike hK, tW_warm hW hN⟩⟩ rfl rfl hl.1 rfl (lv_room (Nat.le_of_ble_eq_true rfl)) d_W_lowerCosts_15 ⟨Nat.zero_le _, Nat.zero_le _⟩) hS (fun _ h => h.elim) (fun _ h => h.elim) (fun H locs hP hS => ?_)
      refine lv_lstore (lv' := [(4, .long r_1), (0, .ref (ad 5)), (1, .ref (ad 4)), (2, .int v2), (3, .int v3)]) hx hb d_W_lowerCosts_18 hl (by decide) rfl (fun ls hl => ?_)
      refine lv_lload hx hb d_W_lowerCosts_20 (lv_at hl 0 rfl) ?_
      refine lv_aload_n hx hb d_W_lowerCosts_22 rfl (lv_at hl 1 rfl) ?_
      refine va_get (ci := 5) (v := .ref (ad 26)) (C := R_W) (T := F_W) (N := 3) hx hb ht iw_W hown hK hP 5 rfl rfl 1 (by decide) (ht _ wd_208) (fun _ h9 => h9) rfl d_W_lowerCosts_23 ?_
      refine lv_aload_n hx hb d_W_lowerCosts_26 rfl (lv_at hl 2 rfl) ?_
      refine va_get (ci := 4) (v := .ref (ad 16)) (C := R_S) (T := F_S) (N := 10) hx hb ht iw_S hown hK hP 4 rfl rfl 1 (by decide) (ht _ wd_161) (fun _ h9 => h9) rfl d_W_lowerCosts_27 ?_
      refine lv_iload_n hx hb d_W_lowerCosts_30 rfl (lv_at hl 4 rfl) ?_
      obtain ⟨hi2, hf⟩ := tg_of hf
      refine va_iald (f := s_1.2.1 7) hx hb hK hP 16 7 rfl rfl hi2 d_W_lowerCosts_31 ?_
      obtain ⟨hi3, hf⟩ := tg_of hf
      refine va_lald (f := s_1.2.2 0) hx hb hK hP 26 17 rfl rfl hi3 d_W_lowerCosts_32 ?_
      refine W.lcmp hx hb d_W_lowerCosts_33 ?_
      refine lv_if_ge (tgt := 52) hx hb d_W_lowerCosts_34 (by decide) (fun hc => ?_) (fun hc => ?_)
      · replace hf := ti_pos hc hf
        refine lv_iinc (v := (v3 + (1 : Int32))) (lv' := [(3, .int (v3 + (1 : Int32))), (4, .long r_1), (0, .ref (ad 5)), (1, .ref (ad 4)), (2, .int v2)]) hx hb d_W_lowerCosts_52 hl (k := 4) rfl rfl (by decide) rfl (fun ls hl => ?_)
        refine lv_goto (tgt := 4) hx hb d_W_lowerCosts_55 (by decide) ?_
        exact ih _ _ _ _ hf _ _ hP hS _ (lv_sub hl [2, 3, 4, 0] rfl)
      · replace hf := ti_neg hc hf
        refine lv_aload_n hx hb d_W_lowerCosts_37 rfl (lv_at hl 1 rfl) ?_
        refine va_get (ci := 5) (v := .ref (ad 26)) (C := R_W) (T := F_W) (N := 3) hx hb ht iw_W hown hK hP 5 rfl rfl 1 (by decide) (ht _ wd_208) (fun _ h9 => h9) rfl d_W_lowerCosts_38 ?_
        refine lv_aload_n hx hb d_W_lowerCosts_41 rfl (lv_at hl 2 rfl) ?_
        refine va_get (ci := 4) (v := .ref (ad 16)) (C := R_S) (T := F_S) (N := 10) hx hb ht iw_S hown hK hP 4 rfl rfl 1 (by decide) (ht _ wd_161) (fun _ h9 => h9) rfl d_W_lowerCosts_42 ?_
        refine lv_iload_n hx hb d_W_lowerCosts_45 rfl (lv_at hl 4 rfl) ?_
        obtain ⟨hi4, hf⟩ := tg_of hf
        refine va_iald (f := s_1.2.1 7) hx hb hK hP 16 7 rfl rfl hi4 d_W_lowerCosts_46 ?_
        refine lv_lload hx hb d_W_lowerCosts_47 (lv_at hl 0 rfl) ?_
        obtain ⟨hi5, hf⟩ := tg_of hf
        refine va_last (f := s_1.2.2 0) hx hb hK hP (cwC_D hd) hS 26 17 rfl rfl hi5 d_W_lowerCosts_49 (fun H locs hP _ hS => ?_)
        replace hP : va_P D clS (cwC ad ta (tJ s_1 0 ((s_1.2.1 7 v3.toNatClampNeg).toNatClampNeg) r_1)) H := hP
        refine lv_iconst (v := (1 : Int32)) hx hb d_W_lowerCosts_50 (by decide) ?_
        refine lv_istore_n (lv' := [(2, .int (1 : Int32)), (4, .long r_1), (0, .ref (ad 5)), (1, .ref (ad 4)), (3, .int v3)]) hx hb d_W_lowerCosts_51 rfl hl (by decide) rfl (fun ls hl => ?_)
        refine lv_iinc (v := (v3 + (1 : Int32))) (lv' := [(3, .int (v3 + (1 : Int32))), (2, .int (1 : Int32)), (4, .long r_1), (0, .ref (ad 5)), (1, .ref (ad 4))]) hx hb d_W_lowerCosts_52 hl (k := 4) rfl rfl (by decide) rfl (fun ls hl => ?_)
        refine lv_goto (tgt := 4) hx hb d_W_lowerCosts_55 (by decide) ?_
        exact ih _ _ _ _ hf _ _ hP hS _ (lv_sub hl [3, 4, 1, 0] rfl)
set_option maxHeartbeats 4000000 in
set_option maxRecDepth 100000 in
theorem mc_W_lowerCosts (l : Launch) {D : va_G} {ad : Nat → Nat} {ta : Nat → ClassId} (hd : tD 37 ad) {σ σ' : tS}  {r : Int32} (hf : mf_W_lowerCosts  σ = some (r, σ')) : Met l y_W_lowerCosts (.code y_W_lowerCosts b_W_lowerCosts 6 (some .boolean) :: tw) rm_W_lowerCosts (tP D clS (tyC ta) (cwC ad ta σ) [.ref (ad 5), .ref (ad 4)]) (tQ D clS (cwC ad ta σ') (some (.int r)) (tA 37 ad)) 0 0 (tA 37 ad) := by
  refine Met.ofW (cc := b_W_lowerCosts) (maxL := 6) (ret := (some .boolean)) (by decide) rfl ?_
  intro p e s m args below meth c s₁ B hml hv
  obtain ⟨rfl, hP, hK, hN⟩ := hv
  have hx := B.exec
  have hb := B.bytes
  have hr := B.returns
  have ht : ∀ w ∈ tw, w.before [.ref (ad 5), .ref (ad 4)].toArray s = true := fun w h => atoms_spec (ws := (.code y_W_lowerCosts b_W_lowerCosts 6 (some .boolean) :: tw)) B.pre w (List.mem_cons_of_mem _ h)
  have hown : s.vm.findClass R_W = some m.cls := findClass_of_methodNamed B.named
  have hlocks := B.notSynchronized
  have CX : tC p s m [.ref (ad 5), .ref (ad 4)].toArray meth c b_W_lowerCosts (some .boolean) 6 R_W D clS (tyC ta) := ⟨hx, hb, hr, hml, hown, ht, hlocks, hK, hN⟩
  have hS : va_S (tA 37 ad) s.heap s.heap [] := va_S.rf
  have hl := lv_entry ([.ref (ad 5), .ref (ad 4)]) (n := 6) (Nat.le_of_ble_eq_true rfl)
  rw [lg_entry_eq]
  generalize (lg_sl ([.ref (ad 5), .ref (ad 4)]) ++ List.replicate (6 - (lg_sl ([.ref (ad 5), .ref (ad 4)])).length) Slot.unset).toArray = ls at hl ⊢
  replace hl : lv_has ls 6 [(0, .ref (ad 5)), (1, .ref (ad 4))] := hl
  unfold mf_W_lowerCosts at hf
  refine lv_iconst (v := (0 : Int32)) hx hb d_W_lowerCosts_0 (by decide) ?_
  refine lv_istore_n (lv' := [(2, .int (0 : Int32)), (0, .ref (ad 5)), (1, .ref (ad 4))]) hx hb d_W_lowerCosts_1 rfl hl (by decide) rfl (fun ls hl => ?_)
  refine lv_iconst (v := (0 : Int32)) hx hb d_W_lowerCosts_2 (by decide) ?_
  refine lv_istore_n (lv' := [(3, .int (0 : Int32)), (2, .int (0 : Int32)), (0, .ref (ad 5)), (1, .ref (ad 4))]) hx hb d_W_lowerCosts_3 rfl hl (by decide) rfl (fun ls hl => ?_)
  exact mw_W_lowerCosts_4 CX hd _ _ _ _ _ hf _ _ hP hS _ (lv_sub hl [2, 3, 1, 0] rfl)
abbrev rm_W_aimAt : Room := { frames := 2, cells := 0, slots := 0, locals := 49 }
set_option maxHeartbeats 4000000 in
set_option maxRecDepth 100000 in
theorem mw_W_aimAt_22 {p : Program} {l : Launch} {e : Env} {s : State} {m : MethodId} {args : Array Value} {below : List Frame} {meth : Method} {c : Code} {D : va_G} {ad : Nat → Nat} {ta : Nat → ClassId} (CX : tC p s m args meth c b_W_aimAt none 5 R_W D clS (tyC ta)) (hd : tD 37 ad) : ∀ (k : Nat) (v1 : Int32) (v3 : Int32) (v4 : Int32) (σ : tS) (res : tS), ml_W_aimAt_22 k v1 v3 v4 σ = some res → ∀ (H : Heap) (locs : List Loc), va_P D clS (cwC ad ta σ) H → va_S (tA 37 ad) s.heap H locs → ∀ (ls : Array Slot), lv_has ls 5 [(0, .ref (ad 5)), (1, .int v1), (2, .ref (ad 4)), (3, .int v3), (4, .int v4)] → W p l e rm_W_aimAt s m args below meth c H locs 0 0 (MQ below (tQ D clS (cwC ad ta res) none (tA 37 ad)) args s 0 0 (tA 37 ad)) (F0 m 22 ls []) := by
  obtain ⟨hx, hb, hr, hml, hown, ht, hlocks, hK, hN⟩ := id CX
  intro k
  induction k with
  | zero =>
    intro v1 v3 v4 σ res hf
    exact tn_no hf
  | succ k ih =>
    intro v1 v3 v4 σ res hf H locs hP hS ls hl
    replace hf : ms_W_aimAt_22 (ml_W_aimAt_22 k) v1 v3 v4 σ = some res := hf
    unfold ms_W_aimAt_22 at hf
    refine lv_iload hx hb d_W_aimAt_22 (lv_at hl 4 rfl) ?_
    refine lv_bipush (v := (12 : Int32)) hx hb d_W_aimAt_24 (by decide) ?_
    refine lv_icmp_ge (tgt := 45) hx hb d_W_aimAt_26 (by decide) (fun hc => ?_) (fun hc => ?_)
    · replace hf := ti_pos hc hf
      refine lv_aload_n hx hb d_W_aimAt_45 rfl (lv_at hl 0 rfl) ?_
      refine lv_aload_n hx hb d_W_aimAt_46 rfl (lv_at hl 2 rfl) ?_
      obtain ⟨s_2, hq2, hf⟩ := tb1_of hf
      refine tr_callv (va_runV (C := R_W) (As := [.ref (ad 4)]) (rest := []) ⟨hx, hb, hml, hown, ht⟩ (mc_W_chooseNexts l hd hq2) ⟨(tw_cb (n := 1) ht wc_W_chooseNexts wd_41 wd_300 ⟨rfl, rfl⟩ (by decide +kernel) ⟨(Nat.le_of_ble_eq_true rfl), (Nat.le_of_ble_eq_true rfl)⟩), ht _ wd_302, ht _ wd_2⟩ ⟨tP_blind, va_recv hK hP (ci := 5) (q0 := 5) rfl rfl, fun U hU hW => ⟨rfl, by rw [hU]; exact hP, va_K.moved hW.alike hK, tW_warm hW hN⟩⟩ rfl rfl hl.1 rfl (lv_room (Nat.le_of_ble_eq_true rfl)) d_W_aimAt_47 ⟨Nat.zero_le _, Nat.zero_le _⟩) hS (fun _ h => h) (fun _ h => h) (fun H locs hP hS => ?_)
      obtain rfl := ts_of hf
      exact W.vret hx hb hr (fun t ht hW => ⟨rfl, by rw [ht]; exact hP, hS.F ht⟩) hS.2.2 d_W_aimAt_50
    · replace hf := ti_neg hc hf
      refine lv_iload_n hx hb d_W_aimAt_29 rfl (lv_at hl 3 rfl) ?_
      refine lv_if_eq (tgt := 45) hx hb d_W_aimAt_30 (by decide) (fun hc => ?_) (fun hc => ?_)
      · replace hf := ti_pos hc hf
        refine lv_aload_n hx hb d_W_aimAt_45 rfl (lv_at hl 0 rfl) ?_
        refine lv_aload_n hx hb d_W_aimAt_46 rfl (lv_at hl 2 rfl) ?_
        obtain ⟨s_3, hq3, hf⟩ := tb1_of hf
        refine tr_callv (va_runV (C := R_W) (As := [.ref (ad 4)]) (rest := []) ⟨hx, hb, hml, hown, ht⟩ (mc_W_chooseNexts l hd hq3) ⟨(tw_cb (n := 1) ht wc_W_chooseNexts wd_41 wd_300 ⟨rfl, rfl⟩ (by decide +kernel) ⟨(Nat.le_of_ble_eq_true rfl), (Nat.le_of_ble_eq_true rfl)⟩), ht _ wd_302, ht _ wd_2⟩ ⟨tP_blind, va_recv hK hP (ci := 5) (q0 := 5) rfl rfl, fun U hU hW => ⟨rfl, by rw [hU]; exact hP, va_K.moved hW.alike hK, tW_warm hW hN⟩⟩ rfl rfl hl.1 rfl (lv_room (Nat.le_of_ble_eq_true rfl)) d_W_aimAt_47 ⟨Nat.zero_le _, Nat.zero_le _⟩) hS (fun _ h => h) (fun _ h => h) (fun H locs hP hS => ?_)
        obtain rfl := ts_of hf
        exact W.vret hx hb hr (fun t ht hW => ⟨rfl, by rw [ht]; exact hP, hS.F ht⟩) hS.2.2 d_W_aimAt_50
      · replace hf := ti_neg hc hf
        refine lv_aload_n hx hb d_W_aimAt_33 rfl (lv_at hl 0 rfl) ?_
        refine lv_aload_n hx hb d_W_aimAt_34 rfl (lv_at hl 2 rfl) ?_
        obtain ⟨r_4, s_4, hq4, hf⟩ := tb2_of hf
        refine tr_calli (va_runV (C := R_W) (As := [.ref (ad 4)]) (rest := []) ⟨hx, hb, hml, hown, ht⟩ (mc_W_lowerCosts l hd hq4) ⟨(tw_cb (n := 1) ht wc_W_lowerCosts wd_41 wd_291 ⟨rfl, rfl⟩ (by decide +kernel) ⟨(Nat.le_of_ble_eq_true rfl), (Nat.le_of_ble_eq_true rfl)⟩), ht _ wd_293, ht _ wd_0⟩ ⟨tP_blind, va_recv hK hP (ci := 5) (q0 := 5) rfl rfl, fun U hU hW => ⟨rfl, by rw [hU]; exact hP, va_K.moved hW.alike hK, tW_warm hW hN⟩⟩ rfl rfl hl.1 rfl (lv_room (Nat.le_of_ble_eq_true rfl)) d_W_aimAt_35 ⟨Nat.zero_le _, Nat.zero_le _⟩) hS (fun _ h => h) (fun _ h => h) (fun H locs hP hS => ?_)
        refine lv_istore_n (lv' := [(3, .int r_4), (0, .ref (ad 5)), (1, .int v1), (2, .ref (ad 4)), (4, .int v4)]) hx hb d_W_aimAt_38 rfl hl (by decide) rfl (fun ls hl => ?_)
        refine lv_iinc (v := (v4 + (1 : Int32))) (lv' := [(4, .int (v4 + (1 : Int32))), (3, .int r_4), (0, .ref (ad 5)), (1, .int v1), (2, .ref (ad 4))]) hx hb d_W_aimAt_39 hl (k := 4) rfl rfl (by decide) rfl (fun ls hl => ?_)
        refine lv_goto (tgt := 22) hx hb d_W_aimAt_42 (by decide) ?_
        exact ih _ _ _ _ _ hf _ _ hP hS _ (lv_sub hl [2, 3, 4, 1, 0] rfl)
set_option maxHeartbeats 4000000 in
set_option maxRecDepth 100000 in
theorem mc_W_aimAt (l : Launch) {D : va_G} {ad : Nat → Nat} {ta : Nat → ClassId} (hd : tD 37 ad) {σ σ' : tS} {p0 : Int32} (hf : mf_W_aimAt p0 σ = some σ') : Met l y_W_aimAt (.code y_W_aimAt b_W_aimAt 5 none :: tw) rm_W_aimAt (tP D clS (tyC ta) (cwC ad ta σ) [.ref (ad 5), .int p0, .ref (ad 4)]) (tQ D clS (cwC ad ta σ') none (tA 37 ad)) 0 0 (tA 37 ad) := by
  refine Met.ofW (cc := b_W_aimAt) (maxL := 5) (ret := none) (by decide) rfl ?_
  intro p e s m args below meth c s₁ B hml hv
  obtain ⟨rfl, hP, hK, hN⟩ := hv
  have hx := B.exec
  have hb := B.bytes
  have hr := B.returns
  have ht : ∀ w ∈ tw, w.before [.ref (ad 5), .int p0, .ref (ad 4)].toArray s = true := fun w h => atoms_spec (ws := (.code y_W_aimAt b_W_aimAt 5 none :: tw)) B.pre w (List.mem_cons_of_mem _ h)
  have hown : s.vm.findClass R_W = some m.cls := findClass_of_methodNamed B.named
  have hlocks := B.notSynchronized
  have CX : tC p s m [.ref (ad 5), .int p0, .ref (ad 4)].toArray meth c b_W_aimAt none 5 R_W D clS (tyC ta) := ⟨hx, hb, hr, hml, hown, ht, hlocks, hK, hN⟩
  have hS : va_S (tA 37 ad) s.heap s.heap [] := va_S.rf
  have hl := lv_entry ([.ref (ad 5), .int p0, .ref (ad 4)]) (n := 5) (Nat.le_of_ble_eq_true rfl)
  rw [lg_entry_eq]
  generalize (lg_sl ([.ref (ad 5), .int p0, .ref (ad 4)]) ++ List.replicate (5 - (lg_sl ([.ref (ad 5), .int p0, .ref (ad 4)])).length) Slot.unset).toArray = ls at hl ⊢
  replace hl : lv_has ls 5 [(0, .ref (ad 5)), (1, .int p0), (2, .ref (ad 4))] := hl
  unfold mf_W_aimAt at hf
  refine lv_aload_n hx hb d_W_aimAt_0 rfl (lv_at hl 0 rfl) ?_
  refine va_get (ci := 5) (v := .ref (ad 26)) (C := R_W) (T := F_W) (N := 3) hx hb ht iw_W hown hK hP 5 rfl rfl 1 (by decide) (ht _ wd_208) (fun _ h9 => h9) rfl d_W_aimAt_1 ?_
  refine lv_ldc2 (v := (1099511627776 : Int64)) hx hb hown (ht _ wd_287) d_W_aimAt_4 ?_
  refine tr_fillJ (f := σ.2.2 0) ⟨hx, hb, hml, hown, ht⟩ ⟨(tw_cb (n := 2) ht wf_J wd_38 wd_288 ⟨rfl, rfl⟩ (by decide +kernel) ⟨(Nat.le_of_ble_eq_true rfl), (Nat.le_of_ble_eq_true rfl)⟩), ht _ wd_289⟩ hK hN hP (cwC_D hd) hS 26 17 rfl rfl (by decide) hl.1 (lv_room (Nat.le_of_ble_eq_true rfl)) d_W_aimAt_7 (fun H locs hP hS => ?_) ⟨Nat.zero_le _, Nat.zero_le _⟩
  replace hP : va_P D clS (cwC ad ta (tJf σ 0 (1099511627776 : Int64))) H := hP
  refine lv_aload_n hx hb d_W_aimAt_10 rfl (lv_at hl 0 rfl) ?_
  refine va_get (ci := 5) (v := .ref (ad 26)) (C := R_W) (T := F_W) (N := 3) hx hb ht iw_W hown hK hP 5 rfl rfl 1 (by decide) (ht _ wd_208) (fun _ h9 => h9) rfl d_W_aimAt_11 ?_
  refine lv_iload_n hx hb d_W_aimAt_14 rfl (lv_at hl 1 rfl) ?_
  refine lv_lconst (v := (0 : Int64)) hx hb d_W_aimAt_15 (by decide) ?_
  obtain ⟨hi1, hf⟩ := tg_of hf
  refine va_last (f := (tJf σ 0 (1099511627776 : Int64)).2.2 0) hx hb hK hP (cwC_D hd) hS 26 17 rfl rfl hi1 d_W_aimAt_16 (fun H locs hP _ hS => ?_)
  replace hP : va_P D clS (cwC ad ta (tJ (tJf σ 0 (1099511627776 : Int64)) 0 p0.toNatClampNeg (0 : Int64))) H := hP
  refine lv_iconst (v := (1 : Int32)) hx hb d_W_aimAt_17 (by decide) ?_
  refine lv_istore_n (lv' := [(3, .int (1 : Int32)), (0, .ref (ad 5)), (1, .int p0), (2, .ref (ad 4))]) hx hb d_W_aimAt_18 rfl hl (by decide) rfl (fun ls hl => ?_)
  refine lv_iconst (v := (0 : Int32)) hx hb d_W_aimAt_19 (by decide) ?_
  refine lv_istore (lv' := [(4, .int (0 : Int32)), (3, .int (1 : Int32)), (0, .ref (ad 5)), (1, .int p0), (2, .ref (ad 4))]) hx hb d_W_aimAt_20 hl (by decide) rfl (fun ls hl => ?_)
  exact mw_W_aimAt_22 CX hd _ _ _ _ _ _ hf _ _ hP hS _ (lv_sub hl [2, 3, 4, 1, 0] rfl)
abbrev rm_A_tripsOfPart : Room := { frames := 0, cells := 0, slots := 0, locals := 0 }
set_option maxHeartbeats 4000000 in
set_option maxRecDepth 100000 in
theorem mc_A_tripsOfPart (l : Launch) {D : va_G} {ad : Nat → Nat} {ta : Nat → ClassId} (hd : tD 37 ad) {σ σ' : tS} {p0 : Int32} {p1 : Int32} {r : Int32} (hf : mf_A_tripsOfPart p0 p1 σ = some (r, σ')) : Met l y_A_tripsOfPart (.code y_A_tripsOfPart b_A_tripsOfPart 5 (some .int) :: tw) rm_A_tripsOfPart (tP D clS (tyC ta) (cwC ad ta σ) [.ref (ad 6), .int p0, .int p1]) (tQ D clS (cwC ad ta σ') (some (.int r)) tNo) 0 0 tNo := by
  refine Met.ofW (cc := b_A_tripsOfPart) (maxL := 5) (ret := (some .int)) (by decide) rfl ?_
  intro p e s m args below meth c s₁ B hml hv
  obtain ⟨rfl, hP, hK, hN⟩ := hv
  have hx := B.exec
  have hb := B.bytes
  have hr := B.returns
  have ht : ∀ w ∈ tw, w.before [.ref (ad 6), .int p0, .int p1].toArray s = true := fun w h => atoms_spec (ws := (.code y_A_tripsOfPart b_A_tripsOfPart 5 (some .int) :: tw)) B.pre w (List.mem_cons_of_mem _ h)
  have hown : s.vm.findClass R_A = some m.cls := findClass_of_methodNamed B.named
  have hlocks := B.notSynchronized
  have CX : tC p s m [.ref (ad 6), .int p0, .int p1].toArray meth c b_A_tripsOfPart (some .int) 5 R_A D clS (tyC ta) := ⟨hx, hb, hr, hml, hown, ht, hlocks, hK, hN⟩
  have hS : va_S tNo s.heap s.heap [] := va_S.rf
  have hl := lv_entry ([.ref (ad 6), .int p0, .int p1]) (n := 5) (Nat.le_of_ble_eq_true rfl)
  rw [lg_entry_eq]
  generalize (lg_sl ([.ref (ad 6), .int p0, .int p1]) ++ List.replicate (5 - (lg_sl ([.ref (ad 6), .int p0, .int p1])).length) Slot.unset).toArray = ls at hl ⊢
  replace hl : lv_has ls 5 [(0, .ref (ad 6)), (1, .int p0), (2, .int p1)] := hl
  unfold mf_A_tripsOfPart at hf
  refine lv_aload_n hx hb d_A_tripsOfPart_0 rfl (lv_at hl 0 rfl) ?_
  refine va_get (ci := 6) (v := .int (σ.1 3)) (C := R_A) (T := F_A) (N := 5) hx hb ht iw_A hown hK hP 6 rfl rfl 0 (by decide) (ht _ wd_224) (fun _ h9 => h9) rfl d_A_tripsOfPart_1 ?_
  refine lv_if_ne (tgt := 9) hx hb d_A_tripsOfPart_4 (by decide) (fun hc => ?_) (fun hc => ?_)
  · replace hf := ti_neg hc hf
    refine lv_aload_n hx hb d_A_tripsOfPart_9 rfl (lv_at hl 0 rfl) ?_
    refine va_get (ci := 6) (v := .ref (ad 28)) (C := R_A) (T := F_A) (N := 5) hx hb ht iw_A hown hK hP 6 rfl rfl 2 (by decide) (ht _ wd_228) (fun _ h9 => h9) rfl d_A_tripsOfPart_10 ?_
    refine lv_iload_n hx hb d_A_tripsOfPart_13 rfl (lv_at hl 1 rfl) ?_
    obtain ⟨hi1, hf⟩ := tg_of hf
    refine va_iald (f := σ.2.1 18) hx hb hK hP 28 19 rfl rfl hi1 d_A_tripsOfPart_14 ?_
    refine lv_i2l hx hb d_A_tripsOfPart_15 rfl ?_
    refine lv_lstore_n (lv' := [(3, .long (((σ.2.1 18 p0.toNatClampNeg)).toInt64)), (0, .ref (ad 6)), (1, .int p0), (2, .int p1)]) hx hb d_A_tripsOfPart_16 rfl hl (by decide) rfl (fun ls hl => ?_)
    refine lv_lload_n hx hb d_A_tripsOfPart_17 rfl (lv_at hl 0 rfl) ?_
    refine lv_iload_n hx hb d_A_tripsOfPart_18 rfl (lv_at hl 3 rfl) ?_
    refine lv_iconst (v := (1 : Int32)) hx hb d_A_tripsOfPart_19 (by decide) ?_
    refine lv_iadd hx hb d_A_tripsOfPart_20 ?_
    refine lv_i2l hx hb d_A_tripsOfPart_21 rfl ?_
    refine lv_lmul hx hb d_A_tripsOfPart_22 ?_
    refine lv_aload_n hx hb d_A_tripsOfPart_23 rfl (lv_at hl 1 rfl) ?_
    refine va_get (ci := 6) (v := .int (σ.1 3)) (C := R_A) (T := F_A) (N := 5) hx hb ht iw_A hown hK hP 6 rfl rfl 0 (by decide) (ht _ wd_224) (fun _ h9 => h9) rfl d_A_tripsOfPart_24 ?_
    refine lv_i2l hx hb d_A_tripsOfPart_27 rfl ?_
    obtain ⟨hz2, hf⟩ := tz_of hf
    refine lv_ldiv hx hb d_A_tripsOfPart_28 hz2 ?_
    refine lv_lload_n hx hb d_A_tripsOfPart_29 rfl (lv_at hl 0 rfl) ?_
    refine lv_iload_n hx hb d_A_tripsOfPart_30 rfl (lv_at hl 3 rfl) ?_
    refine lv_i2l hx hb d_A_tripsOfPart_31 rfl ?_
    refine lv_lmul hx hb d_A_tripsOfPart_32 ?_
    refine lv_aload_n hx hb d_A_tripsOfPart_33 rfl (lv_at hl 1 rfl) ?_
    refine va_get (ci := 6) (v := .int (σ.1 3)) (C := R_A) (T := F_A) (N := 5) hx hb ht iw_A hown hK hP 6 rfl rfl 0 (by decide) (ht _ wd_224) (fun _ h9 => h9) rfl d_A_tripsOfPart_34 ?_
    refine lv_i2l hx hb d_A_tripsOfPart_37 rfl ?_
    obtain ⟨hz3, hf⟩ := tz_of hf
    refine lv_ldiv hx hb d_A_tripsOfPart_38 hz3 ?_
    refine lv_lsub hx hb d_A_tripsOfPart_39 ?_
    refine lv_l2i hx hb d_A_tripsOfPart_40 rfl ?_
    obtain ⟨rfl, rfl⟩ := tp_of hf
    exact W.iret (v := ((((((σ.2.1 18 p0.toNatClampNeg)).toInt64 * ((p1 + (1 : Int32))).toInt64) / ((σ.1 3)).toInt64) - ((((σ.2.1 18 p0.toNatClampNeg)).toInt64 * (p1).toInt64) / ((σ.1 3)).toInt64))).toInt32) hx hb hr (fun t ht hW => ⟨rfl, by rw [ht]; exact hP, hS.F ht⟩) hS.2.2 d_A_tripsOfPart_41
  · replace hf := ti_pos hc hf
    refine lv_iconst (v := (0 : Int32)) hx hb d_A_tripsOfPart_7 (by decide) ?_
    obtain ⟨rfl, rfl⟩ := tp_of hf
    exact W.iret (v := (0 : Int32)) hx hb hr (fun t ht hW => ⟨rfl, by rw [ht]; exact hP, hS.F ht⟩) hS.2.2 d_A_tripsOfPart_8
abbrev rm_W_timeFrom : Room := { frames := 0, cells := 0, slots := 0, locals := 0 }
set_option maxHeartbeats 4000000 in
set_option maxRecDepth 100000 in
theorem mc_W_timeFrom (l : Launch) {D : va_G} {ad : Nat → Nat} {ta : Nat → ClassId} (hd : tD 37 ad) {σ σ' : tS} {p0 : Int32} {r : Int32} (hf : mf_W_timeFrom p0 σ = some (r, σ')) : Met l y_W_timeFrom (.code y_W_timeFrom b_W_timeFrom 2 (some .int) :: tw) rm_W_timeFrom (tP D clS (tyC ta) (cwC ad ta σ) [.ref (ad 5), .int p0]) (tQ D clS (cwC ad ta σ') (some (.int r)) tNo) 0 0 tNo := by
  refine Met.ofW (cc := b_W_timeFrom) (maxL := 2) (ret := (some .int)) (by decide) rfl ?_
  intro p e s m args below meth c s₁ B hml hv
  obtain ⟨rfl, hP, hK, hN⟩ := hv
  have hx := B.exec
  have hb := B.bytes
  have hr := B.returns
  have ht : ∀ w ∈ tw, w.before [.ref (ad 5), .int p0].toArray s = true := fun w h => atoms_spec (ws := (.code y_W_timeFrom b_W_timeFrom 2 (some .int) :: tw)) B.pre w (List.mem_cons_of_mem _ h)
  have hown : s.vm.findClass R_W = some m.cls := findClass_of_methodNamed B.named
  have hlocks := B.notSynchronized
  have CX : tC p s m [.ref (ad 5), .int p0].toArray meth c b_W_timeFrom (some .int) 2 R_W D clS (tyC ta) := ⟨hx, hb, hr, hml, hown, ht, hlocks, hK, hN⟩
  have hS : va_S tNo s.heap s.heap [] := va_S.rf
  have hl := lv_entry ([.ref (ad 5), .int p0]) (n := 2) (Nat.le_of_ble_eq_true rfl)
  rw [lg_entry_eq]
  generalize (lg_sl ([.ref (ad 5), .int p0]) ++ List.replicate (2 - (lg_sl ([.ref (ad 5), .int p0])).length) Slot.unset).toArray = ls at hl ⊢
  replace hl : lv_has ls 2 [(0, .ref (ad 5)), (1, .int p0)] := hl
  unfold mf_W_timeFrom at hf
  refine lv_aload_n hx hb d_W_timeFrom_0 rfl (lv_at hl 0 rfl) ?_
  refine va_get (ci := 5) (v := .ref (ad 26)) (C := R_W) (T := F_W) (N := 3) hx hb ht iw_W hown hK hP 5 rfl rfl 1 (by decide) (ht _ wd_208) (fun _ h9 => h9) rfl d_W_timeFrom_1 ?_
  refine lv_iload_n hx hb d_W_timeFrom_4 rfl (lv_at hl 1 rfl) ?_
  obtain ⟨hi1, hf⟩ := tg_of hf
  refine va_lald (f := σ.2.2 0) hx hb hK hP 26 17 rfl rfl hi1 d_W_timeFrom_5 ?_
  refine lv_ldc2 (v := (1099511627776 : Int64)) hx hb hown (ht _ wd_287) d_W_timeFrom_6 ?_
  refine W.lcmp hx hb d_W_timeFrom_9 ?_
  refine lv_if_ne (tgt := 17) hx hb d_W_timeFrom_10 (by decide) (fun hc => ?_) (fun hc => ?_)
  · replace hf := ti_neg hc hf
    refine lv_aload_n hx hb d_W_timeFrom_17 rfl (lv_at hl 0 rfl) ?_
    refine va_get (ci := 5) (v := .ref (ad 26)) (C := R_W) (T := F_W) (N := 3) hx hb ht iw_W hown hK hP 5 rfl rfl 1 (by decide) (ht _ wd_208) (fun _ h9 => h9) rfl d_W_timeFrom_18 ?_
    refine lv_iload_n hx hb d_W_timeFrom_21 rfl (lv_at hl 1 rfl) ?_
    obtain ⟨hi2, hf⟩ := tg_of hf
    refine va_lald (f := σ.2.2 0) hx hb hK hP 26 17 rfl rfl hi2 d_W_timeFrom_22 ?_
    refine lv_ldc2 (v := (64 : Int64)) hx hb hown (ht _ wd_299) d_W_timeFrom_23 ?_
    obtain ⟨hz3, hf⟩ := tz_of hf
    refine lv_ldiv hx hb d_W_timeFrom_26 hz3 ?_
    refine lv_l2i hx hb d_W_timeFrom_27 rfl ?_
    obtain ⟨rfl, rfl⟩ := tp_of hf
    exact W.iret (v := (((σ.2.2 0 p0.toNatClampNeg) / (64 : Int64))).toInt32) hx hb hr (fun t ht hW => ⟨rfl, by rw [ht]; exact hP, hS.F ht⟩) hS.2.2 d_W_timeFrom_28
  · replace hf := ti_pos hc hf
    refine lv_iconst (v := ((-1) : Int32)) hx hb d_W_timeFrom_13 (by decide) ?_
    refine lv_goto (tgt := 28) hx hb d_W_timeFrom_14 (by decide) ?_
    obtain ⟨rfl, rfl⟩ := tp_of hf
    exact W.iret (v := ((-1) : Int32)) hx hb hr (fun t ht hW => ⟨rfl, by rw [ht]; exact hP, hS.F ht⟩) hS.2.2 d_W_timeFrom_28
abbrev rm_A_placeOf : Room := { frames := 0, cells := 0, slots := 0, locals := 0 }
set_option maxHeartbeats 4000000 in
set_option maxRecDepth 100000 in
theorem mc_A_placeOf (l : Launch) {D : va_G} {ad : Nat → Nat} {ta : Nat → ClassId} (hd : tD 37 ad) {σ σ' : tS} {p0 : Int32} {p1 : Int32} {r : Int32} (hf : mf_A_placeOf p0 p1 σ = some (r, σ')) : Met l y_A_placeOf (.code y_A_placeOf b_A_placeOf 2 (some .int) :: tw) rm_A_placeOf (tP D clS (tyC ta) (cwC ad ta σ) [.int p0, .int p1]) (tQ D clS (cwC ad ta σ') (some (.int r)) tNo) 0 0 tNo := by
  refine Met.ofW (cc := b_A_placeOf) (maxL := 2) (ret := (some .int)) (by decide) rfl ?_
  intro p e s m args below meth c s₁ B hml hv
  obtain ⟨rfl, hP, hK, hN⟩ := hv
  have hx := B.exec
  have hb := B.bytes
  have hr := B.returns
  have ht : ∀ w ∈ tw, w.before [.int p0, .int p1].toArray s = true := fun w h => atoms_spec (ws := (.code y_A_placeOf b_A_placeOf 2 (some .int) :: tw)) B.pre w (List.mem_cons_of_mem _ h)
  have hown : s.vm.findClass R_A = some m.cls := findClass_of_methodNamed B.named
  have hlocks := B.notSynchronized
  have CX : tC p s m [.int p0, .int p1].toArray meth c b_A_placeOf (some .int) 2 R_A D clS (tyC ta) := ⟨hx, hb, hr, hml, hown, ht, hlocks, hK, hN⟩
  have hS : va_S tNo s.heap s.heap [] := va_S.rf
  have hl := lv_entry ([.int p0, .int p1]) (n := 2) (Nat.le_of_ble_eq_true rfl)
  rw [lg_entry_eq]
  generalize (lg_sl ([.int p0, .int p1]) ++ List.replicate (2 - (lg_sl ([.int p0, .int p1])).length) Slot.unset).toArray = ls at hl ⊢
  replace hl : lv_has ls 2 [(0, .int p0), (1, .int p1)] := hl
  unfold mf_A_placeOf at hf
  refine lv_iload_n hx hb d_A_placeOf_0 rfl (lv_at hl 0 rfl) ?_
  refine lv_bipush (v := (36 : Int32)) hx hb d_A_placeOf_1 (by decide) ?_
  refine lv_imul hx hb d_A_placeOf_3 ?_
  refine lv_iload_n hx hb d_A_placeOf_4 rfl (lv_at hl 1 rfl) ?_
  refine lv_iadd hx hb d_A_placeOf_5 ?_
  obtain ⟨rfl, rfl⟩ := tp_of hf
  exact W.iret (v := ((p0 * (36 : Int32)) + p1)) hx hb hr (fun t ht hW => ⟨rfl, by rw [ht]; exact hP, hS.F ht⟩) hS.2.2 d_A_placeOf_6
abbrev rm_A_send : Room := { frames := 1, cells := 0, slots := 0, locals := 21 }
set_option maxHeartbeats 4000000 in
set_option maxRecDepth 100000 in
theorem mw_A_send_43 {p : Program} {l : Launch} {e : Env} {s : State} {m : MethodId} {args : Array Value} {below : List Frame} {meth : Method} {c : Code} {D : va_G} {ad : Nat → Nat} {ta : Nat → ClassId} (CX : tC p s m args meth c b_A_send none 8 R_A D clS (tyC ta)) (hd : tD 37 ad) : ∀ (k : Nat) (v1 : Int32) (v2 : Int32) (v3 : Int32) (v6 : Int32) (v7 : Int32) (σ : tS) (res : tS), ml_A_send_43 k v1 v2 v3 v6 v7 σ = some res → ∀ (H : Heap) (locs : List Loc), va_P D clS (cwC ad ta σ) H → va_S (tA 37 ad) s.heap H locs → ∀ (ls : Array Slot), lv_has ls 8 [(0, .ref (ad 6)), (1, .int v1), (2, .int v2), (3, .int v3), (4, .ref (ad 5)), (5, .ref (ad 4)), (6, .int v6), (7, .int v7)] → W p l e rm_A_send s m args below meth c H locs 0 0 (MQ below (tQ D clS (cwC ad ta res) none (tA 37 ad)) args s 0 0 (tA 37 ad)) (F0 m 43 ls []) := by
  obtain ⟨hx, hb, hr, hml, hown, ht, hlocks, hK, hN⟩ := id CX
  intro k
  induction k with
  | zero =>
    intro v1 v2 v3 v6 v7 σ res hf
    exact tn_no hf
  | succ k ih =>
    intro v1 v2 v3 v6 v7 σ res hf H locs hP hS ls hl
    replace hf : ms_A_send_43 (ml_A_send_43 k) v1 v2 v3 v6 v7 σ = some res := hf
    unfold ms_A_send_43 at hf
    refine lv_iload hx hb d_A_send_43 (lv_at hl 7 rfl) ?_
    refine lv_bipush (v := (12 : Int32)) hx hb d_A_send_45 (by decide) ?_
    refine lv_icmp_ge (tgt := 105) hx hb d_A_send_47 (by decide) (fun hc => ?_) (fun hc => ?_)
    · replace hf := ti_pos hc hf
      obtain rfl := ts_of hf
      exact W.vret hx hb hr (fun t ht hW => ⟨rfl, by rw [ht]; exact hP, hS.F ht⟩) hS.2.2 d_A_send_105
    · replace hf := ti_neg hc hf
      refine lv_iload hx hb d_A_send_50 (lv_at hl 6 rfl) ?_
      refine lv_iconst (v := ((-1) : Int32)) hx hb d_A_send_52 (by decide) ?_
      refine lv_icmp_eq (tgt := 105) hx hb d_A_send_53 (by decide) (fun hc => ?_) (fun hc => ?_)
      · replace hf := ti_pos hc hf
        obtain rfl := ts_of hf
        exact W.vret hx hb hr (fun t ht hW => ⟨rfl, by rw [ht]; exact hP, hS.F ht⟩) hS.2.2 d_A_send_105
      · replace hf := ti_neg hc hf
        refine lv_aload hx hb d_A_send_56 (lv_at hl 5 rfl) ?_
        refine va_get (ci := 4) (v := .ref (ad 24)) (C := R_S) (T := F_S) (N := 10) hx hb ht iw_S hown hK hP 4 rfl rfl 9 (by decide) (ht _ wd_176) (fun _ h9 => h9) rfl d_A_send_58 ?_
        refine lv_iload hx hb d_A_send_61 (lv_at hl 6 rfl) ?_
        refine lv_dup2_11 hx hb d_A_send_63 rfl rfl ?_
        obtain ⟨hi5, hf⟩ := tg_of hf
        refine va_iald (f := σ.2.1 15) hx hb hK hP 24 15 rfl rfl hi5 d_A_send_64 ?_
        refine lv_iload_n hx hb d_A_send_65 rfl (lv_at hl 2 rfl) ?_
        refine lv_iadd hx hb d_A_send_66 ?_
        obtain ⟨hi6, hf⟩ := tg_of hf
        refine va_iast (f := σ.2.1 15) hx hb hK hP (cwC_D hd) hS 24 15 rfl rfl hi6 d_A_send_67 (fun H locs hP _ hS => ?_)
        replace hP : va_P D clS (cwC ad ta (tI σ 15 v6.toNatClampNeg ((σ.2.1 15 v6.toNatClampNeg) + v2))) H := hP
        refine lv_aload_n hx hb d_A_send_68 rfl (lv_at hl 0 rfl) ?_
        refine va_get (ci := 6) (v := .ref (ad 30)) (C := R_A) (T := F_A) (N := 5) hx hb ht iw_A hown hK hP 6 rfl rfl 4 (by decide) (ht _ wd_232) (fun _ h9 => h9) rfl d_A_send_69 ?_
        refine lv_iload hx hb d_A_send_72 (lv_at hl 6 rfl) ?_
        refine lv_iload_n hx hb d_A_send_74 rfl (lv_at hl 1 rfl) ?_
        obtain ⟨r_7, s_7, hq7, hf⟩ := tb2_of hf
        refine tr_calli (va_runS (As := [.int v6, .int v1]) (rest := [.ref (ad 30)]) ⟨hx, hb, hml, hown, ht⟩ (mc_A_placeOf l hd hq7) ⟨(tw_cb (n := 2) ht wc_A_placeOf wd_42 wd_607 ⟨rfl, rfl⟩ (by decide +kernel) ⟨(Nat.le_of_ble_eq_true rfl), (Nat.le_of_ble_eq_true rfl)⟩), ht _ wd_608⟩ ⟨tP_blind, fun U hU hW => ⟨rfl, by rw [hU]; exact hP, va_K.moved hW.alike hK, tW_warm hW hN⟩⟩ rfl rfl hl.1 rfl (lv_room (Nat.le_of_ble_eq_true rfl)) d_A_send_75 ⟨Nat.zero_le _, Nat.zero_le _⟩) hS (fun _ h => h.elim) (fun _ h => h.elim) (fun H locs hP hS => ?_)
        refine lv_dup2_11 hx hb d_A_send_78 rfl rfl ?_
        obtain ⟨hi8, hf⟩ := tg_of hf
        refine va_iald (f := s_7.2.1 20) hx hb hK hP 30 21 rfl rfl hi8 d_A_send_79 ?_
        refine lv_iload_n hx hb d_A_send_80 rfl (lv_at hl 2 rfl) ?_
        refine lv_iadd hx hb d_A_send_81 ?_
        obtain ⟨hi9, hf⟩ := tg_of hf
        refine va_iast (f := s_7.2.1 20) hx hb hK hP (cwC_D hd) hS 30 21 rfl rfl hi9 d_A_send_82 (fun H locs hP _ hS => ?_)
        replace hP : va_P D clS (cwC ad ta (tI s_7 20 r_7.toNatClampNeg ((s_7.2.1 20 r_7.toNatClampNeg) + v2))) H := hP
        refine lv_aload hx hb d_A_send_83 (lv_at hl 4 rfl) ?_
        refine va_get (ci := 5) (v := .ref (ad 27)) (C := R_W) (T := F_W) (N := 3) hx hb ht iw_W hown hK hP 5 rfl rfl 2 (by decide) (ht _ wd_210) (fun _ h9 => h9) rfl d_A_send_85 ?_
        refine lv_aload hx hb d_A_send_88 (lv_at hl 5 rfl) ?_
        refine va_get (ci := 4) (v := .ref (ad 17)) (C := R_S) (T := F_S) (N := 10) hx hb ht iw_S hown hK hP 4 rfl rfl 2 (by decide) (ht _ wd_163) (fun _ h9 => h9) rfl d_A_send_90 ?_
        refine lv_iload hx hb d_A_send_93 (lv_at hl 6 rfl) ?_
        obtain ⟨hi10, hf⟩ := tg_of hf
        refine va_iald (f := s_7.2.1 8) hx hb hK hP 17 8 rfl rfl hi10 d_A_send_95 ?_
        obtain ⟨hi11, hf⟩ := tg_of hf
        refine va_iald (f := s_7.2.1 17) hx hb hK hP 27 18 rfl rfl hi11 d_A_send_96 ?_
        refine lv_istore (lv' := [(6, .int (s_7.2.1 17 (s_7.2.1 8 v6.toNatClampNeg).toNatClampNeg)), (0, .ref (ad 6)), (1, .int v1), (2, .int v2), (3, .int v3), (4, .ref (ad 5)), (5, .ref (ad 4)), (7, .int v7)]) hx hb d_A_send_97 hl (by decide) rfl (fun ls hl => ?_)
        refine lv_iinc (v := (v7 + (1 : Int32))) (lv' := [(7, .int (v7 + (1 : Int32))), (6, .int (s_7.2.1 17 (s_7.2.1 8 v6.toNatClampNeg).toNatClampNeg)), (0, .ref (ad 6)), (1, .int v1), (2, .int v2), (3, .int v3), (4, .ref (ad 5)), (5, .ref (ad 4))]) hx hb d_A_send_99 hl (k := 7) rfl rfl (by decide) rfl (fun ls hl => ?_)
        refine lv_goto (tgt := 43) hx hb d_A_send_102 (by decide) ?_
        exact ih _ _ _ _ _ _ _ hf _ _ hP hS _ (lv_sub hl [2, 3, 4, 5, 6, 7, 1, 0] rfl)
set_option maxHeartbeats 4000000 in
set_option maxRecDepth 100000 in
theorem mc_A_send (l : Launch) {D : va_G} {ad : Nat → Nat} {ta : Nat → ClassId} (hd : tD 37 ad) {σ σ' : tS} {p0 : Int32} {p1 : Int32} {p2 : Int32} (hf : mf_A_send p0 p1 p2 σ = some σ') : Met l y_A_send (.code y_A_send b_A_send 8 none :: tw) rm_A_send (tP D clS (tyC ta) (cwC ad ta σ) [.ref (ad 6), .int p0, .int p1, .int p2, .ref (ad 5), .ref (ad 4)]) (tQ D clS (cwC ad ta σ') none (tA 37 ad)) 0 0 (tA 37 ad) := by
  refine Met.ofW (cc := b_A_send) (maxL := 8) (ret := none) (by decide) rfl ?_
  intro p e s m args below meth c s₁ B hml hv
  obtain ⟨rfl, hP, hK, hN⟩ := hv
  have hx := B.exec
  have hb := B.bytes
  have hr := B.returns
  have ht : ∀ w ∈ tw, w.before [.ref (ad 6), .int p0, .int p1, .int p2, .ref (ad 5), .ref (ad 4)].toArray s = true := fun w h => atoms_spec (ws := (.code y_A_send b_A_send 8 none :: tw)) B.pre w (List.mem_cons_of_mem _ h)
  have hown : s.vm.findClass R_A = some m.cls := findClass_of_methodNamed B.named
  have hlocks := B.notSynchronized
  have CX : tC p s m [.ref (ad 6), .int p0, .int p1, .int p2, .ref (ad 5), .ref (ad 4)].toArray meth c b_A_send none 8 R_A D clS (tyC ta) := ⟨hx, hb, hr, hml, hown, ht, hlocks, hK, hN⟩
  have hS : va_S (tA 37 ad) s.heap s.heap [] := va_S.rf
  have hl := lv_entry ([.ref (ad 6), .int p0, .int p1, .int p2, .ref (ad 5), .ref (ad 4)]) (n := 8) (Nat.le_of_ble_eq_true rfl)
  rw [lg_entry_eq]
  generalize (lg_sl ([.ref (ad 6), .int p0, .int p1, .int p2, .ref (ad 5), .ref (ad 4)]) ++ List.replicate (8 - (lg_sl ([.ref (ad 6), .int p0, .int p1, .int p2, .ref (ad 5), .ref (ad 4)])).length) Slot.unset).toArray = ls at hl ⊢
  replace hl : lv_has ls 8 [(0, .ref (ad 6)), (1, .int p0), (2, .int p1), (3, .int p2), (4, .ref (ad 5)), (5, .ref (ad 4))] := hl
  unfold mf_A_send at hf
  refine lv_aload hx hb d_A_send_0 (lv_at hl 4 rfl) ?_
  refine lv_iload_n hx hb d_A_send_2 rfl (lv_at hl 3 rfl) ?_
  obtain ⟨r_1, s_1, hq1, hf⟩ := tb2_of hf
  refine tr_calli (va_runV (C := R_W) (As := [.int p2]) (rest := []) ⟨hx, hb, hml, hown, ht⟩ (mc_W_timeFrom l hd hq1) ⟨(tw_cb (n := 1) ht wc_W_timeFrom wd_41 wd_606 ⟨rfl, rfl⟩ (by decide +kernel) ⟨(Nat.le_of_ble_eq_true rfl), (Nat.le_of_ble_eq_true rfl)⟩), ht _ wd_310, ht _ wd_311⟩ ⟨tP_blind, va_recv hK hP (ci := 5) (q0 := 5) rfl rfl, fun U hU hW => ⟨rfl, by rw [hU]; exact hP, va_K.moved hW.alike hK, tW_warm hW hN⟩⟩ rfl rfl hl.1 rfl (lv_room (Nat.le_of_ble_eq_true rfl)) d_A_send_3 ⟨Nat.zero_le _, Nat.zero_le _⟩) hS (fun _ h => h.elim) (fun _ h => h.elim) (fun H locs hP hS => ?_)
  refine lv_iconst (v := ((-1) : Int32)) hx hb d_A_send_6 (by decide) ?_
  refine lv_icmp_ne (tgt := 21) hx hb d_A_send_7 (by decide) (fun hc => ?_) (fun hc => ?_)
  · replace hf := ti_neg hc hf
    refine lv_aload_n hx hb d_A_send_21 rfl (lv_at hl 0 rfl) ?_
    refine va_get (ci := 6) (v := .ref (ad 29)) (C := R_A) (T := F_A) (N := 5) hx hb ht iw_A hown hK hP 6 rfl rfl 3 (by decide) (ht _ wd_230) (fun _ h9 => h9) rfl d_A_send_22 ?_
    refine lv_iload_n hx hb d_A_send_25 rfl (lv_at hl 1 rfl) ?_
    refine lv_dup2_11 hx hb d_A_send_26 rfl rfl ?_
    obtain ⟨hi2, hf⟩ := tg_of hf
    refine va_iald (f := s_1.2.1 19) hx hb hK hP 29 20 rfl rfl hi2 d_A_send_27 ?_
    refine lv_iload_n hx hb d_A_send_28 rfl (lv_at hl 2 rfl) ?_
    refine lv_iadd hx hb d_A_send_29 ?_
    obtain ⟨hi3, hf⟩ := tg_of hf
    refine va_iast (f := s_1.2.1 19) hx hb hK hP (cwC_D hd) hS 29 20 rfl rfl hi3 d_A_send_30 (fun H locs hP _ hS => ?_)
    replace hP : va_P D clS (cwC ad ta (tI s_1 19 p0.toNatClampNeg ((s_1.2.1 19 p0.toNatClampNeg) + p1))) H := hP
    refine lv_aload hx hb d_A_send_31 (lv_at hl 4 rfl) ?_
    refine va_get (ci := 5) (v := .ref (ad 27)) (C := R_W) (T := F_W) (N := 3) hx hb ht iw_W hown hK hP 5 rfl rfl 2 (by decide) (ht _ wd_210) (fun _ h9 => h9) rfl d_A_send_33 ?_
    refine lv_iload_n hx hb d_A_send_36 rfl (lv_at hl 3 rfl) ?_
    obtain ⟨hi4, hf⟩ := tg_of hf
    refine va_iald (f := s_1.2.1 17) hx hb hK hP 27 18 rfl rfl hi4 d_A_send_37 ?_
    refine lv_istore (lv' := [(6, .int (s_1.2.1 17 p2.toNatClampNeg)), (0, .ref (ad 6)), (1, .int p0), (2, .int p1), (3, .int p2), (4, .ref (ad 5)), (5, .ref (ad 4))]) hx hb d_A_send_38 hl (by decide) rfl (fun ls hl => ?_)
    refine lv_iconst (v := (0 : Int32)) hx hb d_A_send_40 (by decide) ?_
    refine lv_istore (lv' := [(7, .int (0 : Int32)), (6, .int (s_1.2.1 17 p2.toNatClampNeg)), (0, .ref (ad 6)), (1, .int p0), (2, .int p1), (3, .int p2), (4, .ref (ad 5)), (5, .ref (ad 4))]) hx hb d_A_send_41 hl (by decide) rfl (fun ls hl => ?_)
    exact mw_A_send_43 CX hd _ _ _ _ _ _ _ _ hf _ _ hP hS _ (lv_sub hl [2, 3, 4, 5, 6, 7, 1, 0] rfl)
  · replace hf := ti_pos hc hf
    refine lv_aload_n hx hb d_A_send_10 rfl (lv_at hl 0 rfl) ?_
    refine lv_dup hx hb d_A_send_11 rfl ?_
    refine va_get (ci := 6) (v := .int (s_1.1 4)) (C := R_A) (T := F_A) (N := 5) hx hb ht iw_A hown hK hP 6 rfl rfl 1 (by decide) (ht _ wd_226) (fun _ h9 => h9) rfl d_A_send_12 ?_
    refine lv_iload_n hx hb d_A_send_15 rfl (lv_at hl 2 rfl) ?_
    refine lv_iadd hx hb d_A_send_16 ?_
    refine va_put (ci := 6) (v := .int ((s_1.1 4) + p1)) (ty := .int) (C := R_A) (T := F_A) (N := 5) hx hb ht iw_A ft_A to_A nm_A hown hK hP (cwC_D hd) hS 6 rfl rfl 1 (by decide) (ht _ wd_226) (fun _ h9 => h9) rfl (by decide +kernel) rfl rfl (Nat.le_of_ble_eq_true rfl) d_A_send_17 (fun H locs hP _ hS => ?_)
    replace hP : va_P D clS (cwC ad ta (tF s_1 4 ((s_1.1 4) + p1))) H := hP
    obtain rfl := ts_of hf
    exact W.vret hx hb hr (fun t ht hW => ⟨rfl, by rw [ht]; exact hP, hS.F ht⟩) hS.2.2 d_A_send_20
