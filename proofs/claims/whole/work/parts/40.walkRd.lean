abbrev rm_R_byMode : Room := { frames := 1, cells := 0, slots := 0, locals := 29 }
set_option maxHeartbeats 4000000 in
set_option maxRecDepth 100000 in
theorem mw_R_byMode_2 {p : Program} {l : Launch} {e : Env} {s : State} {m : MethodId} {args : Array Value} {below : List Frame} {meth : Method} {c : Code} {D : va_G} {ad : Nat → Nat} {ta : Nat → ClassId} (CX : tC p s m args meth c b_R_byMode (some .int) 4 R_R D clS (tyR ta)) (hd : tD 26 ad) : ∀ (k : Nat) (v1 : Int32) (v2 : Int32) (v3 : Int32) (σ : tS) (res : (Int32 × tS)), ml_R_byMode_2 k v1 v2 v3 σ = some res → ∀ (H : Heap) (locs : List Loc), va_P D clS (cwR ad ta σ) H → va_S (tA 26 ad) s.heap H locs → ∀ (ls : Array Slot), lv_has ls 4 [(0, .ref (ad 0)), (1, .int v1), (2, .int v2), (3, .int v3)] → W p l e rm_R_byMode s m args below meth c H locs 0 0 (MQ below (tQ D clS (cwR ad ta res.2) (some (.int res.1)) (tA 26 ad)) args s 0 0 (tA 26 ad)) (F0 m 2 ls []) := by
  obtain ⟨hx, hb, hr, hml, hown, ht, hlocks, hK, hN⟩ := id CX
  intro k
  induction k with
  | zero =>
    intro v1 v2 v3 σ res hf
    exact tn_no hf
  | succ k ih =>
    intro v1 v2 v3 σ res hf H locs hP hS ls hl
    replace hf : ms_R_byMode_2 (ml_R_byMode_2 k) v1 v2 v3 σ = some res := hf
    unfold ms_R_byMode_2 at hf
    refine lv_iload_n hx hb d_R_byMode_2 rfl (lv_at hl 3 rfl) ?_
    refine lv_iconst (v := (3 : Int32)) hx hb d_R_byMode_3 (by decide) ?_
    refine lv_icmp_ge (tgt := 31) hx hb d_R_byMode_4 (by decide) (fun hc => ?_) (fun hc => ?_)
    · replace hf := ti_pos hc hf
      refine lv_aload_n hx hb d_R_byMode_31 rfl (lv_at hl 0 rfl) ?_
      refine lv_aload_n hx hb d_R_byMode_32 rfl (lv_at hl 0 rfl) ?_
      refine va_get (ci := 8) (v := .ref (ad 14)) (C := R_R) (T := F_R) (N := 32) hx hb ht iw_R hown hK hP 0 rfl rfl 17 (by decide) (ht _ wd_694) (fun _ h9 => h9) rfl d_R_byMode_33 ?_
      refine lv_iload_n hx hb d_R_byMode_36 rfl (lv_at hl 2 rfl) ?_
      obtain ⟨hi1, hf⟩ := tg_of hf
      refine va_iald (f := σ.2.1 12) hx hb hK hP 14 13 rfl rfl hi1 d_R_byMode_37 ?_
      refine lv_i2l hx hb d_R_byMode_38 rfl ?_
      refine lv_iconst (v := (3 : Int32)) hx hb d_R_byMode_39 (by decide) ?_
      obtain ⟨s_2, hq2, hf⟩ := tb1_of hf
      refine tr_callv (va_runV (C := R_R) (As := [.long (((σ.2.1 12 v2.toNatClampNeg)).toInt64), .int (3 : Int32)]) (rest := []) ⟨hx, hb, hml, hown, ht⟩ (mc_R_share l hd hq2) ⟨(tw_cb (n := 2) ht wc_R_share wd_43 wd_835 ⟨rfl, rfl⟩ (by decide +kernel) ⟨(Nat.le_of_ble_eq_true rfl), (Nat.le_of_ble_eq_true rfl)⟩), ht _ wd_837, ht _ wd_21⟩ ⟨tP_blind, va_recv hK hP (ci := 8) (q0 := 0) rfl rfl, fun U hU hW => ⟨rfl, by rw [hU]; exact hP, va_K.moved hW.alike hK, tW_warm hW hN⟩⟩ rfl rfl hl.1 rfl (lv_room (Nat.le_of_ble_eq_true rfl)) d_R_byMode_40 ⟨Nat.zero_le _, Nat.zero_le _⟩) hS (fun _ h => h) (fun _ h => h) (fun H locs hP hS => ?_)
      refine lv_aload_n hx hb d_R_byMode_43 rfl (lv_at hl 0 rfl) ?_
      refine va_get (ci := 8) (v := .ref (ad 21)) (C := R_R) (T := F_R) (N := 32) hx hb ht iw_R hown hK hP 0 rfl rfl 26 (by decide) (ht _ wd_703) (fun _ h9 => h9) rfl d_R_byMode_44 ?_
      refine lv_iload_n hx hb d_R_byMode_47 rfl (lv_at hl 1 rfl) ?_
      obtain ⟨hi3, hf⟩ := tg_of hf
      refine va_iald (f := s_2.2.1 17) hx hb hK hP 21 20 rfl rfl hi3 d_R_byMode_48 ?_
      obtain rfl := ts_of hf
      exact W.iret (v := (s_2.2.1 17 v1.toNatClampNeg)) hx hb hr (fun t ht hW => ⟨rfl, by rw [ht]; exact hP, hS.F ht⟩) hS.2.2 d_R_byMode_49
    · replace hf := ti_neg hc hf
      refine lv_aload_n hx hb d_R_byMode_7 rfl (lv_at hl 0 rfl) ?_
      refine va_get (ci := 8) (v := .ref (ad 19)) (C := R_R) (T := F_R) (N := 32) hx hb ht iw_R hown hK hP 0 rfl rfl 24 (by decide) (ht _ wd_701) (fun _ h9 => h9) rfl d_R_byMode_8 ?_
      refine lv_iload_n hx hb d_R_byMode_11 rfl (lv_at hl 3 rfl) ?_
      refine lv_aload_n hx hb d_R_byMode_12 rfl (lv_at hl 0 rfl) ?_
      refine va_get (ci := 8) (v := .ref (ad 15)) (C := R_R) (T := F_R) (N := 32) hx hb ht iw_R hown hK hP 0 rfl rfl 18 (by decide) (ht _ wd_695) (fun _ h9 => h9) rfl d_R_byMode_13 ?_
      refine lv_bipush (v := (36 : Int32)) hx hb d_R_byMode_16 (by decide) ?_
      refine lv_iload_n hx hb d_R_byMode_18 rfl (lv_at hl 3 rfl) ?_
      refine lv_imul hx hb d_R_byMode_19 ?_
      refine lv_iload_n hx hb d_R_byMode_20 rfl (lv_at hl 2 rfl) ?_
      refine lv_iadd hx hb d_R_byMode_21 ?_
      obtain ⟨hi4, hf⟩ := tg_of hf
      refine va_iald (f := σ.2.1 13) hx hb hK hP 15 14 rfl rfl hi4 d_R_byMode_22 ?_
      refine lv_i2l hx hb d_R_byMode_23 rfl ?_
      obtain ⟨hi5, hf⟩ := tg_of hf
      refine va_last (f := σ.2.2 1) hx hb hK hP (cwR_D hd) hS 19 18 rfl rfl hi5 d_R_byMode_24 (fun H locs hP _ hS => ?_)
      replace hP : va_P D clS (cwR ad ta (tJ σ 1 v3.toNatClampNeg (((σ.2.1 13 (((36 : Int32) * v3) + v2).toNatClampNeg)).toInt64))) H := hP
      refine lv_iinc (v := (v3 + (1 : Int32))) (lv' := [(3, .int (v3 + (1 : Int32))), (0, .ref (ad 0)), (1, .int v1), (2, .int v2)]) hx hb d_R_byMode_25 hl (k := 3) rfl rfl (by decide) rfl (fun ls hl => ?_)
      refine lv_goto (tgt := 2) hx hb d_R_byMode_28 (by decide) ?_
      exact ih _ _ _ _ _ hf _ _ hP hS _ (lv_sub hl [1, 2, 3, 0] rfl)
set_option maxHeartbeats 4000000 in
set_option maxRecDepth 100000 in
theorem mc_R_byMode (l : Launch) {D : va_G} {ad : Nat → Nat} {ta : Nat → ClassId} (hd : tD 26 ad) {σ σ' : tS} {p0 : Int32} {p1 : Int32} {r : Int32} (hf : mf_R_byMode p0 p1 σ = some (r, σ')) : Met l y_R_byMode (.code y_R_byMode b_R_byMode 4 (some .int) :: tw) rm_R_byMode (tP D clS (tyR ta) (cwR ad ta σ) [.ref (ad 0), .int p0, .int p1]) (tQ D clS (cwR ad ta σ') (some (.int r)) (tA 26 ad)) 0 0 (tA 26 ad) := by
  refine Met.ofW (cc := b_R_byMode) (maxL := 4) (ret := (some .int)) (by decide) rfl ?_
  intro p e s m args below meth c s₁ B hml hv
  obtain ⟨rfl, hP, hK, hN⟩ := hv
  have hx := B.exec
  have hb := B.bytes
  have hr := B.returns
  have ht : ∀ w ∈ tw, w.before [.ref (ad 0), .int p0, .int p1].toArray s = true := fun w h => atoms_spec (ws := (.code y_R_byMode b_R_byMode 4 (some .int) :: tw)) B.pre w (List.mem_cons_of_mem _ h)
  have hown : s.vm.findClass R_R = some m.cls := findClass_of_methodNamed B.named
  have hlocks := B.notSynchronized
  have CX : tC p s m [.ref (ad 0), .int p0, .int p1].toArray meth c b_R_byMode (some .int) 4 R_R D clS (tyR ta) := ⟨hx, hb, hr, hml, hown, ht, hlocks, hK, hN⟩
  have hS : va_S (tA 26 ad) s.heap s.heap [] := va_S.rf
  have hl := lv_entry ([.ref (ad 0), .int p0, .int p1]) (n := 4) (Nat.le_of_ble_eq_true rfl)
  rw [lg_entry_eq]
  generalize (lg_sl ([.ref (ad 0), .int p0, .int p1]) ++ List.replicate (4 - (lg_sl ([.ref (ad 0), .int p0, .int p1])).length) Slot.unset).toArray = ls at hl ⊢
  replace hl : lv_has ls 4 [(0, .ref (ad 0)), (1, .int p0), (2, .int p1)] := hl
  unfold mf_R_byMode at hf
  refine lv_iconst (v := (0 : Int32)) hx hb d_R_byMode_0 (by decide) ?_
  refine lv_istore_n (lv' := [(3, .int (0 : Int32)), (0, .ref (ad 0)), (1, .int p0), (2, .int p1)]) hx hb d_R_byMode_1 rfl hl (by decide) rfl (fun ls hl => ?_)
  exact mw_R_byMode_2 CX hd _ _ _ _ _ _ hf _ _ hP hS _ (lv_sub hl [1, 2, 3, 0] rfl)
abbrev rm_R_chosen : Room := { frames := 3, cells := 0, slots := 0, locals := 65 }
set_option maxHeartbeats 4000000 in
set_option maxRecDepth 100000 in
theorem mc_R_chosen (l : Launch) {D : va_G} {ad : Nat → Nat} {ta : Nat → ClassId} (hd : tD 26 ad) {σ σ' : tS} {p0 : Int32} {p1 : Int32} {p2 : Int32} {r : Int32} (hf : mf_R_chosen p0 p1 p2 σ = some (r, σ')) : Met l y_R_chosen (.code y_R_chosen b_R_chosen 4 (some .int) :: tw) rm_R_chosen (tP D clS (tyR ta) (cwR ad ta σ) [.ref (ad 0), .int p0, .int p1, .int p2]) (tQ D clS (cwR ad ta σ') (some (.int r)) (tA 26 ad)) 0 0 (tA 26 ad) := by
  refine Met.ofW (cc := b_R_chosen) (maxL := 4) (ret := (some .int)) (by decide) rfl ?_
  intro p e s m args below meth c s₁ B hml hv
  obtain ⟨rfl, hP, hK, hN⟩ := hv
  have hx := B.exec
  have hb := B.bytes
  have hr := B.returns
  have ht : ∀ w ∈ tw, w.before [.ref (ad 0), .int p0, .int p1, .int p2].toArray s = true := fun w h => atoms_spec (ws := (.code y_R_chosen b_R_chosen 4 (some .int) :: tw)) B.pre w (List.mem_cons_of_mem _ h)
  have hown : s.vm.findClass R_R = some m.cls := findClass_of_methodNamed B.named
  have hlocks := B.notSynchronized
  have CX : tC p s m [.ref (ad 0), .int p0, .int p1, .int p2].toArray meth c b_R_chosen (some .int) 4 R_R D clS (tyR ta) := ⟨hx, hb, hr, hml, hown, ht, hlocks, hK, hN⟩
  have hS : va_S (tA 26 ad) s.heap s.heap [] := va_S.rf
  have hl := lv_entry ([.ref (ad 0), .int p0, .int p1, .int p2]) (n := 4) (Nat.le_of_ble_eq_true rfl)
  rw [lg_entry_eq]
  generalize (lg_sl ([.ref (ad 0), .int p0, .int p1, .int p2]) ++ List.replicate (4 - (lg_sl ([.ref (ad 0), .int p0, .int p1, .int p2])).length) Slot.unset).toArray = ls at hl ⊢
  replace hl : lv_has ls 4 [(0, .ref (ad 0)), (1, .int p0), (2, .int p1), (3, .int p2)] := hl
  unfold mf_R_chosen at hf
  refine lv_aload_n hx hb d_R_chosen_0 rfl (lv_at hl 0 rfl) ?_
  refine lv_iload_n hx hb d_R_chosen_1 rfl (lv_at hl 1 rfl) ?_
  refine lv_iconst (v := (0 : Int32)) hx hb d_R_chosen_2 (by decide) ?_
  refine lv_iconst (v := (2 : Int32)) hx hb d_R_chosen_3 (by decide) ?_
  obtain ⟨r_1, s_1, hq1, hf⟩ := tb2_of hf
  refine tr_calli (va_runS (As := [.int p0, .int (0 : Int32), .int (2 : Int32)]) (rest := [.ref (ad 0)]) ⟨hx, hb, hml, hown, ht⟩ (mc_R_isIn l hd hq1) ⟨(tw_cb (n := 3) ht wc_R_isIn wd_43 wd_790 ⟨rfl, rfl⟩ (by decide +kernel) ⟨(Nat.le_of_ble_eq_true rfl), (Nat.le_of_ble_eq_true rfl)⟩), ht _ wd_791⟩ ⟨tP_blind, fun U hU hW => ⟨rfl, by rw [hU]; exact hP, va_K.moved hW.alike hK, tW_warm hW hN⟩⟩ rfl rfl hl.1 rfl (lv_room (Nat.le_of_ble_eq_true rfl)) d_R_chosen_4 ⟨Nat.zero_le _, Nat.zero_le _⟩) hS (fun _ h => h.elim) (fun _ h => h.elim) (fun H locs hP hS => ?_)
  refine lv_if_eq (tgt := 23) hx hb d_R_chosen_7 (by decide) (fun hc => ?_) (fun hc => ?_)
  · replace hf := ti_pos hc hf
    refine lv_iconst (v := (1 : Int32)) hx hb d_R_chosen_23 (by decide) ?_
    refine va_put (ci := 8) (v := .int (1 : Int32)) (ty := .int) (C := R_R) (T := F_R) (N := 32) hx hb ht iw_R ft_R to_R nm_R hown hK hP (cwR_D hd) hS 0 rfl rfl 0 (by decide) (ht _ wd_677) (fun _ h9 => h9) rfl (by decide +kernel) rfl rfl (Nat.le_of_ble_eq_true rfl) d_R_chosen_24 (fun H locs hP _ hS => ?_)
    replace hP : va_P D clS (cwR ad ta (tF s_1 0 (1 : Int32))) H := hP
    refine lv_aload_n hx hb d_R_chosen_27 rfl (lv_at hl 0 rfl) ?_
    refine va_get (ci := 8) (v := .int (1 : Int32)) (C := R_R) (T := F_R) (N := 32) hx hb ht iw_R hown hK hP 0 rfl rfl 0 (by decide) (ht _ wd_677) (fun _ h9 => h9) rfl d_R_chosen_28 ?_
    refine lv_if_le (tgt := 38) hx hb d_R_chosen_31 (by decide) (fun hc => ?_) (fun hc => ?_)
    · replace hf := ti_pos hc hf
      refine lv_aload_n hx hb d_R_chosen_38 rfl (lv_at hl 0 rfl) ?_
      refine lv_iload_n hx hb d_R_chosen_39 rfl (lv_at hl 1 rfl) ?_
      refine lv_bipush (v := (6 : Int32)) hx hb d_R_chosen_40 (by decide) ?_
      refine lv_iload_n hx hb d_R_chosen_42 rfl (lv_at hl 2 rfl) ?_
      refine lv_imul hx hb d_R_chosen_43 ?_
      refine lv_iload_n hx hb d_R_chosen_44 rfl (lv_at hl 3 rfl) ?_
      refine lv_iadd hx hb d_R_chosen_45 ?_
      obtain ⟨r_2, s_2, hq2, hf⟩ := tb2_of hf
      refine tr_calli (va_runV (C := R_R) (As := [.int p0, .int (((6 : Int32) * p1) + p2)]) (rest := []) ⟨hx, hb, hml, hown, ht⟩ (mc_R_byMode l hd hq2) ⟨(tw_cb (n := 2) ht wc_R_byMode wd_43 wd_869 ⟨rfl, rfl⟩ (by decide +kernel) ⟨(Nat.le_of_ble_eq_true rfl), (Nat.le_of_ble_eq_true rfl)⟩), ht _ wd_871, ht _ wd_24⟩ ⟨tP_blind, va_recv hK hP (ci := 8) (q0 := 0) rfl rfl, fun U hU hW => ⟨rfl, by rw [hU]; exact hP, va_K.moved hW.alike hK, tW_warm hW hN⟩⟩ rfl rfl hl.1 rfl (lv_room (Nat.le_of_ble_eq_true rfl)) d_R_chosen_46 ⟨Nat.zero_le _, Nat.zero_le _⟩) hS (fun _ h => h) (fun _ h => h) (fun H locs hP hS => ?_)
      obtain ⟨rfl, rfl⟩ := tp_of hf
      exact W.iret (v := r_2) hx hb hr (fun t ht hW => ⟨rfl, by rw [ht]; exact hP, hS.F ht⟩) hS.2.2 d_R_chosen_49
    · replace hf := ti_neg hc hf
      refine lv_iconst (v := (0 : Int32)) hx hb d_R_chosen_34 (by decide) ?_
      refine lv_goto (tgt := 49) hx hb d_R_chosen_35 (by decide) ?_
      obtain ⟨rfl, rfl⟩ := tp_of hf
      exact W.iret (v := (0 : Int32)) hx hb hr (fun t ht hW => ⟨rfl, by rw [ht]; exact hP, hS.F ht⟩) hS.2.2 d_R_chosen_49
  · replace hf := ti_neg hc hf
    refine lv_aload_n hx hb d_R_chosen_10 rfl (lv_at hl 0 rfl) ?_
    refine lv_iload_n hx hb d_R_chosen_11 rfl (lv_at hl 2 rfl) ?_
    refine lv_iload_n hx hb d_R_chosen_12 rfl (lv_at hl 3 rfl) ?_
    obtain ⟨r_3, s_3, hq3, hf⟩ := tb2_of hf
    refine tr_calli (va_runV (C := R_R) (As := [.int p1, .int p2]) (rest := [.ref (ad 0)]) ⟨hx, hb, hml, hown, ht⟩ (mc_R_isPair l hd hq3) ⟨(tw_cb (n := 2) ht wc_R_isPair wd_43 wd_815 ⟨rfl, rfl⟩ (by decide +kernel) ⟨(Nat.le_of_ble_eq_true rfl), (Nat.le_of_ble_eq_true rfl)⟩), ht _ wd_817, ht _ wd_18⟩ ⟨tP_blind, va_recv hK hP (ci := 8) (q0 := 0) rfl rfl, fun U hU hW => ⟨rfl, by rw [hU]; exact hP, va_K.moved hW.alike hK, tW_warm hW hN⟩⟩ rfl rfl hl.1 rfl (lv_room (Nat.le_of_ble_eq_true rfl)) d_R_chosen_13 ⟨Nat.zero_le _, Nat.zero_le _⟩) hS (fun _ h => h.elim) (fun _ h => h.elim) (fun H locs hP hS => ?_)
    refine lv_if_eq (tgt := 23) hx hb d_R_chosen_16 (by decide) (fun hc => ?_) (fun hc => ?_)
    · replace hf := ti_pos hc hf
      refine lv_iconst (v := (1 : Int32)) hx hb d_R_chosen_23 (by decide) ?_
      refine va_put (ci := 8) (v := .int (1 : Int32)) (ty := .int) (C := R_R) (T := F_R) (N := 32) hx hb ht iw_R ft_R to_R nm_R hown hK hP (cwR_D hd) hS 0 rfl rfl 0 (by decide) (ht _ wd_677) (fun _ h9 => h9) rfl (by decide +kernel) rfl rfl (Nat.le_of_ble_eq_true rfl) d_R_chosen_24 (fun H locs hP _ hS => ?_)
      replace hP : va_P D clS (cwR ad ta (tF s_3 0 (1 : Int32))) H := hP
      refine lv_aload_n hx hb d_R_chosen_27 rfl (lv_at hl 0 rfl) ?_
      refine va_get (ci := 8) (v := .int (1 : Int32)) (C := R_R) (T := F_R) (N := 32) hx hb ht iw_R hown hK hP 0 rfl rfl 0 (by decide) (ht _ wd_677) (fun _ h9 => h9) rfl d_R_chosen_28 ?_
      refine lv_if_le (tgt := 38) hx hb d_R_chosen_31 (by decide) (fun hc => ?_) (fun hc => ?_)
      · replace hf := ti_pos hc hf
        refine lv_aload_n hx hb d_R_chosen_38 rfl (lv_at hl 0 rfl) ?_
        refine lv_iload_n hx hb d_R_chosen_39 rfl (lv_at hl 1 rfl) ?_
        refine lv_bipush (v := (6 : Int32)) hx hb d_R_chosen_40 (by decide) ?_
        refine lv_iload_n hx hb d_R_chosen_42 rfl (lv_at hl 2 rfl) ?_
        refine lv_imul hx hb d_R_chosen_43 ?_
        refine lv_iload_n hx hb d_R_chosen_44 rfl (lv_at hl 3 rfl) ?_
        refine lv_iadd hx hb d_R_chosen_45 ?_
        obtain ⟨r_4, s_4, hq4, hf⟩ := tb2_of hf
        refine tr_calli (va_runV (C := R_R) (As := [.int p0, .int (((6 : Int32) * p1) + p2)]) (rest := []) ⟨hx, hb, hml, hown, ht⟩ (mc_R_byMode l hd hq4) ⟨(tw_cb (n := 2) ht wc_R_byMode wd_43 wd_869 ⟨rfl, rfl⟩ (by decide +kernel) ⟨(Nat.le_of_ble_eq_true rfl), (Nat.le_of_ble_eq_true rfl)⟩), ht _ wd_871, ht _ wd_24⟩ ⟨tP_blind, va_recv hK hP (ci := 8) (q0 := 0) rfl rfl, fun U hU hW => ⟨rfl, by rw [hU]; exact hP, va_K.moved hW.alike hK, tW_warm hW hN⟩⟩ rfl rfl hl.1 rfl (lv_room (Nat.le_of_ble_eq_true rfl)) d_R_chosen_46 ⟨Nat.zero_le _, Nat.zero_le _⟩) hS (fun _ h => h) (fun _ h => h) (fun H locs hP hS => ?_)
        obtain ⟨rfl, rfl⟩ := tp_of hf
        exact W.iret (v := r_4) hx hb hr (fun t ht hW => ⟨rfl, by rw [ht]; exact hP, hS.F ht⟩) hS.2.2 d_R_chosen_49
      · replace hf := ti_neg hc hf
        refine lv_iconst (v := (0 : Int32)) hx hb d_R_chosen_34 (by decide) ?_
        refine lv_goto (tgt := 49) hx hb d_R_chosen_35 (by decide) ?_
        obtain ⟨rfl, rfl⟩ := tp_of hf
        exact W.iret (v := (0 : Int32)) hx hb hr (fun t ht hW => ⟨rfl, by rw [ht]; exact hP, hS.F ht⟩) hS.2.2 d_R_chosen_49
    · replace hf := ti_neg hc hf
      refine lv_iconst (v := (0 : Int32)) hx hb d_R_chosen_19 (by decide) ?_
      refine lv_goto (tgt := 24) hx hb d_R_chosen_20 (by decide) ?_
      refine va_put (ci := 8) (v := .int (0 : Int32)) (ty := .int) (C := R_R) (T := F_R) (N := 32) hx hb ht iw_R ft_R to_R nm_R hown hK hP (cwR_D hd) hS 0 rfl rfl 0 (by decide) (ht _ wd_677) (fun _ h9 => h9) rfl (by decide +kernel) rfl rfl (Nat.le_of_ble_eq_true rfl) d_R_chosen_24 (fun H locs hP _ hS => ?_)
      replace hP : va_P D clS (cwR ad ta (tF s_3 0 (0 : Int32))) H := hP
      refine lv_aload_n hx hb d_R_chosen_27 rfl (lv_at hl 0 rfl) ?_
      refine va_get (ci := 8) (v := .int (0 : Int32)) (C := R_R) (T := F_R) (N := 32) hx hb ht iw_R hown hK hP 0 rfl rfl 0 (by decide) (ht _ wd_677) (fun _ h9 => h9) rfl d_R_chosen_28 ?_
      refine lv_if_le (tgt := 38) hx hb d_R_chosen_31 (by decide) (fun hc => ?_) (fun hc => ?_)
      · replace hf := ti_pos hc hf
        refine lv_aload_n hx hb d_R_chosen_38 rfl (lv_at hl 0 rfl) ?_
        refine lv_iload_n hx hb d_R_chosen_39 rfl (lv_at hl 1 rfl) ?_
        refine lv_bipush (v := (6 : Int32)) hx hb d_R_chosen_40 (by decide) ?_
        refine lv_iload_n hx hb d_R_chosen_42 rfl (lv_at hl 2 rfl) ?_
        refine lv_imul hx hb d_R_chosen_43 ?_
        refine lv_iload_n hx hb d_R_chosen_44 rfl (lv_at hl 3 rfl) ?_
        refine lv_iadd hx hb d_R_chosen_45 ?_
        obtain ⟨r_5, s_5, hq5, hf⟩ := tb2_of hf
        refine tr_calli (va_runV (C := R_R) (As := [.int p0, .int (((6 : Int32) * p1) + p2)]) (rest := []) ⟨hx, hb, hml, hown, ht⟩ (mc_R_byMode l hd hq5) ⟨(tw_cb (n := 2) ht wc_R_byMode wd_43 wd_869 ⟨rfl, rfl⟩ (by decide +kernel) ⟨(Nat.le_of_ble_eq_true rfl), (Nat.le_of_ble_eq_true rfl)⟩), ht _ wd_871, ht _ wd_24⟩ ⟨tP_blind, va_recv hK hP (ci := 8) (q0 := 0) rfl rfl, fun U hU hW => ⟨rfl, by rw [hU]; exact hP, va_K.moved hW.alike hK, tW_warm hW hN⟩⟩ rfl rfl hl.1 rfl (lv_room (Nat.le_of_ble_eq_true rfl)) d_R_chosen_46 ⟨Nat.zero_le _, Nat.zero_le _⟩) hS (fun _ h => h) (fun _ h => h) (fun H locs hP hS => ?_)
        obtain ⟨rfl, rfl⟩ := tp_of hf
        exact W.iret (v := r_5) hx hb hr (fun t ht hW => ⟨rfl, by rw [ht]; exact hP, hS.F ht⟩) hS.2.2 d_R_chosen_49
      · replace hf := ti_neg hc hf
        refine lv_iconst (v := (0 : Int32)) hx hb d_R_chosen_34 (by decide) ?_
        refine lv_goto (tgt := 49) hx hb d_R_chosen_35 (by decide) ?_
        obtain ⟨rfl, rfl⟩ := tp_of hf
        exact W.iret (v := (0 : Int32)) hx hb hr (fun t ht hW => ⟨rfl, by rw [ht]; exact hP, hS.F ht⟩) hS.2.2 d_R_chosen_49
abbrev rm_R_timeOf : Room := { frames := 0, cells := 0, slots := 0, locals := 0 }
set_option maxHeartbeats 4000000 in
set_option maxRecDepth 100000 in
theorem mc_R_timeOf (l : Launch) {D : va_G} {ad : Nat → Nat} {ta : Nat → ClassId} (hd : tD 26 ad) {σ σ' : tS} {p0 : Int32} {r : Int64} (hf : mf_R_timeOf p0 σ = some (r, σ')) : Met l y_R_timeOf (.code y_R_timeOf b_R_timeOf 4 (some .long) :: tw) rm_R_timeOf (tP D clS (tyR ta) (cwR ad ta σ) [.ref (ad 0), .int p0]) (tQ D clS (cwR ad ta σ') (some (.long r)) tNo) 0 0 tNo := by
  refine Met.ofW (cc := b_R_timeOf) (maxL := 4) (ret := (some .long)) (by decide) rfl ?_
  intro p e s m args below meth c s₁ B hml hv
  obtain ⟨rfl, hP, hK, hN⟩ := hv
  have hx := B.exec
  have hb := B.bytes
  have hr := B.returns
  have ht : ∀ w ∈ tw, w.before [.ref (ad 0), .int p0].toArray s = true := fun w h => atoms_spec (ws := (.code y_R_timeOf b_R_timeOf 4 (some .long) :: tw)) B.pre w (List.mem_cons_of_mem _ h)
  have hown : s.vm.findClass R_R = some m.cls := findClass_of_methodNamed B.named
  have hlocks := B.notSynchronized
  have CX : tC p s m [.ref (ad 0), .int p0].toArray meth c b_R_timeOf (some .long) 4 R_R D clS (tyR ta) := ⟨hx, hb, hr, hml, hown, ht, hlocks, hK, hN⟩
  have hS : va_S tNo s.heap s.heap [] := va_S.rf
  have hl := lv_entry ([.ref (ad 0), .int p0]) (n := 4) (Nat.le_of_ble_eq_true rfl)
  rw [lg_entry_eq]
  generalize (lg_sl ([.ref (ad 0), .int p0]) ++ List.replicate (4 - (lg_sl ([.ref (ad 0), .int p0])).length) Slot.unset).toArray = ls at hl ⊢
  replace hl : lv_has ls 4 [(0, .ref (ad 0)), (1, .int p0)] := hl
  unfold mf_R_timeOf at hf
  refine lv_aload_n hx hb d_R_timeOf_0 rfl (lv_at hl 0 rfl) ?_
  refine va_get (ci := 8) (v := .ref (ad 6)) (C := R_R) (T := F_R) (N := 32) hx hb ht iw_R hown hK hP 0 rfl rfl 9 (by decide) (ht _ wd_686) (fun _ h9 => h9) rfl d_R_timeOf_1 ?_
  refine lv_iload_n hx hb d_R_timeOf_4 rfl (lv_at hl 1 rfl) ?_
  obtain ⟨hi1, hf⟩ := tg_of hf
  refine va_iald (f := σ.2.1 5) hx hb hK hP 6 5 rfl rfl hi1 d_R_timeOf_5 ?_
  refine lv_i2l hx hb d_R_timeOf_6 rfl ?_
  refine lv_aload_n hx hb d_R_timeOf_7 rfl (lv_at hl 0 rfl) ?_
  refine va_get (ci := 8) (v := .ref (ad 7)) (C := R_R) (T := F_R) (N := 32) hx hb ht iw_R hown hK hP 0 rfl rfl 10 (by decide) (ht _ wd_687) (fun _ h9 => h9) rfl d_R_timeOf_8 ?_
  refine lv_iload_n hx hb d_R_timeOf_11 rfl (lv_at hl 1 rfl) ?_
  obtain ⟨hi2, hf⟩ := tg_of hf
  refine va_iald (f := σ.2.1 6) hx hb hK hP 7 6 rfl rfl hi2 d_R_timeOf_12 ?_
  refine lv_i2l hx hb d_R_timeOf_13 rfl ?_
  refine lv_aload_n hx hb d_R_timeOf_14 rfl (lv_at hl 0 rfl) ?_
  refine va_get (ci := 8) (v := .ref (ad 12)) (C := R_R) (T := F_R) (N := 32) hx hb ht iw_R hown hK hP 0 rfl rfl 15 (by decide) (ht _ wd_692) (fun _ h9 => h9) rfl d_R_timeOf_15 ?_
  refine lv_iload_n hx hb d_R_timeOf_18 rfl (lv_at hl 1 rfl) ?_
  obtain ⟨hi3, hf⟩ := tg_of hf
  refine va_lald (f := σ.2.2 0) hx hb hK hP 12 11 rfl rfl hi3 d_R_timeOf_19 ?_
  refine lv_lmul hx hb d_R_timeOf_20 ?_
  refine lv_aload_n hx hb d_R_timeOf_21 rfl (lv_at hl 0 rfl) ?_
  refine va_get (ci := 8) (v := .ref (ad 8)) (C := R_R) (T := F_R) (N := 32) hx hb ht iw_R hown hK hP 0 rfl rfl 11 (by decide) (ht _ wd_688) (fun _ h9 => h9) rfl d_R_timeOf_22 ?_
  refine lv_iload_n hx hb d_R_timeOf_25 rfl (lv_at hl 1 rfl) ?_
  obtain ⟨hi4, hf⟩ := tg_of hf
  refine va_iald (f := σ.2.1 7) hx hb hK hP 8 7 rfl rfl hi4 d_R_timeOf_26 ?_
  refine lv_i2l hx hb d_R_timeOf_27 rfl ?_
  obtain ⟨hz5, hf⟩ := tz_of hf
  refine lv_ldiv hx hb d_R_timeOf_28 hz5 ?_
  refine lv_ladd hx hb d_R_timeOf_29 ?_
  refine lv_aload_n hx hb d_R_timeOf_30 rfl (lv_at hl 0 rfl) ?_
  refine va_get (ci := 8) (v := .ref (ad 9)) (C := R_R) (T := F_R) (N := 32) hx hb ht iw_R hown hK hP 0 rfl rfl 12 (by decide) (ht _ wd_689) (fun _ h9 => h9) rfl d_R_timeOf_31 ?_
  refine lv_iload_n hx hb d_R_timeOf_34 rfl (lv_at hl 1 rfl) ?_
  obtain ⟨hi6, hf⟩ := tg_of hf
  refine va_iald (f := σ.2.1 8) hx hb hK hP 9 8 rfl rfl hi6 d_R_timeOf_35 ?_
  refine lv_i2l hx hb d_R_timeOf_36 rfl ?_
  refine lv_ladd hx hb d_R_timeOf_37 ?_
  refine lv_lstore_n (lv' := [(2, .long ((((σ.2.1 5 p0.toNatClampNeg)).toInt64 + ((((σ.2.1 6 p0.toNatClampNeg)).toInt64 * (σ.2.2 0 p0.toNatClampNeg)) / ((σ.2.1 7 p0.toNatClampNeg)).toInt64)) + ((σ.2.1 8 p0.toNatClampNeg)).toInt64)), (0, .ref (ad 0)), (1, .int p0)]) hx hb d_R_timeOf_38 rfl hl (by decide) rfl (fun ls hl => ?_)
  refine lv_lload_n hx hb d_R_timeOf_39 rfl (lv_at hl 0 rfl) ?_
  refine lv_ldc2 (v := (1000000 : Int64)) hx hb hown (ht _ wd_848) d_R_timeOf_40 ?_
  refine W.lcmp hx hb d_R_timeOf_43 ?_
  refine lv_if_le (tgt := 53) hx hb d_R_timeOf_44 (by decide) (fun hc => ?_) (fun hc => ?_)
  · replace hf := ti_pos hc hf
    refine lv_lload_n hx hb d_R_timeOf_53 rfl (lv_at hl 0 rfl) ?_
    obtain ⟨rfl, rfl⟩ := tp_of hf
    exact W.lret (v := ((((σ.2.1 5 p0.toNatClampNeg)).toInt64 + ((((σ.2.1 6 p0.toNatClampNeg)).toInt64 * (σ.2.2 0 p0.toNatClampNeg)) / ((σ.2.1 7 p0.toNatClampNeg)).toInt64)) + ((σ.2.1 8 p0.toNatClampNeg)).toInt64)) hx hb hr (fun t ht hW => ⟨rfl, by rw [ht]; exact hP, hS.F ht⟩) hS.2.2 d_R_timeOf_54
  · replace hf := ti_neg hc hf
    refine lv_ldc2 (v := (1000000 : Int64)) hx hb hown (ht _ wd_848) d_R_timeOf_47 ?_
    refine lv_goto (tgt := 54) hx hb d_R_timeOf_50 (by decide) ?_
    obtain ⟨rfl, rfl⟩ := tp_of hf
    exact W.lret (v := (1000000 : Int64)) hx hb hr (fun t ht hW => ⟨rfl, by rw [ht]; exact hP, hS.F ht⟩) hS.2.2 d_R_timeOf_54
abbrev rm_R_takeTimes : Room := { frames := 1, cells := 0, slots := 0, locals := 23 }
set_option maxHeartbeats 4000000 in
set_option maxRecDepth 100000 in
theorem mw_R_takeTimes_2 {p : Program} {l : Launch} {e : Env} {s : State} {m : MethodId} {args : Array Value} {below : List Frame} {meth : Method} {c : Code} {D : va_G} {ad : Nat → Nat} {ta : Nat → ClassId} (CX : tC p s m args meth c b_R_takeTimes none 2 R_R D clS (tyR ta)) (hd : tD 26 ad) : ∀ (k : Nat) (v1 : Int32) (σ : tS) (res : tS), ml_R_takeTimes_2 k v1 σ = some res → ∀ (H : Heap) (locs : List Loc), va_P D clS (cwR ad ta σ) H → va_S (tA 26 ad) s.heap H locs → ∀ (ls : Array Slot), lv_has ls 2 [(0, .ref (ad 0)), (1, .int v1)] → W p l e rm_R_takeTimes s m args below meth c H locs 0 0 (MQ below (tQ D clS (cwR ad ta res) none (tA 26 ad)) args s 0 0 (tA 26 ad)) (F0 m 2 ls []) := by
  obtain ⟨hx, hb, hr, hml, hown, ht, hlocks, hK, hN⟩ := id CX
  intro k
  induction k with
  | zero =>
    intro v1 σ res hf
    exact tn_no hf
  | succ k ih =>
    intro v1 σ res hf H locs hP hS ls hl
    replace hf : ms_R_takeTimes_2 (ml_R_takeTimes_2 k) v1 σ = some res := hf
    unfold ms_R_takeTimes_2 at hf
    refine lv_iload_n hx hb d_R_takeTimes_2 rfl (lv_at hl 1 rfl) ?_
    refine lv_aload_n hx hb d_R_takeTimes_3 rfl (lv_at hl 0 rfl) ?_
    refine va_get (ci := 8) (v := .int (σ.1 3)) (C := R_R) (T := F_R) (N := 32) hx hb ht iw_R hown hK hP 0 rfl rfl 3 (by decide) (ht _ wd_680) (fun _ h9 => h9) rfl d_R_takeTimes_4 ?_
    refine lv_icmp_ge (tgt := 27) hx hb d_R_takeTimes_7 (by decide) (fun hc => ?_) (fun hc => ?_)
    · replace hf := ti_pos hc hf
      obtain rfl := ts_of hf
      exact W.vret hx hb hr (fun t ht hW => ⟨rfl, by rw [ht]; exact hP, hS.F ht⟩) hS.2.2 d_R_takeTimes_27
    · replace hf := ti_neg hc hf
      refine lv_aload_n hx hb d_R_takeTimes_10 rfl (lv_at hl 0 rfl) ?_
      refine va_get (ci := 8) (v := .ref (ad 22)) (C := R_R) (T := F_R) (N := 32) hx hb ht iw_R hown hK hP 0 rfl rfl 27 (by decide) (ht _ wd_704) (fun _ h9 => h9) rfl d_R_takeTimes_11 ?_
      refine lv_iload_n hx hb d_R_takeTimes_14 rfl (lv_at hl 1 rfl) ?_
      refine lv_aload_n hx hb d_R_takeTimes_15 rfl (lv_at hl 0 rfl) ?_
      refine lv_iload_n hx hb d_R_takeTimes_16 rfl (lv_at hl 1 rfl) ?_
      obtain ⟨r_1, s_1, hq1, hf⟩ := tb2_of hf
      refine tr_calll (va_runV (C := R_R) (As := [.int v1]) (rest := [.int v1, .ref (ad 22)]) ⟨hx, hb, hml, hown, ht⟩ (mc_R_timeOf l hd hq1) ⟨(tw_cb (n := 1) ht wc_R_timeOf wd_43 wd_885 ⟨rfl, rfl⟩ (by decide +kernel) ⟨(Nat.le_of_ble_eq_true rfl), (Nat.le_of_ble_eq_true rfl)⟩), ht _ wd_887, ht _ wd_27⟩ ⟨tP_blind, va_recv hK hP (ci := 8) (q0 := 0) rfl rfl, fun U hU hW => ⟨rfl, by rw [hU]; exact hP, va_K.moved hW.alike hK, tW_warm hW hN⟩⟩ rfl rfl hl.1 rfl (lv_room (Nat.le_of_ble_eq_true rfl)) d_R_takeTimes_17 ⟨Nat.zero_le _, Nat.zero_le _⟩) hS (fun _ h => h.elim) (fun _ h => h.elim) (fun H locs hP hS => ?_)
      obtain ⟨hi2, hf⟩ := tg_of hf
      refine va_last (f := s_1.2.2 3) hx hb hK hP (cwR_D hd) hS 22 21 rfl rfl hi2 d_R_takeTimes_20 (fun H locs hP _ hS => ?_)
      replace hP : va_P D clS (cwR ad ta (tJ s_1 3 v1.toNatClampNeg r_1)) H := hP
      refine lv_iinc (v := (v1 + (1 : Int32))) (lv' := [(1, .int (v1 + (1 : Int32))), (0, .ref (ad 0))]) hx hb d_R_takeTimes_21 hl (k := 1) rfl rfl (by decide) rfl (fun ls hl => ?_)
      refine lv_goto (tgt := 2) hx hb d_R_takeTimes_24 (by decide) ?_
      exact ih _ _ _ hf _ _ hP hS _ (lv_sub hl [1, 0] rfl)
set_option maxHeartbeats 4000000 in
set_option maxRecDepth 100000 in
theorem mc_R_takeTimes (l : Launch) {D : va_G} {ad : Nat → Nat} {ta : Nat → ClassId} (hd : tD 26 ad) {σ σ' : tS}  (hf : mf_R_takeTimes  σ = some σ') : Met l y_R_takeTimes (.code y_R_takeTimes b_R_takeTimes 2 none :: tw) rm_R_takeTimes (tP D clS (tyR ta) (cwR ad ta σ) [.ref (ad 0)]) (tQ D clS (cwR ad ta σ') none (tA 26 ad)) 0 0 (tA 26 ad) := by
  refine Met.ofW (cc := b_R_takeTimes) (maxL := 2) (ret := none) (by decide) rfl ?_
  intro p e s m args below meth c s₁ B hml hv
  obtain ⟨rfl, hP, hK, hN⟩ := hv
  have hx := B.exec
  have hb := B.bytes
  have hr := B.returns
  have ht : ∀ w ∈ tw, w.before [.ref (ad 0)].toArray s = true := fun w h => atoms_spec (ws := (.code y_R_takeTimes b_R_takeTimes 2 none :: tw)) B.pre w (List.mem_cons_of_mem _ h)
  have hown : s.vm.findClass R_R = some m.cls := findClass_of_methodNamed B.named
  have hlocks := B.notSynchronized
  have CX : tC p s m [.ref (ad 0)].toArray meth c b_R_takeTimes none 2 R_R D clS (tyR ta) := ⟨hx, hb, hr, hml, hown, ht, hlocks, hK, hN⟩
  have hS : va_S (tA 26 ad) s.heap s.heap [] := va_S.rf
  have hl := lv_entry ([.ref (ad 0)]) (n := 2) (Nat.le_of_ble_eq_true rfl)
  rw [lg_entry_eq]
  generalize (lg_sl ([.ref (ad 0)]) ++ List.replicate (2 - (lg_sl ([.ref (ad 0)])).length) Slot.unset).toArray = ls at hl ⊢
  replace hl : lv_has ls 2 [(0, .ref (ad 0))] := hl
  unfold mf_R_takeTimes at hf
  refine lv_iconst (v := (0 : Int32)) hx hb d_R_takeTimes_0 (by decide) ?_
  refine lv_istore_n (lv' := [(1, .int (0 : Int32)), (0, .ref (ad 0))]) hx hb d_R_takeTimes_1 rfl hl (by decide) rfl (fun ls hl => ?_)
  exact mw_R_takeTimes_2 CX hd _ _ _ _ hf _ _ hP hS _ (lv_sub hl [1, 0] rfl)
abbrev rm_R_findNear : Room := { frames := 0, cells := 0, slots := 0, locals := 0 }
set_option maxHeartbeats 4000000 in
set_option maxRecDepth 100000 in
theorem mw_R_findNear_51 {p : Program} {l : Launch} {e : Env} {s : State} {m : MethodId} {args : Array Value} {below : List Frame} {meth : Method} {c : Code} {D : va_G} {ad : Nat → Nat} {ta : Nat → ClassId} {Q : State → Prop} (CX : tC p s m args meth c b_R_findNear none 9 R_R D clS (tyR ta)) (hd : tD 26 ad) : ∀ (k : Nat) (v1 : Int32) (v2 : Int32) (v3 : Int32) (σ : tS) (res : (Int32 × Int32 × Int32 × tS)), ml_R_findNear_51 k v1 v2 v3 σ = some res → ∀ (H : Heap) (locs : List Loc), va_P D clS (cwR ad ta σ) H → va_S (tA 26 ad) s.heap H locs → ∀ (ls : Array Slot), lv_has ls 9 [(0, .ref (ad 0)), (1, .int v1), (2, .int v2), (3, .int v3)] → (∀ (H : Heap) (locs : List Loc), va_P D clS (cwR ad ta res.2.2.2) H → va_S (tA 26 ad) s.heap H locs → ∀ (ls : Array Slot), lv_has ls 9 [(0, .ref (ad 0)), (1, .int res.1), (2, .int res.2.1), (3, .int res.2.2.1)] → W p l e rm_R_findNear s m args below meth c H locs 0 0 Q (F0 m 192 ls [])) → W p l e rm_R_findNear s m args below meth c H locs 0 0 Q (F0 m 51 ls []) := by
  obtain ⟨hx, hb, hr, hml, hown, ht, hlocks, hK, hN⟩ := id CX
  intro k
  induction k with
  | zero =>
    intro v1 v2 v3 σ res hf
    exact tn_no hf
  | succ k ih =>
    intro v1 v2 v3 σ res hf H locs hP hS ls hl kk
    replace hf : ms_R_findNear_51 (ml_R_findNear_51 k) v1 v2 v3 σ = some res := hf
    unfold ms_R_findNear_51 at hf
    refine lv_iload_n hx hb d_R_findNear_51 rfl (lv_at hl 3 rfl) ?_
    refine lv_aload_n hx hb d_R_findNear_52 rfl (lv_at hl 0 rfl) ?_
    refine va_get (ci := 8) (v := .int (σ.1 3)) (C := R_R) (T := F_R) (N := 32) hx hb ht iw_R hown hK hP 0 rfl rfl 3 (by decide) (ht _ wd_680) (fun _ h9 => h9) rfl d_R_findNear_53 ?_
    refine lv_icmp_ge (tgt := 192) hx hb d_R_findNear_56 (by decide) (fun hc => ?_) (fun hc => ?_)
    · replace hf := ti_pos hc hf
      obtain rfl := ts_of hf
      exact kk _ _ hP hS _ (lv_sub hl [0, 1, 2, 3] rfl)
    · replace hf := ti_neg hc hf
      refine lv_aload_n hx hb d_R_findNear_59 rfl (lv_at hl 0 rfl) ?_
      refine va_get (ci := 8) (v := .ref (ad 4)) (C := R_R) (T := F_R) (N := 32) hx hb ht iw_R hown hK hP 0 rfl rfl 7 (by decide) (ht _ wd_684) (fun _ h9 => h9) rfl d_R_findNear_60 ?_
      refine lv_iload_n hx hb d_R_findNear_63 rfl (lv_at hl 3 rfl) ?_
      obtain ⟨hi1, hf⟩ := tg_of hf
      refine va_iald (f := σ.2.1 3) hx hb hK hP 4 3 rfl rfl hi1 d_R_findNear_64 ?_
      refine lv_istore (lv' := [(4, .int (σ.2.1 3 v3.toNatClampNeg)), (0, .ref (ad 0)), (1, .int v1), (2, .int v2), (3, .int v3)]) hx hb d_R_findNear_65 hl (by decide) rfl (fun ls hl => ?_)
      refine lv_aload_n hx hb d_R_findNear_67 rfl (lv_at hl 1 rfl) ?_
      refine va_get (ci := 8) (v := .ref (ad 5)) (C := R_R) (T := F_R) (N := 32) hx hb ht iw_R hown hK hP 0 rfl rfl 8 (by decide) (ht _ wd_685) (fun _ h9 => h9) rfl d_R_findNear_68 ?_
      refine lv_iload_n hx hb d_R_findNear_71 rfl (lv_at hl 4 rfl) ?_
      obtain ⟨hi2, hf⟩ := tg_of hf
      refine va_iald (f := σ.2.1 4) hx hb hK hP 5 4 rfl rfl hi2 d_R_findNear_72 ?_
      refine lv_istore (lv' := [(5, .int (σ.2.1 4 v3.toNatClampNeg)), (4, .int (σ.2.1 3 v3.toNatClampNeg)), (0, .ref (ad 0)), (1, .int v1), (2, .int v2), (3, .int v3)]) hx hb d_R_findNear_73 hl (by decide) rfl (fun ls hl => ?_)
      refine lv_aload_n hx hb d_R_findNear_75 rfl (lv_at hl 2 rfl) ?_
      refine va_get (ci := 8) (v := .ref (ad 10)) (C := R_R) (T := F_R) (N := 32) hx hb ht iw_R hown hK hP 0 rfl rfl 13 (by decide) (ht _ wd_690) (fun _ h9 => h9) rfl d_R_findNear_76 ?_
      refine lv_iload_n hx hb d_R_findNear_79 rfl (lv_at hl 5 rfl) ?_
      obtain ⟨hi3, hf⟩ := tg_of hf
      refine va_zald (f := σ.2.1 9) hx hb hK hP 10 9 rfl rfl hi3 d_R_findNear_80 ?_
      refine lv_if_ne (tgt := 186) hx hb d_R_findNear_81 (by decide) (fun hc => ?_) (fun hc => ?_)
      · replace hf := ti_neg hc hf
        refine lv_iinc (v := (v3 + (1 : Int32))) (lv' := [(3, .int (v3 + (1 : Int32))), (5, .int (σ.2.1 4 v3.toNatClampNeg)), (4, .int (σ.2.1 3 v3.toNatClampNeg)), (0, .ref (ad 0)), (1, .int v1), (2, .int v2)]) hx hb d_R_findNear_186 hl (k := 5) rfl rfl (by decide) rfl (fun ls hl => ?_)
        refine lv_goto (tgt := 51) hx hb d_R_findNear_189 (by decide) ?_
        exact ih _ _ _ _ _ hf _ _ hP hS _ (lv_sub hl [3, 4, 5, 0] rfl) kk
      · replace hf := ti_pos hc hf
        refine lv_aload_n hx hb d_R_findNear_84 rfl (lv_at hl 2 rfl) ?_
        refine va_get (ci := 8) (v := .ref (ad 23)) (C := R_R) (T := F_R) (N := 32) hx hb ht iw_R hown hK hP 0 rfl rfl 28 (by decide) (ht _ wd_705) (fun _ h9 => h9) rfl d_R_findNear_85 ?_
        refine lv_iload hx hb d_R_findNear_88 (lv_at hl 0 rfl) ?_
        obtain ⟨hi4, hf⟩ := tg_of hf
        refine va_lald (f := σ.2.2 4) hx hb hK hP 23 22 rfl rfl hi4 d_R_findNear_90 ?_
        refine lv_ldc2 (v := (1000000000000 : Int64)) hx hb hown (ht _ wd_901) d_R_findNear_91 ?_
        refine W.lcmp hx hb d_R_findNear_94 ?_
        refine lv_if_ne (tgt := 101) hx hb d_R_findNear_95 (by decide) (fun hc => ?_) (fun hc => ?_)
        · replace hf := ti_neg hc hf
          refine lv_aload_n hx hb d_R_findNear_101 rfl (lv_at hl 2 rfl) ?_
          refine va_get (ci := 8) (v := .ref (ad 23)) (C := R_R) (T := F_R) (N := 32) hx hb ht iw_R hown hK hP 0 rfl rfl 28 (by decide) (ht _ wd_705) (fun _ h9 => h9) rfl d_R_findNear_102 ?_
          refine lv_iload hx hb d_R_findNear_105 (lv_at hl 0 rfl) ?_
          obtain ⟨hi5, hf⟩ := tg_of hf
          refine va_lald (f := σ.2.2 4) hx hb hK hP 23 22 rfl rfl hi5 d_R_findNear_107 ?_
          refine lv_aload_n hx hb d_R_findNear_108 rfl (lv_at hl 2 rfl) ?_
          refine va_get (ci := 8) (v := .ref (ad 22)) (C := R_R) (T := F_R) (N := 32) hx hb ht iw_R hown hK hP 0 rfl rfl 27 (by decide) (ht _ wd_704) (fun _ h9 => h9) rfl d_R_findNear_109 ?_
          refine lv_iload_n hx hb d_R_findNear_112 rfl (lv_at hl 5 rfl) ?_
          obtain ⟨hi6, hf⟩ := tg_of hf
          refine va_lald (f := σ.2.2 3) hx hb hK hP 22 21 rfl rfl hi6 d_R_findNear_113 ?_
          refine lv_ladd hx hb d_R_findNear_114 ?_
          refine lv_lstore (lv' := [(6, .long ((σ.2.2 4 (σ.2.1 4 v3.toNatClampNeg).toNatClampNeg) + (σ.2.2 3 v3.toNatClampNeg))), (5, .int (σ.2.1 4 v3.toNatClampNeg)), (4, .int (σ.2.1 3 v3.toNatClampNeg)), (0, .ref (ad 0)), (1, .int v1), (2, .int v2), (3, .int v3)]) hx hb d_R_findNear_115 hl (by decide) rfl (fun ls hl => ?_)
          refine lv_aload_n hx hb d_R_findNear_117 rfl (lv_at hl 3 rfl) ?_
          refine va_get (ci := 8) (v := .ref (ad 24)) (C := R_R) (T := F_R) (N := 32) hx hb ht iw_R hown hK hP 0 rfl rfl 29 (by decide) (ht _ wd_706) (fun _ h9 => h9) rfl d_R_findNear_118 ?_
          refine lv_iload hx hb d_R_findNear_121 (lv_at hl 1 rfl) ?_
          obtain ⟨hi7, hf⟩ := tg_of hf
          refine va_iald (f := σ.2.1 18) hx hb hK hP 24 23 rfl rfl hi7 d_R_findNear_123 ?_
          refine lv_iconst (v := (1 : Int32)) hx hb d_R_findNear_124 (by decide) ?_
          refine lv_iadd hx hb d_R_findNear_125 ?_
          refine lv_istore (lv' := [(8, .int ((σ.2.1 18 (σ.2.1 4 v3.toNatClampNeg).toNatClampNeg) + (1 : Int32))), (6, .long ((σ.2.2 4 (σ.2.1 4 v3.toNatClampNeg).toNatClampNeg) + (σ.2.2 3 v3.toNatClampNeg))), (5, .int (σ.2.1 4 v3.toNatClampNeg)), (4, .int (σ.2.1 3 v3.toNatClampNeg)), (0, .ref (ad 0)), (1, .int v1), (2, .int v2), (3, .int v3)]) hx hb d_R_findNear_126 hl (by decide) rfl (fun ls hl => ?_)
          refine lv_lload hx hb d_R_findNear_128 (lv_at hl 1 rfl) ?_
          refine lv_aload_n hx hb d_R_findNear_130 rfl (lv_at hl 4 rfl) ?_
          refine va_get (ci := 8) (v := .ref (ad 23)) (C := R_R) (T := F_R) (N := 32) hx hb ht iw_R hown hK hP 0 rfl rfl 28 (by decide) (ht _ wd_705) (fun _ h9 => h9) rfl d_R_findNear_131 ?_
          refine lv_iload hx hb d_R_findNear_134 (lv_at hl 3 rfl) ?_
          obtain ⟨hi8, hf⟩ := tg_of hf
          refine va_lald (f := σ.2.2 4) hx hb hK hP 23 22 rfl rfl hi8 d_R_findNear_136 ?_
          refine W.lcmp hx hb d_R_findNear_137 ?_
          refine lv_if_lt (tgt := 166) hx hb d_R_findNear_138 (by decide) (fun hc => ?_) (fun hc => ?_)
          · replace hf := ti_pos hc hf
            refine lv_aload_n hx hb d_R_findNear_166 rfl (lv_at hl 4 rfl) ?_
            refine va_get (ci := 8) (v := .ref (ad 23)) (C := R_R) (T := F_R) (N := 32) hx hb ht iw_R hown hK hP 0 rfl rfl 28 (by decide) (ht _ wd_705) (fun _ h9 => h9) rfl d_R_findNear_167 ?_
            refine lv_iload hx hb d_R_findNear_170 (lv_at hl 3 rfl) ?_
            refine lv_lload hx hb d_R_findNear_172 (lv_at hl 1 rfl) ?_
            obtain ⟨hi9, hf⟩ := tg_of hf
            refine va_last (f := σ.2.2 4) hx hb hK hP (cwR_D hd) hS 23 22 rfl rfl hi9 d_R_findNear_174 (fun H locs hP _ hS => ?_)
            replace hP : va_P D clS (cwR ad ta (tJ σ 4 ((σ.2.1 3 v3.toNatClampNeg).toNatClampNeg) ((σ.2.2 4 (σ.2.1 4 v3.toNatClampNeg).toNatClampNeg) + (σ.2.2 3 v3.toNatClampNeg)))) H := hP
            refine lv_aload_n hx hb d_R_findNear_175 rfl (lv_at hl 4 rfl) ?_
            refine va_get (ci := 8) (v := .ref (ad 24)) (C := R_R) (T := F_R) (N := 32) hx hb ht iw_R hown hK hP 0 rfl rfl 29 (by decide) (ht _ wd_706) (fun _ h9 => h9) rfl d_R_findNear_176 ?_
            refine lv_iload hx hb d_R_findNear_179 (lv_at hl 3 rfl) ?_
            refine lv_iload hx hb d_R_findNear_181 (lv_at hl 0 rfl) ?_
            obtain ⟨hi10, hf⟩ := tg_of hf
            refine va_iast (f := σ.2.1 18) hx hb hK hP (cwR_D hd) hS 24 23 rfl rfl hi10 d_R_findNear_183 (fun H locs hP _ hS => ?_)
            replace hP : va_P D clS (cwR ad ta (tI (tJ σ 4 ((σ.2.1 3 v3.toNatClampNeg).toNatClampNeg) ((σ.2.2 4 (σ.2.1 4 v3.toNatClampNeg).toNatClampNeg) + (σ.2.2 3 v3.toNatClampNeg))) 18 ((σ.2.1 3 v3.toNatClampNeg).toNatClampNeg) ((σ.2.1 18 (σ.2.1 4 v3.toNatClampNeg).toNatClampNeg) + (1 : Int32)))) H := hP
            refine lv_iconst (v := (1 : Int32)) hx hb d_R_findNear_184 (by decide) ?_
            refine lv_istore_n (lv' := [(2, .int (1 : Int32)), (8, .int ((σ.2.1 18 (σ.2.1 4 v3.toNatClampNeg).toNatClampNeg) + (1 : Int32))), (6, .long ((σ.2.2 4 (σ.2.1 4 v3.toNatClampNeg).toNatClampNeg) + (σ.2.2 3 v3.toNatClampNeg))), (5, .int (σ.2.1 4 v3.toNatClampNeg)), (4, .int (σ.2.1 3 v3.toNatClampNeg)), (0, .ref (ad 0)), (1, .int v1), (3, .int v3)]) hx hb d_R_findNear_185 rfl hl (by decide) rfl (fun ls hl => ?_)
            refine lv_iinc (v := (v3 + (1 : Int32))) (lv' := [(3, .int (v3 + (1 : Int32))), (2, .int (1 : Int32)), (8, .int ((σ.2.1 18 (σ.2.1 4 v3.toNatClampNeg).toNatClampNeg) + (1 : Int32))), (6, .long ((σ.2.2 4 (σ.2.1 4 v3.toNatClampNeg).toNatClampNeg) + (σ.2.2 3 v3.toNatClampNeg))), (5, .int (σ.2.1 4 v3.toNatClampNeg)), (4, .int (σ.2.1 3 v3.toNatClampNeg)), (0, .ref (ad 0)), (1, .int v1)]) hx hb d_R_findNear_186 hl (k := 7) rfl rfl (by decide) rfl (fun ls hl => ?_)
            refine lv_goto (tgt := 51) hx hb d_R_findNear_189 (by decide) ?_
            exact ih _ _ _ _ _ hf _ _ hP hS _ (lv_sub hl [6, 7, 1, 0] rfl) kk
          · replace hf := ti_neg hc hf
            refine lv_lload hx hb d_R_findNear_141 (lv_at hl 1 rfl) ?_
            refine lv_aload_n hx hb d_R_findNear_143 rfl (lv_at hl 4 rfl) ?_
            refine va_get (ci := 8) (v := .ref (ad 23)) (C := R_R) (T := F_R) (N := 32) hx hb ht iw_R hown hK hP 0 rfl rfl 28 (by decide) (ht _ wd_705) (fun _ h9 => h9) rfl d_R_findNear_144 ?_
            refine lv_iload hx hb d_R_findNear_147 (lv_at hl 3 rfl) ?_
            obtain ⟨hi11, hf⟩ := tg_of hf
            refine va_lald (f := σ.2.2 4) hx hb hK hP 23 22 rfl rfl hi11 d_R_findNear_149 ?_
            refine W.lcmp hx hb d_R_findNear_150 ?_
            refine lv_if_ne (tgt := 186) hx hb d_R_findNear_151 (by decide) (fun hc => ?_) (fun hc => ?_)
            · replace hf := ti_neg hc hf
              refine lv_iinc (v := (v3 + (1 : Int32))) (lv' := [(3, .int (v3 + (1 : Int32))), (8, .int ((σ.2.1 18 (σ.2.1 4 v3.toNatClampNeg).toNatClampNeg) + (1 : Int32))), (6, .long ((σ.2.2 4 (σ.2.1 4 v3.toNatClampNeg).toNatClampNeg) + (σ.2.2 3 v3.toNatClampNeg))), (5, .int (σ.2.1 4 v3.toNatClampNeg)), (4, .int (σ.2.1 3 v3.toNatClampNeg)), (0, .ref (ad 0)), (1, .int v1), (2, .int v2)]) hx hb d_R_findNear_186 hl (k := 7) rfl rfl (by decide) rfl (fun ls hl => ?_)
              refine lv_goto (tgt := 51) hx hb d_R_findNear_189 (by decide) ?_
              exact ih _ _ _ _ _ hf _ _ hP hS _ (lv_sub hl [5, 6, 7, 0] rfl) kk
            · replace hf := ti_pos hc hf
              refine lv_iload hx hb d_R_findNear_154 (lv_at hl 0 rfl) ?_
              refine lv_aload_n hx hb d_R_findNear_156 rfl (lv_at hl 4 rfl) ?_
              refine va_get (ci := 8) (v := .ref (ad 24)) (C := R_R) (T := F_R) (N := 32) hx hb ht iw_R hown hK hP 0 rfl rfl 29 (by decide) (ht _ wd_706) (fun _ h9 => h9) rfl d_R_findNear_157 ?_
              refine lv_iload hx hb d_R_findNear_160 (lv_at hl 3 rfl) ?_
              obtain ⟨hi12, hf⟩ := tg_of hf
              refine va_iald (f := σ.2.1 18) hx hb hK hP 24 23 rfl rfl hi12 d_R_findNear_162 ?_
              refine lv_icmp_ge (tgt := 186) hx hb d_R_findNear_163 (by decide) (fun hc => ?_) (fun hc => ?_)
              · replace hf := ti_pos hc hf
                refine lv_iinc (v := (v3 + (1 : Int32))) (lv' := [(3, .int (v3 + (1 : Int32))), (8, .int ((σ.2.1 18 (σ.2.1 4 v3.toNatClampNeg).toNatClampNeg) + (1 : Int32))), (6, .long ((σ.2.2 4 (σ.2.1 4 v3.toNatClampNeg).toNatClampNeg) + (σ.2.2 3 v3.toNatClampNeg))), (5, .int (σ.2.1 4 v3.toNatClampNeg)), (4, .int (σ.2.1 3 v3.toNatClampNeg)), (0, .ref (ad 0)), (1, .int v1), (2, .int v2)]) hx hb d_R_findNear_186 hl (k := 7) rfl rfl (by decide) rfl (fun ls hl => ?_)
                refine lv_goto (tgt := 51) hx hb d_R_findNear_189 (by decide) ?_
                exact ih _ _ _ _ _ hf _ _ hP hS _ (lv_sub hl [5, 6, 7, 0] rfl) kk
              · replace hf := ti_neg hc hf
                refine lv_aload_n hx hb d_R_findNear_166 rfl (lv_at hl 4 rfl) ?_
                refine va_get (ci := 8) (v := .ref (ad 23)) (C := R_R) (T := F_R) (N := 32) hx hb ht iw_R hown hK hP 0 rfl rfl 28 (by decide) (ht _ wd_705) (fun _ h9 => h9) rfl d_R_findNear_167 ?_
                refine lv_iload hx hb d_R_findNear_170 (lv_at hl 3 rfl) ?_
                refine lv_lload hx hb d_R_findNear_172 (lv_at hl 1 rfl) ?_
                obtain ⟨hi13, hf⟩ := tg_of hf
                refine va_last (f := σ.2.2 4) hx hb hK hP (cwR_D hd) hS 23 22 rfl rfl hi13 d_R_findNear_174 (fun H locs hP _ hS => ?_)
                replace hP : va_P D clS (cwR ad ta (tJ σ 4 ((σ.2.1 3 v3.toNatClampNeg).toNatClampNeg) ((σ.2.2 4 (σ.2.1 4 v3.toNatClampNeg).toNatClampNeg) + (σ.2.2 3 v3.toNatClampNeg)))) H := hP
                refine lv_aload_n hx hb d_R_findNear_175 rfl (lv_at hl 4 rfl) ?_
                refine va_get (ci := 8) (v := .ref (ad 24)) (C := R_R) (T := F_R) (N := 32) hx hb ht iw_R hown hK hP 0 rfl rfl 29 (by decide) (ht _ wd_706) (fun _ h9 => h9) rfl d_R_findNear_176 ?_
                refine lv_iload hx hb d_R_findNear_179 (lv_at hl 3 rfl) ?_
                refine lv_iload hx hb d_R_findNear_181 (lv_at hl 0 rfl) ?_
                obtain ⟨hi14, hf⟩ := tg_of hf
                refine va_iast (f := σ.2.1 18) hx hb hK hP (cwR_D hd) hS 24 23 rfl rfl hi14 d_R_findNear_183 (fun H locs hP _ hS => ?_)
                replace hP : va_P D clS (cwR ad ta (tI (tJ σ 4 ((σ.2.1 3 v3.toNatClampNeg).toNatClampNeg) ((σ.2.2 4 (σ.2.1 4 v3.toNatClampNeg).toNatClampNeg) + (σ.2.2 3 v3.toNatClampNeg))) 18 ((σ.2.1 3 v3.toNatClampNeg).toNatClampNeg) ((σ.2.1 18 (σ.2.1 4 v3.toNatClampNeg).toNatClampNeg) + (1 : Int32)))) H := hP
                refine lv_iconst (v := (1 : Int32)) hx hb d_R_findNear_184 (by decide) ?_
                refine lv_istore_n (lv' := [(2, .int (1 : Int32)), (8, .int ((σ.2.1 18 (σ.2.1 4 v3.toNatClampNeg).toNatClampNeg) + (1 : Int32))), (6, .long ((σ.2.2 4 (σ.2.1 4 v3.toNatClampNeg).toNatClampNeg) + (σ.2.2 3 v3.toNatClampNeg))), (5, .int (σ.2.1 4 v3.toNatClampNeg)), (4, .int (σ.2.1 3 v3.toNatClampNeg)), (0, .ref (ad 0)), (1, .int v1), (3, .int v3)]) hx hb d_R_findNear_185 rfl hl (by decide) rfl (fun ls hl => ?_)
                refine lv_iinc (v := (v3 + (1 : Int32))) (lv' := [(3, .int (v3 + (1 : Int32))), (2, .int (1 : Int32)), (8, .int ((σ.2.1 18 (σ.2.1 4 v3.toNatClampNeg).toNatClampNeg) + (1 : Int32))), (6, .long ((σ.2.2 4 (σ.2.1 4 v3.toNatClampNeg).toNatClampNeg) + (σ.2.2 3 v3.toNatClampNeg))), (5, .int (σ.2.1 4 v3.toNatClampNeg)), (4, .int (σ.2.1 3 v3.toNatClampNeg)), (0, .ref (ad 0)), (1, .int v1)]) hx hb d_R_findNear_186 hl (k := 7) rfl rfl (by decide) rfl (fun ls hl => ?_)
                refine lv_goto (tgt := 51) hx hb d_R_findNear_189 (by decide) ?_
                exact ih _ _ _ _ _ hf _ _ hP hS _ (lv_sub hl [6, 7, 1, 0] rfl) kk
        · replace hf := ti_pos hc hf
          refine lv_goto (tgt := 186) hx hb d_R_findNear_98 (by decide) ?_
          refine lv_iinc (v := (v3 + (1 : Int32))) (lv' := [(3, .int (v3 + (1 : Int32))), (5, .int (σ.2.1 4 v3.toNatClampNeg)), (4, .int (σ.2.1 3 v3.toNatClampNeg)), (0, .ref (ad 0)), (1, .int v1), (2, .int v2)]) hx hb d_R_findNear_186 hl (k := 5) rfl rfl (by decide) rfl (fun ls hl => ?_)
          refine lv_goto (tgt := 51) hx hb d_R_findNear_189 (by decide) ?_
          exact ih _ _ _ _ _ hf _ _ hP hS _ (lv_sub hl [3, 4, 5, 0] rfl) kk
set_option maxHeartbeats 4000000 in
set_option maxRecDepth 100000 in
theorem mw_R_findNear_43 {p : Program} {l : Launch} {e : Env} {s : State} {m : MethodId} {args : Array Value} {below : List Frame} {meth : Method} {c : Code} {D : va_G} {ad : Nat → Nat} {ta : Nat → ClassId} (CX : tC p s m args meth c b_R_findNear none 9 R_R D clS (tyR ta)) (hd : tD 26 ad) : ∀ (k : Nat) (v1 : Int32) (v2 : Int32) (σ : tS) (res : tS), ml_R_findNear_43 k v1 v2 σ = some res → ∀ (H : Heap) (locs : List Loc), va_P D clS (cwR ad ta σ) H → va_S (tA 26 ad) s.heap H locs → ∀ (ls : Array Slot), lv_has ls 9 [(0, .ref (ad 0)), (1, .int v1), (2, .int v2)] → W p l e rm_R_findNear s m args below meth c H locs 0 0 (MQ below (tQ D clS (cwR ad ta res) none (tA 26 ad)) args s 0 0 (tA 26 ad)) (F0 m 43 ls []) := by
  obtain ⟨hx, hb, hr, hml, hown, ht, hlocks, hK, hN⟩ := id CX
  intro k
  induction k with
  | zero =>
    intro v1 v2 σ res hf
    exact tn_no hf
  | succ k ih =>
    intro v1 v2 σ res hf H locs hP hS ls hl
    replace hf : ms_R_findNear_43 (ml_R_findNear_43 k) v1 v2 σ = some res := hf
    unfold ms_R_findNear_43 at hf
    refine lv_iload_n hx hb d_R_findNear_43 rfl (lv_at hl 2 rfl) ?_
    refine lv_if_eq (tgt := 195) hx hb d_R_findNear_44 (by decide) (fun hc => ?_) (fun hc => ?_)
    · replace hf := ti_pos hc hf
      obtain rfl := ts_of hf
      exact W.vret hx hb hr (fun t ht hW => ⟨rfl, by rw [ht]; exact hP, hS.F ht⟩) hS.2.2 d_R_findNear_195
    · replace hf := ti_neg hc hf
      refine lv_iconst (v := (0 : Int32)) hx hb d_R_findNear_47 (by decide) ?_
      refine lv_istore_n (lv' := [(2, .int (0 : Int32)), (0, .ref (ad 0)), (1, .int v1)]) hx hb d_R_findNear_48 rfl hl (by decide) rfl (fun ls hl => ?_)
      refine lv_iconst (v := (0 : Int32)) hx hb d_R_findNear_49 (by decide) ?_
      refine lv_istore_n (lv' := [(3, .int (0 : Int32)), (2, .int (0 : Int32)), (0, .ref (ad 0)), (1, .int v1)]) hx hb d_R_findNear_50 rfl hl (by decide) rfl (fun ls hl => ?_)
      obtain ⟨e_15, hq15, hf⟩ := tb1_of hf
      refine mw_R_findNear_51 CX hd _ _ _ _ _ _ hq15 _ _ hP hS _ (lv_sub hl [2, 3, 1, 0] rfl) (fun H locs hP hS ls hl => ?_)
      refine lv_goto (tgt := 43) hx hb d_R_findNear_192 (by decide) ?_
      exact ih _ _ _ _ hf _ _ hP hS _ (lv_sub hl [0, 1, 2] rfl)
set_option maxHeartbeats 4000000 in
set_option maxRecDepth 100000 in
theorem mw_R_findNear_2 {p : Program} {l : Launch} {e : Env} {s : State} {m : MethodId} {args : Array Value} {below : List Frame} {meth : Method} {c : Code} {D : va_G} {ad : Nat → Nat} {ta : Nat → ClassId} (CX : tC p s m args meth c b_R_findNear none 9 R_R D clS (tyR ta)) (hd : tD 26 ad) : ∀ (k : Nat) (v1 : Int32) (v2 : Int32) (σ : tS) (res : tS), ml_R_findNear_2 k v1 v2 σ = some res → ∀ (H : Heap) (locs : List Loc), va_P D clS (cwR ad ta σ) H → va_S (tA 26 ad) s.heap H locs → ∀ (ls : Array Slot), lv_has ls 9 [(0, .ref (ad 0)), (1, .int v1), (2, .int v2)] → W p l e rm_R_findNear s m args below meth c H locs 0 0 (MQ below (tQ D clS (cwR ad ta res) none (tA 26 ad)) args s 0 0 (tA 26 ad)) (F0 m 2 ls []) := by
  obtain ⟨hx, hb, hr, hml, hown, ht, hlocks, hK, hN⟩ := id CX
  intro k
  induction k with
  | zero =>
    intro v1 v2 σ res hf
    exact tn_no hf
  | succ k ih =>
    intro v1 v2 σ res hf H locs hP hS ls hl
    replace hf : ms_R_findNear_2 (ml_R_findNear_2 k) v1 v2 σ = some res := hf
    unfold ms_R_findNear_2 at hf
    refine lv_iload_n hx hb d_R_findNear_2 rfl (lv_at hl 2 rfl) ?_
    refine lv_aload_n hx hb d_R_findNear_3 rfl (lv_at hl 0 rfl) ?_
    refine va_get (ci := 8) (v := .int (σ.1 1)) (C := R_R) (T := F_R) (N := 32) hx hb ht iw_R hown hK hP 0 rfl rfl 1 (by decide) (ht _ wd_678) (fun _ h9 => h9) rfl d_R_findNear_4 ?_
    refine lv_icmp_ge (tgt := 41) hx hb d_R_findNear_7 (by decide) (fun hc => ?_) (fun hc => ?_)
    · replace hf := ti_pos hc hf
      refine lv_iconst (v := (1 : Int32)) hx hb d_R_findNear_41 (by decide) ?_
      refine lv_istore_n (lv' := [(2, .int (1 : Int32)), (0, .ref (ad 0)), (1, .int v1)]) hx hb d_R_findNear_42 rfl hl (by decide) rfl (fun ls hl => ?_)
      exact mw_R_findNear_43 CX hd _ _ _ _ _ hf _ _ hP hS _ (lv_sub hl [1, 2, 0] rfl)
    · replace hf := ti_neg hc hf
      refine lv_aload_n hx hb d_R_findNear_10 rfl (lv_at hl 0 rfl) ?_
      refine va_get (ci := 8) (v := .ref (ad 23)) (C := R_R) (T := F_R) (N := 32) hx hb ht iw_R hown hK hP 0 rfl rfl 28 (by decide) (ht _ wd_705) (fun _ h9 => h9) rfl d_R_findNear_11 ?_
      refine lv_iload_n hx hb d_R_findNear_14 rfl (lv_at hl 2 rfl) ?_
      refine lv_iload_n hx hb d_R_findNear_15 rfl (lv_at hl 2 rfl) ?_
      refine lv_iload_n hx hb d_R_findNear_16 rfl (lv_at hl 1 rfl) ?_
      refine lv_icmp_ne (tgt := 24) hx hb d_R_findNear_17 (by decide) (fun hc => ?_) (fun hc => ?_)
      · replace hf := ti_neg hc hf
        refine lv_ldc2 (v := (1000000000000 : Int64)) hx hb hown (ht _ wd_901) d_R_findNear_24 ?_
        obtain ⟨hi16, hf⟩ := tg_of hf
        refine va_last (f := σ.2.2 4) hx hb hK hP (cwR_D hd) hS 23 22 rfl rfl hi16 d_R_findNear_27 (fun H locs hP _ hS => ?_)
        replace hP : va_P D clS (cwR ad ta (tJ σ 4 v2.toNatClampNeg (1000000000000 : Int64))) H := hP
        refine lv_aload_n hx hb d_R_findNear_28 rfl (lv_at hl 0 rfl) ?_
        refine va_get (ci := 8) (v := .ref (ad 24)) (C := R_R) (T := F_R) (N := 32) hx hb ht iw_R hown hK hP 0 rfl rfl 29 (by decide) (ht _ wd_706) (fun _ h9 => h9) rfl d_R_findNear_29 ?_
        refine lv_iload_n hx hb d_R_findNear_32 rfl (lv_at hl 2 rfl) ?_
        refine lv_iconst (v := (0 : Int32)) hx hb d_R_findNear_33 (by decide) ?_
        obtain ⟨hi17, hf⟩ := tg_of hf
        refine va_iast (f := σ.2.1 18) hx hb hK hP (cwR_D hd) hS 24 23 rfl rfl hi17 d_R_findNear_34 (fun H locs hP _ hS => ?_)
        replace hP : va_P D clS (cwR ad ta (tI (tJ σ 4 v2.toNatClampNeg (1000000000000 : Int64)) 18 v2.toNatClampNeg (0 : Int32))) H := hP
        refine lv_iinc (v := (v2 + (1 : Int32))) (lv' := [(2, .int (v2 + (1 : Int32))), (0, .ref (ad 0)), (1, .int v1)]) hx hb d_R_findNear_35 hl (k := 2) rfl rfl (by decide) rfl (fun ls hl => ?_)
        refine lv_goto (tgt := 2) hx hb d_R_findNear_38 (by decide) ?_
        exact ih _ _ _ _ hf _ _ hP hS _ (lv_sub hl [1, 2, 0] rfl)
      · replace hf := ti_pos hc hf
        refine lv_lconst (v := (0 : Int64)) hx hb d_R_findNear_20 (by decide) ?_
        refine lv_goto (tgt := 27) hx hb d_R_findNear_21 (by decide) ?_
        obtain ⟨hi18, hf⟩ := tg_of hf
        refine va_last (f := σ.2.2 4) hx hb hK hP (cwR_D hd) hS 23 22 rfl rfl hi18 d_R_findNear_27 (fun H locs hP _ hS => ?_)
        replace hP : va_P D clS (cwR ad ta (tJ σ 4 v2.toNatClampNeg (0 : Int64))) H := hP
        refine lv_aload_n hx hb d_R_findNear_28 rfl (lv_at hl 0 rfl) ?_
        refine va_get (ci := 8) (v := .ref (ad 24)) (C := R_R) (T := F_R) (N := 32) hx hb ht iw_R hown hK hP 0 rfl rfl 29 (by decide) (ht _ wd_706) (fun _ h9 => h9) rfl d_R_findNear_29 ?_
        refine lv_iload_n hx hb d_R_findNear_32 rfl (lv_at hl 2 rfl) ?_
        refine lv_iconst (v := (0 : Int32)) hx hb d_R_findNear_33 (by decide) ?_
        obtain ⟨hi19, hf⟩ := tg_of hf
        refine va_iast (f := σ.2.1 18) hx hb hK hP (cwR_D hd) hS 24 23 rfl rfl hi19 d_R_findNear_34 (fun H locs hP _ hS => ?_)
        replace hP : va_P D clS (cwR ad ta (tI (tJ σ 4 v2.toNatClampNeg (0 : Int64)) 18 v2.toNatClampNeg (0 : Int32))) H := hP
        refine lv_iinc (v := (v2 + (1 : Int32))) (lv' := [(2, .int (v2 + (1 : Int32))), (0, .ref (ad 0)), (1, .int v1)]) hx hb d_R_findNear_35 hl (k := 2) rfl rfl (by decide) rfl (fun ls hl => ?_)
        refine lv_goto (tgt := 2) hx hb d_R_findNear_38 (by decide) ?_
        exact ih _ _ _ _ hf _ _ hP hS _ (lv_sub hl [1, 2, 0] rfl)
set_option maxHeartbeats 4000000 in
set_option maxRecDepth 100000 in
theorem mc_R_findNear (l : Launch) {D : va_G} {ad : Nat → Nat} {ta : Nat → ClassId} (hd : tD 26 ad) {σ σ' : tS} {p0 : Int32} (hf : mf_R_findNear p0 σ = some σ') : Met l y_R_findNear (.code y_R_findNear b_R_findNear 9 none :: tw) rm_R_findNear (tP D clS (tyR ta) (cwR ad ta σ) [.ref (ad 0), .int p0]) (tQ D clS (cwR ad ta σ') none (tA 26 ad)) 0 0 (tA 26 ad) := by
  refine Met.ofW (cc := b_R_findNear) (maxL := 9) (ret := none) (by decide) rfl ?_
  intro p e s m args below meth c s₁ B hml hv
  obtain ⟨rfl, hP, hK, hN⟩ := hv
  have hx := B.exec
  have hb := B.bytes
  have hr := B.returns
  have ht : ∀ w ∈ tw, w.before [.ref (ad 0), .int p0].toArray s = true := fun w h => atoms_spec (ws := (.code y_R_findNear b_R_findNear 9 none :: tw)) B.pre w (List.mem_cons_of_mem _ h)
  have hown : s.vm.findClass R_R = some m.cls := findClass_of_methodNamed B.named
  have hlocks := B.notSynchronized
  have CX : tC p s m [.ref (ad 0), .int p0].toArray meth c b_R_findNear none 9 R_R D clS (tyR ta) := ⟨hx, hb, hr, hml, hown, ht, hlocks, hK, hN⟩
  have hS : va_S (tA 26 ad) s.heap s.heap [] := va_S.rf
  have hl := lv_entry ([.ref (ad 0), .int p0]) (n := 9) (Nat.le_of_ble_eq_true rfl)
  rw [lg_entry_eq]
  generalize (lg_sl ([.ref (ad 0), .int p0]) ++ List.replicate (9 - (lg_sl ([.ref (ad 0), .int p0])).length) Slot.unset).toArray = ls at hl ⊢
  replace hl : lv_has ls 9 [(0, .ref (ad 0)), (1, .int p0)] := hl
  unfold mf_R_findNear at hf
  refine lv_iconst (v := (0 : Int32)) hx hb d_R_findNear_0 (by decide) ?_
  refine lv_istore_n (lv' := [(2, .int (0 : Int32)), (0, .ref (ad 0)), (1, .int p0)]) hx hb d_R_findNear_1 rfl hl (by decide) rfl (fun ls hl => ?_)
  exact mw_R_findNear_2 CX hd _ _ _ _ _ hf _ _ hP hS _ (lv_sub hl [1, 2, 0] rfl)
abbrev rm_R_findWay : Room := { frames := 1, cells := 0, slots := 0, locals := 28 }
set_option maxHeartbeats 4000000 in
set_option maxRecDepth 100000 in
theorem mw_R_findWay_38 {p : Program} {l : Launch} {e : Env} {s : State} {m : MethodId} {args : Array Value} {below : List Frame} {meth : Method} {c : Code} {D : va_G} {ad : Nat → Nat} {ta : Nat → ClassId} {Q : State → Prop} (CX : tC p s m args meth c b_R_findWay (some .boolean) 8 R_R D clS (tyR ta)) (hd : tD 26 ad) : ∀ (k : Nat) (v1 : Int32) (v2 : Int32) (v3 : Int32) (v4 : Int32) (v5 : Int32) (σ : tS) (res : (Int32 × Int32 × Int32 × Int32 × Int32 × tS)), ml_R_findWay_38 k v1 v2 v3 v4 v5 σ = some res → ∀ (H : Heap) (locs : List Loc), va_P D clS (cwR ad ta σ) H → va_S (tA 26 ad) s.heap H locs → ∀ (ls : Array Slot), lv_has ls 8 [(0, .ref (ad 0)), (1, .int v1), (2, .int v2), (3, .int v3), (4, .int v4), (5, .int v5)] → (∀ (H : Heap) (locs : List Loc), va_P D clS (cwR ad ta res.2.2.2.2.2) H → va_S (tA 26 ad) s.heap H locs → ∀ (ls : Array Slot), lv_has ls 8 [(0, .ref (ad 0)), (1, .int res.1), (2, .int res.2.1), (3, .int res.2.2.1), (4, .int res.2.2.2.1), (5, .int res.2.2.2.2.1)] → W p l e rm_R_findWay s m args below meth c H locs 0 0 Q (F0 m 167 ls [])) → W p l e rm_R_findWay s m args below meth c H locs 0 0 Q (F0 m 38 ls []) := by
  obtain ⟨hx, hb, hr, hml, hown, ht, hlocks, hK, hN⟩ := id CX
  intro k
  induction k with
  | zero =>
    intro v1 v2 v3 v4 v5 σ res hf
    exact tn_no hf
  | succ k ih =>
    intro v1 v2 v3 v4 v5 σ res hf H locs hP hS ls hl kk
    replace hf : ms_R_findWay_38 (ml_R_findWay_38 k) v1 v2 v3 v4 v5 σ = some res := hf
    unfold ms_R_findWay_38 at hf
    refine lv_iload hx hb d_R_findWay_38 (lv_at hl 5 rfl) ?_
    refine lv_aload_n hx hb d_R_findWay_40 rfl (lv_at hl 0 rfl) ?_
    refine va_get (ci := 8) (v := .int (σ.1 3)) (C := R_R) (T := F_R) (N := 32) hx hb ht iw_R hown hK hP 0 rfl rfl 3 (by decide) (ht _ wd_680) (fun _ h9 => h9) rfl d_R_findWay_41 ?_
    refine lv_icmp_ge (tgt := 167) hx hb d_R_findWay_44 (by decide) (fun hc => ?_) (fun hc => ?_)
    · replace hf := ti_pos hc hf
      obtain rfl := ts_of hf
      exact kk _ _ hP hS _ (lv_sub hl [0, 1, 2, 3, 4, 5] rfl)
    · replace hf := ti_neg hc hf
      refine lv_iload hx hb d_R_findWay_47 (lv_at hl 4 rfl) ?_
      refine lv_iconst (v := ((-1) : Int32)) hx hb d_R_findWay_49 (by decide) ?_
      refine lv_icmp_ne (tgt := 167) hx hb d_R_findWay_50 (by decide) (fun hc => ?_) (fun hc => ?_)
      · replace hf := ti_neg hc hf
        obtain rfl := ts_of hf
        exact kk _ _ hP hS _ (lv_sub hl [0, 1, 2, 3, 4, 5] rfl)
      · replace hf := ti_pos hc hf
        refine lv_aload_n hx hb d_R_findWay_53 rfl (lv_at hl 0 rfl) ?_
        refine va_get (ci := 8) (v := .ref (ad 5)) (C := R_R) (T := F_R) (N := 32) hx hb ht iw_R hown hK hP 0 rfl rfl 8 (by decide) (ht _ wd_685) (fun _ h9 => h9) rfl d_R_findWay_54 ?_
        refine lv_iload hx hb d_R_findWay_57 (lv_at hl 5 rfl) ?_
        obtain ⟨hi3, hf⟩ := tg_of hf
        refine va_iald (f := σ.2.1 4) hx hb hK hP 5 4 rfl rfl hi3 d_R_findWay_59 ?_
        refine lv_istore (lv' := [(6, .int (σ.2.1 4 v5.toNatClampNeg)), (0, .ref (ad 0)), (1, .int v1), (2, .int v2), (3, .int v3), (4, .int v4), (5, .int v5)]) hx hb d_R_findWay_60 hl (by decide) rfl (fun ls hl => ?_)
        refine lv_aload_n hx hb d_R_findWay_62 rfl (lv_at hl 1 rfl) ?_
        refine va_get (ci := 8) (v := .ref (ad 4)) (C := R_R) (T := F_R) (N := 32) hx hb ht iw_R hown hK hP 0 rfl rfl 7 (by decide) (ht _ wd_684) (fun _ h9 => h9) rfl d_R_findWay_63 ?_
        refine lv_iload hx hb d_R_findWay_66 (lv_at hl 6 rfl) ?_
        obtain ⟨hi4, hf⟩ := tg_of hf
        refine va_iald (f := σ.2.1 3) hx hb hK hP 4 3 rfl rfl hi4 d_R_findWay_68 ?_
        refine lv_iload_n hx hb d_R_findWay_69 rfl (lv_at hl 4 rfl) ?_
        refine lv_icmp_ne (tgt := 101) hx hb d_R_findWay_70 (by decide) (fun hc => ?_) (fun hc => ?_)
        · replace hf := ti_neg hc hf
          refine lv_iconst (v := (0 : Int32)) hx hb d_R_findWay_101 (by decide) ?_
          refine lv_istore (lv' := [(7, .int (0 : Int32)), (6, .int (σ.2.1 4 v5.toNatClampNeg)), (0, .ref (ad 0)), (1, .int v1), (2, .int v2), (3, .int v3), (4, .int v4), (5, .int v5)]) hx hb d_R_findWay_102 hl (by decide) rfl (fun ls hl => ?_)
          refine lv_iload hx hb d_R_findWay_104 (lv_at hl 0 rfl) ?_
          refine lv_if_eq (tgt := 157) hx hb d_R_findWay_106 (by decide) (fun hc => ?_) (fun hc => ?_)
          · replace hf := ti_pos hc hf
            refine lv_iload hx hb d_R_findWay_157 (lv_at hl 6 rfl) ?_
            refine lv_istore (lv' := [(4, .int v4), (7, .int (0 : Int32)), (6, .int (σ.2.1 4 v5.toNatClampNeg)), (0, .ref (ad 0)), (1, .int v1), (2, .int v2), (3, .int v3), (5, .int v5)]) hx hb d_R_findWay_159 hl (by decide) rfl (fun ls hl => ?_)
            refine lv_iinc (v := (v5 + (1 : Int32))) (lv' := [(5, .int (v5 + (1 : Int32))), (4, .int v4), (7, .int (0 : Int32)), (6, .int (σ.2.1 4 v5.toNatClampNeg)), (0, .ref (ad 0)), (1, .int v1), (2, .int v2), (3, .int v3)]) hx hb d_R_findWay_161 hl (k := 7) rfl rfl (by decide) rfl (fun ls hl => ?_)
            refine lv_goto (tgt := 38) hx hb d_R_findWay_164 (by decide) ?_
            exact ih _ _ _ _ _ _ _ hf _ _ hP hS _ (lv_sub hl [4, 5, 6, 7, 1, 0] rfl) kk
          · replace hf := ti_neg hc hf
            refine lv_aload_n hx hb d_R_findWay_109 rfl (lv_at hl 2 rfl) ?_
            refine va_get (ci := 8) (v := .ref (ad 23)) (C := R_R) (T := F_R) (N := 32) hx hb ht iw_R hown hK hP 0 rfl rfl 28 (by decide) (ht _ wd_705) (fun _ h9 => h9) rfl d_R_findWay_110 ?_
            refine lv_iload hx hb d_R_findWay_113 (lv_at hl 1 rfl) ?_
            obtain ⟨hi5, hf⟩ := tg_of hf
            refine va_lald (f := σ.2.2 4) hx hb hK hP 23 22 rfl rfl hi5 d_R_findWay_115 ?_
            refine lv_aload_n hx hb d_R_findWay_116 rfl (lv_at hl 2 rfl) ?_
            refine va_get (ci := 8) (v := .ref (ad 22)) (C := R_R) (T := F_R) (N := 32) hx hb ht iw_R hown hK hP 0 rfl rfl 27 (by decide) (ht _ wd_704) (fun _ h9 => h9) rfl d_R_findWay_117 ?_
            refine lv_iload hx hb d_R_findWay_120 (lv_at hl 7 rfl) ?_
            obtain ⟨hi6, hf⟩ := tg_of hf
            refine va_lald (f := σ.2.2 3) hx hb hK hP 22 21 rfl rfl hi6 d_R_findWay_122 ?_
            refine lv_ladd hx hb d_R_findWay_123 ?_
            refine lv_aload_n hx hb d_R_findWay_124 rfl (lv_at hl 2 rfl) ?_
            refine va_get (ci := 8) (v := .ref (ad 23)) (C := R_R) (T := F_R) (N := 32) hx hb ht iw_R hown hK hP 0 rfl rfl 28 (by decide) (ht _ wd_705) (fun _ h9 => h9) rfl d_R_findWay_125 ?_
            refine lv_iload_n hx hb d_R_findWay_128 rfl (lv_at hl 5 rfl) ?_
            obtain ⟨hi7, hf⟩ := tg_of hf
            refine va_lald (f := σ.2.2 4) hx hb hK hP 23 22 rfl rfl hi7 d_R_findWay_129 ?_
            refine W.lcmp hx hb d_R_findWay_130 ?_
            refine lv_if_ne (tgt := 157) hx hb d_R_findWay_131 (by decide) (fun hc => ?_) (fun hc => ?_)
            · replace hf := ti_neg hc hf
              refine lv_iload hx hb d_R_findWay_157 (lv_at hl 6 rfl) ?_
              refine lv_istore (lv' := [(4, .int v4), (7, .int (0 : Int32)), (6, .int (σ.2.1 4 v5.toNatClampNeg)), (0, .ref (ad 0)), (1, .int v1), (2, .int v2), (3, .int v3), (5, .int v5)]) hx hb d_R_findWay_159 hl (by decide) rfl (fun ls hl => ?_)
              refine lv_iinc (v := (v5 + (1 : Int32))) (lv' := [(5, .int (v5 + (1 : Int32))), (4, .int v4), (7, .int (0 : Int32)), (6, .int (σ.2.1 4 v5.toNatClampNeg)), (0, .ref (ad 0)), (1, .int v1), (2, .int v2), (3, .int v3)]) hx hb d_R_findWay_161 hl (k := 7) rfl rfl (by decide) rfl (fun ls hl => ?_)
              refine lv_goto (tgt := 38) hx hb d_R_findWay_164 (by decide) ?_
              exact ih _ _ _ _ _ _ _ hf _ _ hP hS _ (lv_sub hl [4, 5, 6, 7, 1, 0] rfl) kk
            · replace hf := ti_pos hc hf
              refine lv_aload_n hx hb d_R_findWay_134 rfl (lv_at hl 2 rfl) ?_
              refine va_get (ci := 8) (v := .ref (ad 24)) (C := R_R) (T := F_R) (N := 32) hx hb ht iw_R hown hK hP 0 rfl rfl 29 (by decide) (ht _ wd_706) (fun _ h9 => h9) rfl d_R_findWay_135 ?_
              refine lv_iload hx hb d_R_findWay_138 (lv_at hl 1 rfl) ?_
              obtain ⟨hi8, hf⟩ := tg_of hf
              refine va_iald (f := σ.2.1 18) hx hb hK hP 24 23 rfl rfl hi8 d_R_findWay_140 ?_
              refine lv_iconst (v := (1 : Int32)) hx hb d_R_findWay_141 (by decide) ?_
              refine lv_iadd hx hb d_R_findWay_142 ?_
              refine lv_aload_n hx hb d_R_findWay_143 rfl (lv_at hl 2 rfl) ?_
              refine va_get (ci := 8) (v := .ref (ad 24)) (C := R_R) (T := F_R) (N := 32) hx hb ht iw_R hown hK hP 0 rfl rfl 29 (by decide) (ht _ wd_706) (fun _ h9 => h9) rfl d_R_findWay_144 ?_
              refine lv_iload_n hx hb d_R_findWay_147 rfl (lv_at hl 5 rfl) ?_
              obtain ⟨hi9, hf⟩ := tg_of hf
              refine va_iald (f := σ.2.1 18) hx hb hK hP 24 23 rfl rfl hi9 d_R_findWay_148 ?_
              refine lv_icmp_ne (tgt := 157) hx hb d_R_findWay_149 (by decide) (fun hc => ?_) (fun hc => ?_)
              · replace hf := ti_neg hc hf
                refine lv_iload hx hb d_R_findWay_157 (lv_at hl 6 rfl) ?_
                refine lv_istore (lv' := [(4, .int v4), (7, .int (0 : Int32)), (6, .int (σ.2.1 4 v5.toNatClampNeg)), (0, .ref (ad 0)), (1, .int v1), (2, .int v2), (3, .int v3), (5, .int v5)]) hx hb d_R_findWay_159 hl (by decide) rfl (fun ls hl => ?_)
                refine lv_iinc (v := (v5 + (1 : Int32))) (lv' := [(5, .int (v5 + (1 : Int32))), (4, .int v4), (7, .int (0 : Int32)), (6, .int (σ.2.1 4 v5.toNatClampNeg)), (0, .ref (ad 0)), (1, .int v1), (2, .int v2), (3, .int v3)]) hx hb d_R_findWay_161 hl (k := 7) rfl rfl (by decide) rfl (fun ls hl => ?_)
                refine lv_goto (tgt := 38) hx hb d_R_findWay_164 (by decide) ?_
                exact ih _ _ _ _ _ _ _ hf _ _ hP hS _ (lv_sub hl [4, 5, 6, 7, 1, 0] rfl) kk
              · replace hf := ti_pos hc hf
                refine lv_iload hx hb d_R_findWay_152 (lv_at hl 7 rfl) ?_
                refine lv_goto (tgt := 159) hx hb d_R_findWay_154 (by decide) ?_
                refine lv_istore (lv' := [(4, .int v5), (7, .int (0 : Int32)), (6, .int (σ.2.1 4 v5.toNatClampNeg)), (0, .ref (ad 0)), (1, .int v1), (2, .int v2), (3, .int v3), (5, .int v5)]) hx hb d_R_findWay_159 hl (by decide) rfl (fun ls hl => ?_)
                refine lv_iinc (v := (v5 + (1 : Int32))) (lv' := [(5, .int (v5 + (1 : Int32))), (4, .int v5), (7, .int (0 : Int32)), (6, .int (σ.2.1 4 v5.toNatClampNeg)), (0, .ref (ad 0)), (1, .int v1), (2, .int v2), (3, .int v3)]) hx hb d_R_findWay_161 hl (k := 7) rfl rfl (by decide) rfl (fun ls hl => ?_)
                refine lv_goto (tgt := 38) hx hb d_R_findWay_164 (by decide) ?_
                exact ih _ _ _ _ _ _ _ hf _ _ hP hS _ (lv_sub hl [4, 5, 6, 7, 1, 0] rfl) kk
        · replace hf := ti_pos hc hf
          refine lv_aload_n hx hb d_R_findWay_73 rfl (lv_at hl 1 rfl) ?_
          refine va_get (ci := 8) (v := .ref (ad 10)) (C := R_R) (T := F_R) (N := 32) hx hb ht iw_R hown hK hP 0 rfl rfl 13 (by decide) (ht _ wd_690) (fun _ h9 => h9) rfl d_R_findWay_74 ?_
          refine lv_iload hx hb d_R_findWay_77 (lv_at hl 6 rfl) ?_
          obtain ⟨hi10, hf⟩ := tg_of hf
          refine va_zald (f := σ.2.1 9) hx hb hK hP 10 9 rfl rfl hi10 d_R_findWay_79 ?_
          refine lv_if_ne (tgt := 101) hx hb d_R_findWay_80 (by decide) (fun hc => ?_) (fun hc => ?_)
          · replace hf := ti_neg hc hf
            refine lv_iconst (v := (0 : Int32)) hx hb d_R_findWay_101 (by decide) ?_
            refine lv_istore (lv' := [(7, .int (0 : Int32)), (6, .int (σ.2.1 4 v5.toNatClampNeg)), (0, .ref (ad 0)), (1, .int v1), (2, .int v2), (3, .int v3), (4, .int v4), (5, .int v5)]) hx hb d_R_findWay_102 hl (by decide) rfl (fun ls hl => ?_)
            refine lv_iload hx hb d_R_findWay_104 (lv_at hl 0 rfl) ?_
            refine lv_if_eq (tgt := 157) hx hb d_R_findWay_106 (by decide) (fun hc => ?_) (fun hc => ?_)
            · replace hf := ti_pos hc hf
              refine lv_iload hx hb d_R_findWay_157 (lv_at hl 6 rfl) ?_
              refine lv_istore (lv' := [(4, .int v4), (7, .int (0 : Int32)), (6, .int (σ.2.1 4 v5.toNatClampNeg)), (0, .ref (ad 0)), (1, .int v1), (2, .int v2), (3, .int v3), (5, .int v5)]) hx hb d_R_findWay_159 hl (by decide) rfl (fun ls hl => ?_)
              refine lv_iinc (v := (v5 + (1 : Int32))) (lv' := [(5, .int (v5 + (1 : Int32))), (4, .int v4), (7, .int (0 : Int32)), (6, .int (σ.2.1 4 v5.toNatClampNeg)), (0, .ref (ad 0)), (1, .int v1), (2, .int v2), (3, .int v3)]) hx hb d_R_findWay_161 hl (k := 7) rfl rfl (by decide) rfl (fun ls hl => ?_)
              refine lv_goto (tgt := 38) hx hb d_R_findWay_164 (by decide) ?_
              exact ih _ _ _ _ _ _ _ hf _ _ hP hS _ (lv_sub hl [4, 5, 6, 7, 1, 0] rfl) kk
            · replace hf := ti_neg hc hf
              refine lv_aload_n hx hb d_R_findWay_109 rfl (lv_at hl 2 rfl) ?_
              refine va_get (ci := 8) (v := .ref (ad 23)) (C := R_R) (T := F_R) (N := 32) hx hb ht iw_R hown hK hP 0 rfl rfl 28 (by decide) (ht _ wd_705) (fun _ h9 => h9) rfl d_R_findWay_110 ?_
              refine lv_iload hx hb d_R_findWay_113 (lv_at hl 1 rfl) ?_
              obtain ⟨hi11, hf⟩ := tg_of hf
              refine va_lald (f := σ.2.2 4) hx hb hK hP 23 22 rfl rfl hi11 d_R_findWay_115 ?_
              refine lv_aload_n hx hb d_R_findWay_116 rfl (lv_at hl 2 rfl) ?_
              refine va_get (ci := 8) (v := .ref (ad 22)) (C := R_R) (T := F_R) (N := 32) hx hb ht iw_R hown hK hP 0 rfl rfl 27 (by decide) (ht _ wd_704) (fun _ h9 => h9) rfl d_R_findWay_117 ?_
              refine lv_iload hx hb d_R_findWay_120 (lv_at hl 7 rfl) ?_
              obtain ⟨hi12, hf⟩ := tg_of hf
              refine va_lald (f := σ.2.2 3) hx hb hK hP 22 21 rfl rfl hi12 d_R_findWay_122 ?_
              refine lv_ladd hx hb d_R_findWay_123 ?_
              refine lv_aload_n hx hb d_R_findWay_124 rfl (lv_at hl 2 rfl) ?_
              refine va_get (ci := 8) (v := .ref (ad 23)) (C := R_R) (T := F_R) (N := 32) hx hb ht iw_R hown hK hP 0 rfl rfl 28 (by decide) (ht _ wd_705) (fun _ h9 => h9) rfl d_R_findWay_125 ?_
              refine lv_iload_n hx hb d_R_findWay_128 rfl (lv_at hl 5 rfl) ?_
              obtain ⟨hi13, hf⟩ := tg_of hf
              refine va_lald (f := σ.2.2 4) hx hb hK hP 23 22 rfl rfl hi13 d_R_findWay_129 ?_
              refine W.lcmp hx hb d_R_findWay_130 ?_
              refine lv_if_ne (tgt := 157) hx hb d_R_findWay_131 (by decide) (fun hc => ?_) (fun hc => ?_)
              · replace hf := ti_neg hc hf
                refine lv_iload hx hb d_R_findWay_157 (lv_at hl 6 rfl) ?_
                refine lv_istore (lv' := [(4, .int v4), (7, .int (0 : Int32)), (6, .int (σ.2.1 4 v5.toNatClampNeg)), (0, .ref (ad 0)), (1, .int v1), (2, .int v2), (3, .int v3), (5, .int v5)]) hx hb d_R_findWay_159 hl (by decide) rfl (fun ls hl => ?_)
                refine lv_iinc (v := (v5 + (1 : Int32))) (lv' := [(5, .int (v5 + (1 : Int32))), (4, .int v4), (7, .int (0 : Int32)), (6, .int (σ.2.1 4 v5.toNatClampNeg)), (0, .ref (ad 0)), (1, .int v1), (2, .int v2), (3, .int v3)]) hx hb d_R_findWay_161 hl (k := 7) rfl rfl (by decide) rfl (fun ls hl => ?_)
                refine lv_goto (tgt := 38) hx hb d_R_findWay_164 (by decide) ?_
                exact ih _ _ _ _ _ _ _ hf _ _ hP hS _ (lv_sub hl [4, 5, 6, 7, 1, 0] rfl) kk
              · replace hf := ti_pos hc hf
                refine lv_aload_n hx hb d_R_findWay_134 rfl (lv_at hl 2 rfl) ?_
                refine va_get (ci := 8) (v := .ref (ad 24)) (C := R_R) (T := F_R) (N := 32) hx hb ht iw_R hown hK hP 0 rfl rfl 29 (by decide) (ht _ wd_706) (fun _ h9 => h9) rfl d_R_findWay_135 ?_
                refine lv_iload hx hb d_R_findWay_138 (lv_at hl 1 rfl) ?_
                obtain ⟨hi14, hf⟩ := tg_of hf
                refine va_iald (f := σ.2.1 18) hx hb hK hP 24 23 rfl rfl hi14 d_R_findWay_140 ?_
                refine lv_iconst (v := (1 : Int32)) hx hb d_R_findWay_141 (by decide) ?_
                refine lv_iadd hx hb d_R_findWay_142 ?_
                refine lv_aload_n hx hb d_R_findWay_143 rfl (lv_at hl 2 rfl) ?_
                refine va_get (ci := 8) (v := .ref (ad 24)) (C := R_R) (T := F_R) (N := 32) hx hb ht iw_R hown hK hP 0 rfl rfl 29 (by decide) (ht _ wd_706) (fun _ h9 => h9) rfl d_R_findWay_144 ?_
                refine lv_iload_n hx hb d_R_findWay_147 rfl (lv_at hl 5 rfl) ?_
                obtain ⟨hi15, hf⟩ := tg_of hf
                refine va_iald (f := σ.2.1 18) hx hb hK hP 24 23 rfl rfl hi15 d_R_findWay_148 ?_
                refine lv_icmp_ne (tgt := 157) hx hb d_R_findWay_149 (by decide) (fun hc => ?_) (fun hc => ?_)
                · replace hf := ti_neg hc hf
                  refine lv_iload hx hb d_R_findWay_157 (lv_at hl 6 rfl) ?_
                  refine lv_istore (lv' := [(4, .int v4), (7, .int (0 : Int32)), (6, .int (σ.2.1 4 v5.toNatClampNeg)), (0, .ref (ad 0)), (1, .int v1), (2, .int v2), (3, .int v3), (5, .int v5)]) hx hb d_R_findWay_159 hl (by decide) rfl (fun ls hl => ?_)
                  refine lv_iinc (v := (v5 + (1 : Int32))) (lv' := [(5, .int (v5 + (1 : Int32))), (4, .int v4), (7, .int (0 : Int32)), (6, .int (σ.2.1 4 v5.toNatClampNeg)), (0, .ref (ad 0)), (1, .int v1), (2, .int v2), (3, .int v3)]) hx hb d_R_findWay_161 hl (k := 7) rfl rfl (by decide) rfl (fun ls hl => ?_)
                  refine lv_goto (tgt := 38) hx hb d_R_findWay_164 (by decide) ?_
                  exact ih _ _ _ _ _ _ _ hf _ _ hP hS _ (lv_sub hl [4, 5, 6, 7, 1, 0] rfl) kk
                · replace hf := ti_pos hc hf
                  refine lv_iload hx hb d_R_findWay_152 (lv_at hl 7 rfl) ?_
                  refine lv_goto (tgt := 159) hx hb d_R_findWay_154 (by decide) ?_
                  refine lv_istore (lv' := [(4, .int v5), (7, .int (0 : Int32)), (6, .int (σ.2.1 4 v5.toNatClampNeg)), (0, .ref (ad 0)), (1, .int v1), (2, .int v2), (3, .int v3), (5, .int v5)]) hx hb d_R_findWay_159 hl (by decide) rfl (fun ls hl => ?_)
                  refine lv_iinc (v := (v5 + (1 : Int32))) (lv' := [(5, .int (v5 + (1 : Int32))), (4, .int v5), (7, .int (0 : Int32)), (6, .int (σ.2.1 4 v5.toNatClampNeg)), (0, .ref (ad 0)), (1, .int v1), (2, .int v2), (3, .int v3)]) hx hb d_R_findWay_161 hl (k := 7) rfl rfl (by decide) rfl (fun ls hl => ?_)
                  refine lv_goto (tgt := 38) hx hb d_R_findWay_164 (by decide) ?_
                  exact ih _ _ _ _ _ _ _ hf _ _ hP hS _ (lv_sub hl [4, 5, 6, 7, 1, 0] rfl) kk
          · replace hf := ti_pos hc hf
            refine lv_aload_n hx hb d_R_findWay_83 rfl (lv_at hl 1 rfl) ?_
            refine va_get (ci := 8) (v := .ref (ad 23)) (C := R_R) (T := F_R) (N := 32) hx hb ht iw_R hown hK hP 0 rfl rfl 28 (by decide) (ht _ wd_705) (fun _ h9 => h9) rfl d_R_findWay_84 ?_
            refine lv_iload hx hb d_R_findWay_87 (lv_at hl 0 rfl) ?_
            obtain ⟨hi16, hf⟩ := tg_of hf
            refine va_lald (f := σ.2.2 4) hx hb hK hP 23 22 rfl rfl hi16 d_R_findWay_89 ?_
            refine lv_ldc2 (v := (1000000000000 : Int64)) hx hb hown (ht _ wd_901) d_R_findWay_90 ?_
            refine W.lcmp hx hb d_R_findWay_93 ?_
            refine lv_if_eq (tgt := 101) hx hb d_R_findWay_94 (by decide) (fun hc => ?_) (fun hc => ?_)
            · replace hf := ti_pos hc hf
              refine lv_iconst (v := (0 : Int32)) hx hb d_R_findWay_101 (by decide) ?_
              refine lv_istore (lv' := [(7, .int (0 : Int32)), (6, .int (σ.2.1 4 v5.toNatClampNeg)), (0, .ref (ad 0)), (1, .int v1), (2, .int v2), (3, .int v3), (4, .int v4), (5, .int v5)]) hx hb d_R_findWay_102 hl (by decide) rfl (fun ls hl => ?_)
              refine lv_iload hx hb d_R_findWay_104 (lv_at hl 0 rfl) ?_
              refine lv_if_eq (tgt := 157) hx hb d_R_findWay_106 (by decide) (fun hc => ?_) (fun hc => ?_)
              · replace hf := ti_pos hc hf
                refine lv_iload hx hb d_R_findWay_157 (lv_at hl 6 rfl) ?_
                refine lv_istore (lv' := [(4, .int v4), (7, .int (0 : Int32)), (6, .int (σ.2.1 4 v5.toNatClampNeg)), (0, .ref (ad 0)), (1, .int v1), (2, .int v2), (3, .int v3), (5, .int v5)]) hx hb d_R_findWay_159 hl (by decide) rfl (fun ls hl => ?_)
                refine lv_iinc (v := (v5 + (1 : Int32))) (lv' := [(5, .int (v5 + (1 : Int32))), (4, .int v4), (7, .int (0 : Int32)), (6, .int (σ.2.1 4 v5.toNatClampNeg)), (0, .ref (ad 0)), (1, .int v1), (2, .int v2), (3, .int v3)]) hx hb d_R_findWay_161 hl (k := 7) rfl rfl (by decide) rfl (fun ls hl => ?_)
                refine lv_goto (tgt := 38) hx hb d_R_findWay_164 (by decide) ?_
                exact ih _ _ _ _ _ _ _ hf _ _ hP hS _ (lv_sub hl [4, 5, 6, 7, 1, 0] rfl) kk
              · replace hf := ti_neg hc hf
                refine lv_aload_n hx hb d_R_findWay_109 rfl (lv_at hl 2 rfl) ?_
                refine va_get (ci := 8) (v := .ref (ad 23)) (C := R_R) (T := F_R) (N := 32) hx hb ht iw_R hown hK hP 0 rfl rfl 28 (by decide) (ht _ wd_705) (fun _ h9 => h9) rfl d_R_findWay_110 ?_
                refine lv_iload hx hb d_R_findWay_113 (lv_at hl 1 rfl) ?_
                obtain ⟨hi17, hf⟩ := tg_of hf
                refine va_lald (f := σ.2.2 4) hx hb hK hP 23 22 rfl rfl hi17 d_R_findWay_115 ?_
                refine lv_aload_n hx hb d_R_findWay_116 rfl (lv_at hl 2 rfl) ?_
                refine va_get (ci := 8) (v := .ref (ad 22)) (C := R_R) (T := F_R) (N := 32) hx hb ht iw_R hown hK hP 0 rfl rfl 27 (by decide) (ht _ wd_704) (fun _ h9 => h9) rfl d_R_findWay_117 ?_
                refine lv_iload hx hb d_R_findWay_120 (lv_at hl 7 rfl) ?_
                obtain ⟨hi18, hf⟩ := tg_of hf
                refine va_lald (f := σ.2.2 3) hx hb hK hP 22 21 rfl rfl hi18 d_R_findWay_122 ?_
                refine lv_ladd hx hb d_R_findWay_123 ?_
                refine lv_aload_n hx hb d_R_findWay_124 rfl (lv_at hl 2 rfl) ?_
                refine va_get (ci := 8) (v := .ref (ad 23)) (C := R_R) (T := F_R) (N := 32) hx hb ht iw_R hown hK hP 0 rfl rfl 28 (by decide) (ht _ wd_705) (fun _ h9 => h9) rfl d_R_findWay_125 ?_
                refine lv_iload_n hx hb d_R_findWay_128 rfl (lv_at hl 5 rfl) ?_
                obtain ⟨hi19, hf⟩ := tg_of hf
                refine va_lald (f := σ.2.2 4) hx hb hK hP 23 22 rfl rfl hi19 d_R_findWay_129 ?_
                refine W.lcmp hx hb d_R_findWay_130 ?_
                refine lv_if_ne (tgt := 157) hx hb d_R_findWay_131 (by decide) (fun hc => ?_) (fun hc => ?_)
                · replace hf := ti_neg hc hf
                  refine lv_iload hx hb d_R_findWay_157 (lv_at hl 6 rfl) ?_
                  refine lv_istore (lv' := [(4, .int v4), (7, .int (0 : Int32)), (6, .int (σ.2.1 4 v5.toNatClampNeg)), (0, .ref (ad 0)), (1, .int v1), (2, .int v2), (3, .int v3), (5, .int v5)]) hx hb d_R_findWay_159 hl (by decide) rfl (fun ls hl => ?_)
                  refine lv_iinc (v := (v5 + (1 : Int32))) (lv' := [(5, .int (v5 + (1 : Int32))), (4, .int v4), (7, .int (0 : Int32)), (6, .int (σ.2.1 4 v5.toNatClampNeg)), (0, .ref (ad 0)), (1, .int v1), (2, .int v2), (3, .int v3)]) hx hb d_R_findWay_161 hl (k := 7) rfl rfl (by decide) rfl (fun ls hl => ?_)
                  refine lv_goto (tgt := 38) hx hb d_R_findWay_164 (by decide) ?_
                  exact ih _ _ _ _ _ _ _ hf _ _ hP hS _ (lv_sub hl [4, 5, 6, 7, 1, 0] rfl) kk
                · replace hf := ti_pos hc hf
                  refine lv_aload_n hx hb d_R_findWay_134 rfl (lv_at hl 2 rfl) ?_
                  refine va_get (ci := 8) (v := .ref (ad 24)) (C := R_R) (T := F_R) (N := 32) hx hb ht iw_R hown hK hP 0 rfl rfl 29 (by decide) (ht _ wd_706) (fun _ h9 => h9) rfl d_R_findWay_135 ?_
                  refine lv_iload hx hb d_R_findWay_138 (lv_at hl 1 rfl) ?_
                  obtain ⟨hi20, hf⟩ := tg_of hf
                  refine va_iald (f := σ.2.1 18) hx hb hK hP 24 23 rfl rfl hi20 d_R_findWay_140 ?_
                  refine lv_iconst (v := (1 : Int32)) hx hb d_R_findWay_141 (by decide) ?_
                  refine lv_iadd hx hb d_R_findWay_142 ?_
                  refine lv_aload_n hx hb d_R_findWay_143 rfl (lv_at hl 2 rfl) ?_
                  refine va_get (ci := 8) (v := .ref (ad 24)) (C := R_R) (T := F_R) (N := 32) hx hb ht iw_R hown hK hP 0 rfl rfl 29 (by decide) (ht _ wd_706) (fun _ h9 => h9) rfl d_R_findWay_144 ?_
                  refine lv_iload_n hx hb d_R_findWay_147 rfl (lv_at hl 5 rfl) ?_
                  obtain ⟨hi21, hf⟩ := tg_of hf
                  refine va_iald (f := σ.2.1 18) hx hb hK hP 24 23 rfl rfl hi21 d_R_findWay_148 ?_
                  refine lv_icmp_ne (tgt := 157) hx hb d_R_findWay_149 (by decide) (fun hc => ?_) (fun hc => ?_)
                  · replace hf := ti_neg hc hf
                    refine lv_iload hx hb d_R_findWay_157 (lv_at hl 6 rfl) ?_
                    refine lv_istore (lv' := [(4, .int v4), (7, .int (0 : Int32)), (6, .int (σ.2.1 4 v5.toNatClampNeg)), (0, .ref (ad 0)), (1, .int v1), (2, .int v2), (3, .int v3), (5, .int v5)]) hx hb d_R_findWay_159 hl (by decide) rfl (fun ls hl => ?_)
                    refine lv_iinc (v := (v5 + (1 : Int32))) (lv' := [(5, .int (v5 + (1 : Int32))), (4, .int v4), (7, .int (0 : Int32)), (6, .int (σ.2.1 4 v5.toNatClampNeg)), (0, .ref (ad 0)), (1, .int v1), (2, .int v2), (3, .int v3)]) hx hb d_R_findWay_161 hl (k := 7) rfl rfl (by decide) rfl (fun ls hl => ?_)
                    refine lv_goto (tgt := 38) hx hb d_R_findWay_164 (by decide) ?_
                    exact ih _ _ _ _ _ _ _ hf _ _ hP hS _ (lv_sub hl [4, 5, 6, 7, 1, 0] rfl) kk
                  · replace hf := ti_pos hc hf
                    refine lv_iload hx hb d_R_findWay_152 (lv_at hl 7 rfl) ?_
                    refine lv_goto (tgt := 159) hx hb d_R_findWay_154 (by decide) ?_
                    refine lv_istore (lv' := [(4, .int v5), (7, .int (0 : Int32)), (6, .int (σ.2.1 4 v5.toNatClampNeg)), (0, .ref (ad 0)), (1, .int v1), (2, .int v2), (3, .int v3), (5, .int v5)]) hx hb d_R_findWay_159 hl (by decide) rfl (fun ls hl => ?_)
                    refine lv_iinc (v := (v5 + (1 : Int32))) (lv' := [(5, .int (v5 + (1 : Int32))), (4, .int v5), (7, .int (0 : Int32)), (6, .int (σ.2.1 4 v5.toNatClampNeg)), (0, .ref (ad 0)), (1, .int v1), (2, .int v2), (3, .int v3)]) hx hb d_R_findWay_161 hl (k := 7) rfl rfl (by decide) rfl (fun ls hl => ?_)
                    refine lv_goto (tgt := 38) hx hb d_R_findWay_164 (by decide) ?_
                    exact ih _ _ _ _ _ _ _ hf _ _ hP hS _ (lv_sub hl [4, 5, 6, 7, 1, 0] rfl) kk
            · replace hf := ti_neg hc hf
              refine lv_iconst (v := (1 : Int32)) hx hb d_R_findWay_97 (by decide) ?_
              refine lv_goto (tgt := 102) hx hb d_R_findWay_98 (by decide) ?_
              refine lv_istore (lv' := [(7, .int (1 : Int32)), (6, .int (σ.2.1 4 v5.toNatClampNeg)), (0, .ref (ad 0)), (1, .int v1), (2, .int v2), (3, .int v3), (4, .int v4), (5, .int v5)]) hx hb d_R_findWay_102 hl (by decide) rfl (fun ls hl => ?_)
              refine lv_iload hx hb d_R_findWay_104 (lv_at hl 0 rfl) ?_
              refine lv_if_eq (tgt := 157) hx hb d_R_findWay_106 (by decide) (fun hc => ?_) (fun hc => ?_)
              · replace hf := ti_pos hc hf
                refine lv_iload hx hb d_R_findWay_157 (lv_at hl 6 rfl) ?_
                refine lv_istore (lv' := [(4, .int v4), (7, .int (1 : Int32)), (6, .int (σ.2.1 4 v5.toNatClampNeg)), (0, .ref (ad 0)), (1, .int v1), (2, .int v2), (3, .int v3), (5, .int v5)]) hx hb d_R_findWay_159 hl (by decide) rfl (fun ls hl => ?_)
                refine lv_iinc (v := (v5 + (1 : Int32))) (lv' := [(5, .int (v5 + (1 : Int32))), (4, .int v4), (7, .int (1 : Int32)), (6, .int (σ.2.1 4 v5.toNatClampNeg)), (0, .ref (ad 0)), (1, .int v1), (2, .int v2), (3, .int v3)]) hx hb d_R_findWay_161 hl (k := 7) rfl rfl (by decide) rfl (fun ls hl => ?_)
                refine lv_goto (tgt := 38) hx hb d_R_findWay_164 (by decide) ?_
                exact ih _ _ _ _ _ _ _ hf _ _ hP hS _ (lv_sub hl [4, 5, 6, 7, 1, 0] rfl) kk
              · replace hf := ti_neg hc hf
                refine lv_aload_n hx hb d_R_findWay_109 rfl (lv_at hl 2 rfl) ?_
                refine va_get (ci := 8) (v := .ref (ad 23)) (C := R_R) (T := F_R) (N := 32) hx hb ht iw_R hown hK hP 0 rfl rfl 28 (by decide) (ht _ wd_705) (fun _ h9 => h9) rfl d_R_findWay_110 ?_
                refine lv_iload hx hb d_R_findWay_113 (lv_at hl 1 rfl) ?_
                obtain ⟨hi22, hf⟩ := tg_of hf
                refine va_lald (f := σ.2.2 4) hx hb hK hP 23 22 rfl rfl hi22 d_R_findWay_115 ?_
                refine lv_aload_n hx hb d_R_findWay_116 rfl (lv_at hl 2 rfl) ?_
                refine va_get (ci := 8) (v := .ref (ad 22)) (C := R_R) (T := F_R) (N := 32) hx hb ht iw_R hown hK hP 0 rfl rfl 27 (by decide) (ht _ wd_704) (fun _ h9 => h9) rfl d_R_findWay_117 ?_
                refine lv_iload hx hb d_R_findWay_120 (lv_at hl 7 rfl) ?_
                obtain ⟨hi23, hf⟩ := tg_of hf
                refine va_lald (f := σ.2.2 3) hx hb hK hP 22 21 rfl rfl hi23 d_R_findWay_122 ?_
                refine lv_ladd hx hb d_R_findWay_123 ?_
                refine lv_aload_n hx hb d_R_findWay_124 rfl (lv_at hl 2 rfl) ?_
                refine va_get (ci := 8) (v := .ref (ad 23)) (C := R_R) (T := F_R) (N := 32) hx hb ht iw_R hown hK hP 0 rfl rfl 28 (by decide) (ht _ wd_705) (fun _ h9 => h9) rfl d_R_findWay_125 ?_
                refine lv_iload_n hx hb d_R_findWay_128 rfl (lv_at hl 5 rfl) ?_
                obtain ⟨hi24, hf⟩ := tg_of hf
                refine va_lald (f := σ.2.2 4) hx hb hK hP 23 22 rfl rfl hi24 d_R_findWay_129 ?_
                refine W.lcmp hx hb d_R_findWay_130 ?_
                refine lv_if_ne (tgt := 157) hx hb d_R_findWay_131 (by decide) (fun hc => ?_) (fun hc => ?_)
                · replace hf := ti_neg hc hf
                  refine lv_iload hx hb d_R_findWay_157 (lv_at hl 6 rfl) ?_
                  refine lv_istore (lv' := [(4, .int v4), (7, .int (1 : Int32)), (6, .int (σ.2.1 4 v5.toNatClampNeg)), (0, .ref (ad 0)), (1, .int v1), (2, .int v2), (3, .int v3), (5, .int v5)]) hx hb d_R_findWay_159 hl (by decide) rfl (fun ls hl => ?_)
                  refine lv_iinc (v := (v5 + (1 : Int32))) (lv' := [(5, .int (v5 + (1 : Int32))), (4, .int v4), (7, .int (1 : Int32)), (6, .int (σ.2.1 4 v5.toNatClampNeg)), (0, .ref (ad 0)), (1, .int v1), (2, .int v2), (3, .int v3)]) hx hb d_R_findWay_161 hl (k := 7) rfl rfl (by decide) rfl (fun ls hl => ?_)
                  refine lv_goto (tgt := 38) hx hb d_R_findWay_164 (by decide) ?_
                  exact ih _ _ _ _ _ _ _ hf _ _ hP hS _ (lv_sub hl [4, 5, 6, 7, 1, 0] rfl) kk
                · replace hf := ti_pos hc hf
                  refine lv_aload_n hx hb d_R_findWay_134 rfl (lv_at hl 2 rfl) ?_
                  refine va_get (ci := 8) (v := .ref (ad 24)) (C := R_R) (T := F_R) (N := 32) hx hb ht iw_R hown hK hP 0 rfl rfl 29 (by decide) (ht _ wd_706) (fun _ h9 => h9) rfl d_R_findWay_135 ?_
                  refine lv_iload hx hb d_R_findWay_138 (lv_at hl 1 rfl) ?_
                  obtain ⟨hi25, hf⟩ := tg_of hf
                  refine va_iald (f := σ.2.1 18) hx hb hK hP 24 23 rfl rfl hi25 d_R_findWay_140 ?_
                  refine lv_iconst (v := (1 : Int32)) hx hb d_R_findWay_141 (by decide) ?_
                  refine lv_iadd hx hb d_R_findWay_142 ?_
                  refine lv_aload_n hx hb d_R_findWay_143 rfl (lv_at hl 2 rfl) ?_
                  refine va_get (ci := 8) (v := .ref (ad 24)) (C := R_R) (T := F_R) (N := 32) hx hb ht iw_R hown hK hP 0 rfl rfl 29 (by decide) (ht _ wd_706) (fun _ h9 => h9) rfl d_R_findWay_144 ?_
                  refine lv_iload_n hx hb d_R_findWay_147 rfl (lv_at hl 5 rfl) ?_
                  obtain ⟨hi26, hf⟩ := tg_of hf
                  refine va_iald (f := σ.2.1 18) hx hb hK hP 24 23 rfl rfl hi26 d_R_findWay_148 ?_
                  refine lv_icmp_ne (tgt := 157) hx hb d_R_findWay_149 (by decide) (fun hc => ?_) (fun hc => ?_)
                  · replace hf := ti_neg hc hf
                    refine lv_iload hx hb d_R_findWay_157 (lv_at hl 6 rfl) ?_
                    refine lv_istore (lv' := [(4, .int v4), (7, .int (1 : Int32)), (6, .int (σ.2.1 4 v5.toNatClampNeg)), (0, .ref (ad 0)), (1, .int v1), (2, .int v2), (3, .int v3), (5, .int v5)]) hx hb d_R_findWay_159 hl (by decide) rfl (fun ls hl => ?_)
                    refine lv_iinc (v := (v5 + (1 : Int32))) (lv' := [(5, .int (v5 + (1 : Int32))), (4, .int v4), (7, .int (1 : Int32)), (6, .int (σ.2.1 4 v5.toNatClampNeg)), (0, .ref (ad 0)), (1, .int v1), (2, .int v2), (3, .int v3)]) hx hb d_R_findWay_161 hl (k := 7) rfl rfl (by decide) rfl (fun ls hl => ?_)
                    refine lv_goto (tgt := 38) hx hb d_R_findWay_164 (by decide) ?_
                    exact ih _ _ _ _ _ _ _ hf _ _ hP hS _ (lv_sub hl [4, 5, 6, 7, 1, 0] rfl) kk
                  · replace hf := ti_pos hc hf
                    refine lv_iload hx hb d_R_findWay_152 (lv_at hl 7 rfl) ?_
                    refine lv_goto (tgt := 159) hx hb d_R_findWay_154 (by decide) ?_
                    refine lv_istore (lv' := [(4, .int v5), (7, .int (1 : Int32)), (6, .int (σ.2.1 4 v5.toNatClampNeg)), (0, .ref (ad 0)), (1, .int v1), (2, .int v2), (3, .int v3), (5, .int v5)]) hx hb d_R_findWay_159 hl (by decide) rfl (fun ls hl => ?_)
                    refine lv_iinc (v := (v5 + (1 : Int32))) (lv' := [(5, .int (v5 + (1 : Int32))), (4, .int v5), (7, .int (1 : Int32)), (6, .int (σ.2.1 4 v5.toNatClampNeg)), (0, .ref (ad 0)), (1, .int v1), (2, .int v2), (3, .int v3)]) hx hb d_R_findWay_161 hl (k := 7) rfl rfl (by decide) rfl (fun ls hl => ?_)
                    refine lv_goto (tgt := 38) hx hb d_R_findWay_164 (by decide) ?_
                    exact ih _ _ _ _ _ _ _ hf _ _ hP hS _ (lv_sub hl [4, 5, 6, 7, 1, 0] rfl) kk
set_option maxHeartbeats 4000000 in
set_option maxRecDepth 100000 in
theorem mw_R_findWay_27 {p : Program} {l : Launch} {e : Env} {s : State} {m : MethodId} {args : Array Value} {below : List Frame} {meth : Method} {c : Code} {D : va_G} {ad : Nat → Nat} {ta : Nat → ClassId} (CX : tC p s m args meth c b_R_findWay (some .boolean) 8 R_R D clS (tyR ta)) (hd : tD 26 ad) : ∀ (k : Nat) (v1 : Int32) (v2 : Int32) (v3 : Int32) (σ : tS) (res : (Int32 × tS)), ml_R_findWay_27 k v1 v2 v3 σ = some res → ∀ (H : Heap) (locs : List Loc), va_P D clS (cwR ad ta σ) H → va_S (tA 26 ad) s.heap H locs → ∀ (ls : Array Slot), lv_has ls 8 [(0, .ref (ad 0)), (1, .int v1), (2, .int v2), (3, .int v3)] → W p l e rm_R_findWay s m args below meth c H locs 0 0 (MQ below (tQ D clS (cwR ad ta res.2) (some (.int res.1)) (tA 26 ad)) args s 0 0 (tA 26 ad)) (F0 m 27 ls []) := by
  obtain ⟨hx, hb, hr, hml, hown, ht, hlocks, hK, hN⟩ := id CX
  intro k
  induction k with
  | zero =>
    intro v1 v2 v3 σ res hf
    exact tn_no hf
  | succ k ih =>
    intro v1 v2 v3 σ res hf H locs hP hS ls hl
    replace hf : ms_R_findWay_27 (ml_R_findWay_27 k) v1 v2 v3 σ = some res := hf
    unfold ms_R_findWay_27 at hf
    refine lv_iload_n hx hb d_R_findWay_27 rfl (lv_at hl 3 rfl) ?_
    refine lv_iload_n hx hb d_R_findWay_28 rfl (lv_at hl 2 rfl) ?_
    refine lv_icmp_eq (tgt := 199) hx hb d_R_findWay_29 (by decide) (fun hc => ?_) (fun hc => ?_)
    · replace hf := ti_pos hc hf
      refine lv_iconst (v := (1 : Int32)) hx hb d_R_findWay_199 (by decide) ?_
      obtain ⟨hb01, hf⟩ := tb_of hf
      obtain rfl := ts_of hf
      exact W.zret (v := (1 : Int32)) (ty := .boolean) hx hb hr (tb_nar hb01) (fun t ht hW => ⟨rfl, by rw [ht]; exact hP, hS.F ht⟩) hS.2.2 d_R_findWay_200
    · replace hf := ti_neg hc hf
      refine lv_iconst (v := ((-1) : Int32)) hx hb d_R_findWay_32 (by decide) ?_
      refine lv_istore (lv' := [(4, .int ((-1) : Int32)), (0, .ref (ad 0)), (1, .int v1), (2, .int v2), (3, .int v3)]) hx hb d_R_findWay_33 hl (by decide) rfl (fun ls hl => ?_)
      refine lv_iconst (v := (0 : Int32)) hx hb d_R_findWay_35 (by decide) ?_
      refine lv_istore (lv' := [(5, .int (0 : Int32)), (4, .int ((-1) : Int32)), (0, .ref (ad 0)), (1, .int v1), (2, .int v2), (3, .int v3)]) hx hb d_R_findWay_36 hl (by decide) rfl (fun ls hl => ?_)
      obtain ⟨e_27, hq27, hf⟩ := tb1_of hf
      refine mw_R_findWay_38 CX hd _ _ _ _ _ _ _ _ hq27 _ _ hP hS _ (lv_sub hl [2, 3, 4, 5, 1, 0] rfl) (fun H locs hP hS ls hl => ?_)
      refine lv_aload_n hx hb d_R_findWay_167 rfl (lv_at hl 0 rfl) ?_
      refine va_get (ci := 8) (v := .ref (ad 25)) (C := R_R) (T := F_R) (N := 32) hx hb ht iw_R hown hK hP 0 rfl rfl 30 (by decide) (ht _ wd_707) (fun _ h9 => h9) rfl d_R_findWay_168 ?_
      refine lv_aload_n hx hb d_R_findWay_171 rfl (lv_at hl 0 rfl) ?_
      refine va_get (ci := 8) (v := .int (e_27.2.2.2.2.2.1 6)) (C := R_R) (T := F_R) (N := 32) hx hb ht iw_R hown hK hP 0 rfl rfl 31 (by decide) (ht _ wd_708) (fun _ h9 => h9) rfl d_R_findWay_172 ?_
      refine lv_iload hx hb d_R_findWay_175 (lv_at hl 4 rfl) ?_
      obtain ⟨hi28, hf⟩ := tg_of hf
      refine va_iast (f := e_27.2.2.2.2.2.2.1 19) hx hb hK hP (cwR_D hd) hS 25 24 rfl rfl hi28 d_R_findWay_177 (fun H locs hP _ hS => ?_)
      replace hP : va_P D clS (cwR ad ta (tI e_27.2.2.2.2.2 19 ((e_27.2.2.2.2.2.1 6).toNatClampNeg) e_27.2.2.2.1)) H := hP
      refine lv_aload_n hx hb d_R_findWay_178 rfl (lv_at hl 0 rfl) ?_
      refine lv_dup hx hb d_R_findWay_179 rfl ?_
      refine va_get (ci := 8) (v := .int (e_27.2.2.2.2.2.1 6)) (C := R_R) (T := F_R) (N := 32) hx hb ht iw_R hown hK hP 0 rfl rfl 31 (by decide) (ht _ wd_708) (fun _ h9 => h9) rfl d_R_findWay_180 ?_
      refine lv_iconst (v := (1 : Int32)) hx hb d_R_findWay_183 (by decide) ?_
      refine lv_iadd hx hb d_R_findWay_184 ?_
      refine va_put (ci := 8) (v := .int ((e_27.2.2.2.2.2.1 6) + (1 : Int32))) (ty := .int) (C := R_R) (T := F_R) (N := 32) hx hb ht iw_R ft_R to_R nm_R hown hK hP (cwR_D hd) hS 0 rfl rfl 31 (by decide) (ht _ wd_708) (fun _ h9 => h9) rfl (by decide +kernel) rfl rfl (Nat.le_of_ble_eq_true rfl) d_R_findWay_185 (fun H locs hP _ hS => ?_)
      replace hP : va_P D clS (cwR ad ta (tF (tI e_27.2.2.2.2.2 19 ((e_27.2.2.2.2.2.1 6).toNatClampNeg) e_27.2.2.2.1) 6 ((e_27.2.2.2.2.2.1 6) + (1 : Int32)))) H := hP
      refine lv_aload_n hx hb d_R_findWay_188 rfl (lv_at hl 0 rfl) ?_
      refine va_get (ci := 8) (v := .ref (ad 5)) (C := R_R) (T := F_R) (N := 32) hx hb ht iw_R hown hK hP 0 rfl rfl 8 (by decide) (ht _ wd_685) (fun _ h9 => h9) rfl d_R_findWay_189 ?_
      refine lv_iload hx hb d_R_findWay_192 (lv_at hl 4 rfl) ?_
      obtain ⟨hi29, hf⟩ := tg_of hf
      refine va_iald (f := e_27.2.2.2.2.2.2.1 4) hx hb hK hP 5 4 rfl rfl hi29 d_R_findWay_194 ?_
      refine lv_istore_n (lv' := [(3, .int (e_27.2.2.2.2.2.2.1 4 e_27.2.2.2.1.toNatClampNeg)), (0, .ref (ad 0)), (1, .int e_27.1), (2, .int e_27.2.1), (4, .int e_27.2.2.2.1), (5, .int e_27.2.2.2.2.1)]) hx hb d_R_findWay_195 rfl hl (by decide) rfl (fun ls hl => ?_)
      refine lv_goto (tgt := 27) hx hb d_R_findWay_196 (by decide) ?_
      exact ih _ _ _ _ _ hf _ _ hP hS _ (lv_sub hl [1, 2, 3, 0] rfl)
set_option maxHeartbeats 4000000 in
set_option maxRecDepth 100000 in
theorem mc_R_findWay (l : Launch) {D : va_G} {ad : Nat → Nat} {ta : Nat → ClassId} (hd : tD 26 ad) {σ σ' : tS} {p0 : Int32} {p1 : Int32} {r : Int32} (hf : mf_R_findWay p0 p1 σ = some (r, σ')) : Met l y_R_findWay (.code y_R_findWay b_R_findWay 8 (some .boolean) :: tw) rm_R_findWay (tP D clS (tyR ta) (cwR ad ta σ) [.ref (ad 0), .int p0, .int p1]) (tQ D clS (cwR ad ta σ') (some (.int r)) (tA 26 ad)) 0 0 (tA 26 ad) := by
  refine Met.ofW (cc := b_R_findWay) (maxL := 8) (ret := (some .boolean)) (by decide) rfl ?_
  intro p e s m args below meth c s₁ B hml hv
  obtain ⟨rfl, hP, hK, hN⟩ := hv
  have hx := B.exec
  have hb := B.bytes
  have hr := B.returns
  have ht : ∀ w ∈ tw, w.before [.ref (ad 0), .int p0, .int p1].toArray s = true := fun w h => atoms_spec (ws := (.code y_R_findWay b_R_findWay 8 (some .boolean) :: tw)) B.pre w (List.mem_cons_of_mem _ h)
  have hown : s.vm.findClass R_R = some m.cls := findClass_of_methodNamed B.named
  have hlocks := B.notSynchronized
  have CX : tC p s m [.ref (ad 0), .int p0, .int p1].toArray meth c b_R_findWay (some .boolean) 8 R_R D clS (tyR ta) := ⟨hx, hb, hr, hml, hown, ht, hlocks, hK, hN⟩
  have hS : va_S (tA 26 ad) s.heap s.heap [] := va_S.rf
  have hl := lv_entry ([.ref (ad 0), .int p0, .int p1]) (n := 8) (Nat.le_of_ble_eq_true rfl)
  rw [lg_entry_eq]
  generalize (lg_sl ([.ref (ad 0), .int p0, .int p1]) ++ List.replicate (8 - (lg_sl ([.ref (ad 0), .int p0, .int p1])).length) Slot.unset).toArray = ls at hl ⊢
  replace hl : lv_has ls 8 [(0, .ref (ad 0)), (1, .int p0), (2, .int p1)] := hl
  unfold mf_R_findWay at hf
  refine lv_aload_n hx hb d_R_findWay_0 rfl (lv_at hl 0 rfl) ?_
  refine lv_iload_n hx hb d_R_findWay_1 rfl (lv_at hl 2 rfl) ?_
  obtain ⟨s_1, hq1, hf⟩ := tb1_of hf
  refine tr_callv (va_runV (C := R_R) (As := [.int p1]) (rest := []) ⟨hx, hb, hml, hown, ht⟩ (mc_R_findNear l hd hq1) ⟨(tw_cb (n := 1) ht wc_R_findNear wd_43 wd_897 ⟨rfl, rfl⟩ (by decide +kernel) ⟨(Nat.le_of_ble_eq_true rfl), (Nat.le_of_ble_eq_true rfl)⟩), ht _ wd_899, ht _ wd_30⟩ ⟨tP_blind, va_recv hK hP (ci := 8) (q0 := 0) rfl rfl, fun U hU hW => ⟨rfl, by rw [hU]; exact hP, va_K.moved hW.alike hK, tW_warm hW hN⟩⟩ rfl rfl hl.1 rfl (lv_room (Nat.le_of_ble_eq_true rfl)) d_R_findWay_2 ⟨Nat.zero_le _, Nat.zero_le _⟩) hS (fun _ h => h) (fun _ h => h) (fun H locs hP hS => ?_)
  refine lv_aload_n hx hb d_R_findWay_5 rfl (lv_at hl 0 rfl) ?_
  refine lv_iconst (v := (0 : Int32)) hx hb d_R_findWay_6 (by decide) ?_
  refine va_put (ci := 8) (v := .int (0 : Int32)) (ty := .int) (C := R_R) (T := F_R) (N := 32) hx hb ht iw_R ft_R to_R nm_R hown hK hP (cwR_D hd) hS 0 rfl rfl 31 (by decide) (ht _ wd_708) (fun _ h9 => h9) rfl (by decide +kernel) rfl rfl (Nat.le_of_ble_eq_true rfl) d_R_findWay_7 (fun H locs hP _ hS => ?_)
  replace hP : va_P D clS (cwR ad ta (tF s_1 6 (0 : Int32))) H := hP
  refine lv_aload_n hx hb d_R_findWay_10 rfl (lv_at hl 0 rfl) ?_
  refine va_get (ci := 8) (v := .ref (ad 23)) (C := R_R) (T := F_R) (N := 32) hx hb ht iw_R hown hK hP 0 rfl rfl 28 (by decide) (ht _ wd_705) (fun _ h9 => h9) rfl d_R_findWay_11 ?_
  refine lv_iload_n hx hb d_R_findWay_14 rfl (lv_at hl 1 rfl) ?_
  obtain ⟨hi2, hf⟩ := tg_of hf
  refine va_lald (f := s_1.2.2 4) hx hb hK hP 23 22 rfl rfl hi2 d_R_findWay_15 ?_
  refine lv_ldc2 (v := (1000000000000 : Int64)) hx hb hown (ht _ wd_901) d_R_findWay_16 ?_
  refine W.lcmp hx hb d_R_findWay_19 ?_
  refine lv_if_ne (tgt := 25) hx hb d_R_findWay_20 (by decide) (fun hc => ?_) (fun hc => ?_)
  · replace hf := ti_neg hc hf
    refine lv_iload_n hx hb d_R_findWay_25 rfl (lv_at hl 1 rfl) ?_
    refine lv_istore_n (lv' := [(3, .int p0), (0, .ref (ad 0)), (1, .int p0), (2, .int p1)]) hx hb d_R_findWay_26 rfl hl (by decide) rfl (fun ls hl => ?_)
    exact mw_R_findWay_27 CX hd _ _ _ _ _ _ hf _ _ hP hS _ (lv_sub hl [1, 2, 3, 0] rfl)
  · replace hf := ti_pos hc hf
    refine lv_iconst (v := (0 : Int32)) hx hb d_R_findWay_23 (by decide) ?_
    obtain ⟨hb01, hf⟩ := tb_of hf
    obtain ⟨rfl, rfl⟩ := tp_of hf
    exact W.zret (v := (0 : Int32)) (ty := .boolean) hx hb hr (tb_nar hb01) (fun t ht hW => ⟨rfl, by rw [ht]; exact hP, hS.F ht⟩) hS.2.2 d_R_findWay_24
