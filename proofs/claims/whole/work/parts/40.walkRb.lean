abbrev rm_R_isStreet : Room := { frames := 1, cells := 0, slots := 0, locals := 22 }
set_option maxHeartbeats 4000000 in
set_option maxRecDepth 100000 in
theorem mc_R_isStreet (l : Launch) {D : va_G} {ad : Nat → Nat} {ta : Nat → ClassId} (hd : tD 26 ad) {σ σ' : tS} {p0 : Int32} {r : Int32} (hf : mf_R_isStreet p0 σ = some (r, σ')) : Met l y_R_isStreet (.code y_R_isStreet b_R_isStreet 2 (some .boolean) :: tw) rm_R_isStreet (tP D clS (tyR ta) (cwR ad ta σ) [.ref (ad 0), .int p0]) (tQ D clS (cwR ad ta σ') (some (.int r)) tNo) 0 0 tNo := by
  refine Met.ofW (cc := b_R_isStreet) (maxL := 2) (ret := (some .boolean)) (by decide) rfl ?_
  intro p e s m args below meth c s₁ B hml hv
  obtain ⟨rfl, hP, hK, hN⟩ := hv
  have hx := B.exec
  have hb := B.bytes
  have hr := B.returns
  have ht : ∀ w ∈ tw, w.before [.ref (ad 0), .int p0].toArray s = true := fun w h => atoms_spec (ws := (.code y_R_isStreet b_R_isStreet 2 (some .boolean) :: tw)) B.pre w (List.mem_cons_of_mem _ h)
  have hown : s.vm.findClass R_R = some m.cls := findClass_of_methodNamed B.named
  have hlocks := B.notSynchronized
  have CX : tC p s m [.ref (ad 0), .int p0].toArray meth c b_R_isStreet (some .boolean) 2 R_R D clS (tyR ta) := ⟨hx, hb, hr, hml, hown, ht, hlocks, hK, hN⟩
  have hS : va_S tNo s.heap s.heap [] := va_S.rf
  have hl := lv_entry ([.ref (ad 0), .int p0]) (n := 2) (Nat.le_of_ble_eq_true rfl)
  rw [lg_entry_eq]
  generalize (lg_sl ([.ref (ad 0), .int p0]) ++ List.replicate (2 - (lg_sl ([.ref (ad 0), .int p0])).length) Slot.unset).toArray = ls at hl ⊢
  replace hl : lv_has ls 2 [(0, .ref (ad 0)), (1, .int p0)] := hl
  unfold mf_R_isStreet at hf
  refine lv_iload_n hx hb d_R_isStreet_0 rfl (lv_at hl 1 rfl) ?_
  refine lv_iconst (v := (0 : Int32)) hx hb d_R_isStreet_1 (by decide) ?_
  refine lv_aload_n hx hb d_R_isStreet_2 rfl (lv_at hl 0 rfl) ?_
  refine va_get (ci := 8) (v := .int (σ.1 3)) (C := R_R) (T := F_R) (N := 32) hx hb ht iw_R hown hK hP 0 rfl rfl 3 (by decide) (ht _ wd_680) (fun _ h9 => h9) rfl d_R_isStreet_3 ?_
  refine lv_iconst (v := (1 : Int32)) hx hb d_R_isStreet_6 (by decide) ?_
  refine lv_isub hx hb d_R_isStreet_7 ?_
  obtain ⟨r_1, s_1, hq1, hf⟩ := tb2_of hf
  refine tr_calli (va_runS (As := [.int p0, .int (0 : Int32), .int ((σ.1 3) - (1 : Int32))]) (rest := []) ⟨hx, hb, hml, hown, ht⟩ (mc_R_isIn l hd hq1) ⟨(tw_cb (n := 3) ht wc_R_isIn wd_43 wd_790 ⟨rfl, rfl⟩ (by decide +kernel) ⟨(Nat.le_of_ble_eq_true rfl), (Nat.le_of_ble_eq_true rfl)⟩), ht _ wd_791⟩ ⟨tP_blind, fun U hU hW => ⟨rfl, by rw [hU]; exact hP, va_K.moved hW.alike hK, tW_warm hW hN⟩⟩ rfl rfl hl.1 rfl (lv_room (Nat.le_of_ble_eq_true rfl)) d_R_isStreet_8 ⟨Nat.zero_le _, Nat.zero_le _⟩) hS (fun _ h => h.elim) (fun _ h => h.elim) (fun H locs hP hS => ?_)
  obtain ⟨hb01, hf⟩ := tb_of hf
  obtain ⟨rfl, rfl⟩ := tp_of hf
  exact W.zret (v := r_1) (ty := .boolean) hx hb hr (tb_nar hb01) (fun t ht hW => ⟨rfl, by rw [ht]; exact hP, hS.F ht⟩) hS.2.2 d_R_isStreet_11
abbrev rm_R_toll : Room := { frames := 2, cells := 0, slots := 0, locals := 43 }
set_option maxHeartbeats 4000000 in
set_option maxRecDepth 100000 in
theorem mc_R_toll (l : Launch) {D : va_G} {ad : Nat → Nat} {ta : Nat → ClassId} (hd : tD 26 ad) {σ σ' : tS} {p0 : Int32} {p1 : Int32} {r : Int32} (hf : mf_R_toll p0 p1 σ = some (r, σ')) : Met l y_R_toll (.code y_R_toll b_R_toll 4 (some .int) :: tw) rm_R_toll (tP D clS (tyR ta) (cwR ad ta σ) [.ref (ad 0), .int p0, .int p1]) (tQ D clS (cwR ad ta σ') (some (.int r)) (tA 26 ad)) 0 0 (tA 26 ad) := by
  refine Met.ofW (cc := b_R_toll) (maxL := 4) (ret := (some .int)) (by decide) rfl ?_
  intro p e s m args below meth c s₁ B hml hv
  obtain ⟨rfl, hP, hK, hN⟩ := hv
  have hx := B.exec
  have hb := B.bytes
  have hr := B.returns
  have ht : ∀ w ∈ tw, w.before [.ref (ad 0), .int p0, .int p1].toArray s = true := fun w h => atoms_spec (ws := (.code y_R_toll b_R_toll 4 (some .int) :: tw)) B.pre w (List.mem_cons_of_mem _ h)
  have hown : s.vm.findClass R_R = some m.cls := findClass_of_methodNamed B.named
  have hlocks := B.notSynchronized
  have CX : tC p s m [.ref (ad 0), .int p0, .int p1].toArray meth c b_R_toll (some .int) 4 R_R D clS (tyR ta) := ⟨hx, hb, hr, hml, hown, ht, hlocks, hK, hN⟩
  have hS : va_S (tA 26 ad) s.heap s.heap [] := va_S.rf
  have hl := lv_entry ([.ref (ad 0), .int p0, .int p1]) (n := 4) (Nat.le_of_ble_eq_true rfl)
  rw [lg_entry_eq]
  generalize (lg_sl ([.ref (ad 0), .int p0, .int p1]) ++ List.replicate (4 - (lg_sl ([.ref (ad 0), .int p0, .int p1])).length) Slot.unset).toArray = ls at hl ⊢
  replace hl : lv_has ls 4 [(0, .ref (ad 0)), (1, .int p0), (2, .int p1)] := hl
  unfold mf_R_toll at hf
  refine lv_aload_n hx hb d_R_toll_0 rfl (lv_at hl 0 rfl) ?_
  refine lv_aload_n hx hb d_R_toll_1 rfl (lv_at hl 0 rfl) ?_
  refine lv_iload_n hx hb d_R_toll_2 rfl (lv_at hl 1 rfl) ?_
  obtain ⟨r_1, s_1, hq1, hf⟩ := tb2_of hf
  refine tr_calli (va_runV (C := R_R) (As := [.int p0]) (rest := [.ref (ad 0)]) ⟨hx, hb, hml, hown, ht⟩ (mc_R_isStreet l hd hq1) ⟨(tw_cb (n := 1) ht wc_R_isStreet wd_43 wd_803 ⟨rfl, rfl⟩ (by decide +kernel) ⟨(Nat.le_of_ble_eq_true rfl), (Nat.le_of_ble_eq_true rfl)⟩), ht _ wd_805, ht _ wd_17⟩ ⟨tP_blind, va_recv hK hP (ci := 8) (q0 := 0) rfl rfl, fun U hU hW => ⟨rfl, by rw [hU]; exact hP, va_K.moved hW.alike hK, tW_warm hW hN⟩⟩ rfl rfl hl.1 rfl (lv_room (Nat.le_of_ble_eq_true rfl)) d_R_toll_3 ⟨Nat.zero_le _, Nat.zero_le _⟩) hS (fun _ h => h.elim) (fun _ h => h.elim) (fun H locs hP hS => ?_)
  refine lv_if_eq (tgt := 24) hx hb d_R_toll_6 (by decide) (fun hc => ?_) (fun hc => ?_)
  · replace hf := ti_pos hc hf
    refine lv_iconst (v := (1 : Int32)) hx hb d_R_toll_24 (by decide) ?_
    refine va_put (ci := 8) (v := .int (1 : Int32)) (ty := .int) (C := R_R) (T := F_R) (N := 32) hx hb ht iw_R ft_R to_R nm_R hown hK hP (cwR_D hd) hS 0 rfl rfl 0 (by decide) (ht _ wd_677) (fun _ h9 => h9) rfl (by decide +kernel) rfl rfl (Nat.le_of_ble_eq_true rfl) d_R_toll_25 (fun H locs hP _ hS => ?_)
    replace hP : va_P D clS (cwR ad ta (tF s_1 0 (1 : Int32))) H := hP
    refine lv_aload_n hx hb d_R_toll_28 rfl (lv_at hl 0 rfl) ?_
    refine va_get (ci := 8) (v := .int (1 : Int32)) (C := R_R) (T := F_R) (N := 32) hx hb ht iw_R hown hK hP 0 rfl rfl 0 (by decide) (ht _ wd_677) (fun _ h9 => h9) rfl d_R_toll_29 ?_
    refine lv_if_le (tgt := 37) hx hb d_R_toll_32 (by decide) (fun hc => ?_) (fun hc => ?_)
    · replace hf := ti_pos hc hf
      refine lv_aload_n hx hb d_R_toll_37 rfl (lv_at hl 0 rfl) ?_
      refine va_get (ci := 8) (v := .ref (ad 9)) (C := R_R) (T := F_R) (N := 32) hx hb ht iw_R hown hK hP 0 rfl rfl 12 (by decide) (ht _ wd_689) (fun _ h9 => h9) rfl d_R_toll_38 ?_
      refine lv_iload_n hx hb d_R_toll_41 rfl (lv_at hl 1 rfl) ?_
      obtain ⟨hi2, hf⟩ := tg_of hf
      refine va_iald (f := s_1.2.1 8) hx hb hK hP 9 8 rfl rfl hi2 d_R_toll_42 ?_
      refine lv_istore_n (lv' := [(3, .int (s_1.2.1 8 p0.toNatClampNeg)), (0, .ref (ad 0)), (1, .int p0), (2, .int p1)]) hx hb d_R_toll_43 rfl hl (by decide) rfl (fun ls hl => ?_)
      refine lv_aload_n hx hb d_R_toll_44 rfl (lv_at hl 1 rfl) ?_
      refine va_get (ci := 8) (v := .ref (ad 9)) (C := R_R) (T := F_R) (N := 32) hx hb ht iw_R hown hK hP 0 rfl rfl 12 (by decide) (ht _ wd_689) (fun _ h9 => h9) rfl d_R_toll_45 ?_
      refine lv_iload_n hx hb d_R_toll_48 rfl (lv_at hl 2 rfl) ?_
      refine lv_iload_n hx hb d_R_toll_49 rfl (lv_at hl 3 rfl) ?_
      obtain ⟨hi3, hf⟩ := tg_of hf
      refine va_iast (f := s_1.2.1 8) hx hb hK hP (cwR_D hd) hS 9 8 rfl rfl hi3 d_R_toll_50 (fun H locs hP _ hS => ?_)
      replace hP : va_P D clS (cwR ad ta (tI (tF s_1 0 (1 : Int32)) 8 p0.toNatClampNeg p1)) H := hP
      refine lv_iload_n hx hb d_R_toll_51 rfl (lv_at hl 0 rfl) ?_
      obtain ⟨rfl, rfl⟩ := tp_of hf
      exact W.iret (v := (s_1.2.1 8 p0.toNatClampNeg)) hx hb hr (fun t ht hW => ⟨rfl, by rw [ht]; exact hP, hS.F ht⟩) hS.2.2 d_R_toll_52
    · replace hf := ti_neg hc hf
      refine lv_iconst (v := (0 : Int32)) hx hb d_R_toll_35 (by decide) ?_
      obtain ⟨rfl, rfl⟩ := tp_of hf
      exact W.iret (v := (0 : Int32)) hx hb hr (fun t ht hW => ⟨rfl, by rw [ht]; exact hP, hS.F ht⟩) hS.2.2 d_R_toll_36
  · replace hf := ti_neg hc hf
    refine lv_iload_n hx hb d_R_toll_9 rfl (lv_at hl 2 rfl) ?_
    refine lv_iconst (v := (0 : Int32)) hx hb d_R_toll_10 (by decide) ?_
    refine lv_sipush (v := (1000 : Int32)) hx hb d_R_toll_11 (by decide) ?_
    obtain ⟨r_4, s_4, hq4, hf⟩ := tb2_of hf
    refine tr_calli (va_runS (As := [.int p1, .int (0 : Int32), .int (1000 : Int32)]) (rest := [.ref (ad 0)]) ⟨hx, hb, hml, hown, ht⟩ (mc_R_isIn l hd hq4) ⟨(tw_cb (n := 3) ht wc_R_isIn wd_43 wd_790 ⟨rfl, rfl⟩ (by decide +kernel) ⟨(Nat.le_of_ble_eq_true rfl), (Nat.le_of_ble_eq_true rfl)⟩), ht _ wd_791⟩ ⟨tP_blind, fun U hU hW => ⟨rfl, by rw [hU]; exact hP, va_K.moved hW.alike hK, tW_warm hW hN⟩⟩ rfl rfl hl.1 rfl (lv_room (Nat.le_of_ble_eq_true rfl)) d_R_toll_14 ⟨Nat.zero_le _, Nat.zero_le _⟩) hS (fun _ h => h.elim) (fun _ h => h.elim) (fun H locs hP hS => ?_)
    refine lv_if_eq (tgt := 24) hx hb d_R_toll_17 (by decide) (fun hc => ?_) (fun hc => ?_)
    · replace hf := ti_pos hc hf
      refine lv_iconst (v := (1 : Int32)) hx hb d_R_toll_24 (by decide) ?_
      refine va_put (ci := 8) (v := .int (1 : Int32)) (ty := .int) (C := R_R) (T := F_R) (N := 32) hx hb ht iw_R ft_R to_R nm_R hown hK hP (cwR_D hd) hS 0 rfl rfl 0 (by decide) (ht _ wd_677) (fun _ h9 => h9) rfl (by decide +kernel) rfl rfl (Nat.le_of_ble_eq_true rfl) d_R_toll_25 (fun H locs hP _ hS => ?_)
      replace hP : va_P D clS (cwR ad ta (tF s_4 0 (1 : Int32))) H := hP
      refine lv_aload_n hx hb d_R_toll_28 rfl (lv_at hl 0 rfl) ?_
      refine va_get (ci := 8) (v := .int (1 : Int32)) (C := R_R) (T := F_R) (N := 32) hx hb ht iw_R hown hK hP 0 rfl rfl 0 (by decide) (ht _ wd_677) (fun _ h9 => h9) rfl d_R_toll_29 ?_
      refine lv_if_le (tgt := 37) hx hb d_R_toll_32 (by decide) (fun hc => ?_) (fun hc => ?_)
      · replace hf := ti_pos hc hf
        refine lv_aload_n hx hb d_R_toll_37 rfl (lv_at hl 0 rfl) ?_
        refine va_get (ci := 8) (v := .ref (ad 9)) (C := R_R) (T := F_R) (N := 32) hx hb ht iw_R hown hK hP 0 rfl rfl 12 (by decide) (ht _ wd_689) (fun _ h9 => h9) rfl d_R_toll_38 ?_
        refine lv_iload_n hx hb d_R_toll_41 rfl (lv_at hl 1 rfl) ?_
        obtain ⟨hi5, hf⟩ := tg_of hf
        refine va_iald (f := s_4.2.1 8) hx hb hK hP 9 8 rfl rfl hi5 d_R_toll_42 ?_
        refine lv_istore_n (lv' := [(3, .int (s_4.2.1 8 p0.toNatClampNeg)), (0, .ref (ad 0)), (1, .int p0), (2, .int p1)]) hx hb d_R_toll_43 rfl hl (by decide) rfl (fun ls hl => ?_)
        refine lv_aload_n hx hb d_R_toll_44 rfl (lv_at hl 1 rfl) ?_
        refine va_get (ci := 8) (v := .ref (ad 9)) (C := R_R) (T := F_R) (N := 32) hx hb ht iw_R hown hK hP 0 rfl rfl 12 (by decide) (ht _ wd_689) (fun _ h9 => h9) rfl d_R_toll_45 ?_
        refine lv_iload_n hx hb d_R_toll_48 rfl (lv_at hl 2 rfl) ?_
        refine lv_iload_n hx hb d_R_toll_49 rfl (lv_at hl 3 rfl) ?_
        obtain ⟨hi6, hf⟩ := tg_of hf
        refine va_iast (f := s_4.2.1 8) hx hb hK hP (cwR_D hd) hS 9 8 rfl rfl hi6 d_R_toll_50 (fun H locs hP _ hS => ?_)
        replace hP : va_P D clS (cwR ad ta (tI (tF s_4 0 (1 : Int32)) 8 p0.toNatClampNeg p1)) H := hP
        refine lv_iload_n hx hb d_R_toll_51 rfl (lv_at hl 0 rfl) ?_
        obtain ⟨rfl, rfl⟩ := tp_of hf
        exact W.iret (v := (s_4.2.1 8 p0.toNatClampNeg)) hx hb hr (fun t ht hW => ⟨rfl, by rw [ht]; exact hP, hS.F ht⟩) hS.2.2 d_R_toll_52
      · replace hf := ti_neg hc hf
        refine lv_iconst (v := (0 : Int32)) hx hb d_R_toll_35 (by decide) ?_
        obtain ⟨rfl, rfl⟩ := tp_of hf
        exact W.iret (v := (0 : Int32)) hx hb hr (fun t ht hW => ⟨rfl, by rw [ht]; exact hP, hS.F ht⟩) hS.2.2 d_R_toll_36
    · replace hf := ti_neg hc hf
      refine lv_iconst (v := (0 : Int32)) hx hb d_R_toll_20 (by decide) ?_
      refine lv_goto (tgt := 25) hx hb d_R_toll_21 (by decide) ?_
      refine va_put (ci := 8) (v := .int (0 : Int32)) (ty := .int) (C := R_R) (T := F_R) (N := 32) hx hb ht iw_R ft_R to_R nm_R hown hK hP (cwR_D hd) hS 0 rfl rfl 0 (by decide) (ht _ wd_677) (fun _ h9 => h9) rfl (by decide +kernel) rfl rfl (Nat.le_of_ble_eq_true rfl) d_R_toll_25 (fun H locs hP _ hS => ?_)
      replace hP : va_P D clS (cwR ad ta (tF s_4 0 (0 : Int32))) H := hP
      refine lv_aload_n hx hb d_R_toll_28 rfl (lv_at hl 0 rfl) ?_
      refine va_get (ci := 8) (v := .int (0 : Int32)) (C := R_R) (T := F_R) (N := 32) hx hb ht iw_R hown hK hP 0 rfl rfl 0 (by decide) (ht _ wd_677) (fun _ h9 => h9) rfl d_R_toll_29 ?_
      refine lv_if_le (tgt := 37) hx hb d_R_toll_32 (by decide) (fun hc => ?_) (fun hc => ?_)
      · replace hf := ti_pos hc hf
        refine lv_aload_n hx hb d_R_toll_37 rfl (lv_at hl 0 rfl) ?_
        refine va_get (ci := 8) (v := .ref (ad 9)) (C := R_R) (T := F_R) (N := 32) hx hb ht iw_R hown hK hP 0 rfl rfl 12 (by decide) (ht _ wd_689) (fun _ h9 => h9) rfl d_R_toll_38 ?_
        refine lv_iload_n hx hb d_R_toll_41 rfl (lv_at hl 1 rfl) ?_
        obtain ⟨hi7, hf⟩ := tg_of hf
        refine va_iald (f := s_4.2.1 8) hx hb hK hP 9 8 rfl rfl hi7 d_R_toll_42 ?_
        refine lv_istore_n (lv' := [(3, .int (s_4.2.1 8 p0.toNatClampNeg)), (0, .ref (ad 0)), (1, .int p0), (2, .int p1)]) hx hb d_R_toll_43 rfl hl (by decide) rfl (fun ls hl => ?_)
        refine lv_aload_n hx hb d_R_toll_44 rfl (lv_at hl 1 rfl) ?_
        refine va_get (ci := 8) (v := .ref (ad 9)) (C := R_R) (T := F_R) (N := 32) hx hb ht iw_R hown hK hP 0 rfl rfl 12 (by decide) (ht _ wd_689) (fun _ h9 => h9) rfl d_R_toll_45 ?_
        refine lv_iload_n hx hb d_R_toll_48 rfl (lv_at hl 2 rfl) ?_
        refine lv_iload_n hx hb d_R_toll_49 rfl (lv_at hl 3 rfl) ?_
        obtain ⟨hi8, hf⟩ := tg_of hf
        refine va_iast (f := s_4.2.1 8) hx hb hK hP (cwR_D hd) hS 9 8 rfl rfl hi8 d_R_toll_50 (fun H locs hP _ hS => ?_)
        replace hP : va_P D clS (cwR ad ta (tI (tF s_4 0 (0 : Int32)) 8 p0.toNatClampNeg p1)) H := hP
        refine lv_iload_n hx hb d_R_toll_51 rfl (lv_at hl 0 rfl) ?_
        obtain ⟨rfl, rfl⟩ := tp_of hf
        exact W.iret (v := (s_4.2.1 8 p0.toNatClampNeg)) hx hb hr (fun t ht hW => ⟨rfl, by rw [ht]; exact hP, hS.F ht⟩) hS.2.2 d_R_toll_52
      · replace hf := ti_neg hc hf
        refine lv_iconst (v := (0 : Int32)) hx hb d_R_toll_35 (by decide) ?_
        obtain ⟨rfl, rfl⟩ := tp_of hf
        exact W.iret (v := (0 : Int32)) hx hb hr (fun t ht hW => ⟨rfl, by rw [ht]; exact hP, hS.F ht⟩) hS.2.2 d_R_toll_36
abbrev rm_R_open : Room := { frames := 2, cells := 0, slots := 0, locals := 43 }
set_option maxHeartbeats 4000000 in
set_option maxRecDepth 100000 in
theorem mc_R_open (l : Launch) {D : va_G} {ad : Nat → Nat} {ta : Nat → ClassId} (hd : tD 26 ad) {σ σ' : tS} {p0 : Int32} {p1 : Int32} {r : Int32} (hf : mf_R_open p0 p1 σ = some (r, σ')) : Met l y_R_open (.code y_R_open b_R_open 4 (some .boolean) :: tw) rm_R_open (tP D clS (tyR ta) (cwR ad ta σ) [.ref (ad 0), .int p0, .int p1]) (tQ D clS (cwR ad ta σ') (some (.int r)) (tA 26 ad)) 0 0 (tA 26 ad) := by
  refine Met.ofW (cc := b_R_open) (maxL := 4) (ret := (some .boolean)) (by decide) rfl ?_
  intro p e s m args below meth c s₁ B hml hv
  obtain ⟨rfl, hP, hK, hN⟩ := hv
  have hx := B.exec
  have hb := B.bytes
  have hr := B.returns
  have ht : ∀ w ∈ tw, w.before [.ref (ad 0), .int p0, .int p1].toArray s = true := fun w h => atoms_spec (ws := (.code y_R_open b_R_open 4 (some .boolean) :: tw)) B.pre w (List.mem_cons_of_mem _ h)
  have hown : s.vm.findClass R_R = some m.cls := findClass_of_methodNamed B.named
  have hlocks := B.notSynchronized
  have CX : tC p s m [.ref (ad 0), .int p0, .int p1].toArray meth c b_R_open (some .boolean) 4 R_R D clS (tyR ta) := ⟨hx, hb, hr, hml, hown, ht, hlocks, hK, hN⟩
  have hS : va_S (tA 26 ad) s.heap s.heap [] := va_S.rf
  have hl := lv_entry ([.ref (ad 0), .int p0, .int p1]) (n := 4) (Nat.le_of_ble_eq_true rfl)
  rw [lg_entry_eq]
  generalize (lg_sl ([.ref (ad 0), .int p0, .int p1]) ++ List.replicate (4 - (lg_sl ([.ref (ad 0), .int p0, .int p1])).length) Slot.unset).toArray = ls at hl ⊢
  replace hl : lv_has ls 4 [(0, .ref (ad 0)), (1, .int p0), (2, .int p1)] := hl
  unfold mf_R_open at hf
  refine lv_aload_n hx hb d_R_open_0 rfl (lv_at hl 0 rfl) ?_
  refine lv_aload_n hx hb d_R_open_1 rfl (lv_at hl 0 rfl) ?_
  refine lv_iload_n hx hb d_R_open_2 rfl (lv_at hl 1 rfl) ?_
  obtain ⟨r_1, s_1, hq1, hf⟩ := tb2_of hf
  refine tr_calli (va_runV (C := R_R) (As := [.int p0]) (rest := [.ref (ad 0)]) ⟨hx, hb, hml, hown, ht⟩ (mc_R_isStreet l hd hq1) ⟨(tw_cb (n := 1) ht wc_R_isStreet wd_43 wd_803 ⟨rfl, rfl⟩ (by decide +kernel) ⟨(Nat.le_of_ble_eq_true rfl), (Nat.le_of_ble_eq_true rfl)⟩), ht _ wd_805, ht _ wd_17⟩ ⟨tP_blind, va_recv hK hP (ci := 8) (q0 := 0) rfl rfl, fun U hU hW => ⟨rfl, by rw [hU]; exact hP, va_K.moved hW.alike hK, tW_warm hW hN⟩⟩ rfl rfl hl.1 rfl (lv_room (Nat.le_of_ble_eq_true rfl)) d_R_open_3 ⟨Nat.zero_le _, Nat.zero_le _⟩) hS (fun _ h => h.elim) (fun _ h => h.elim) (fun H locs hP hS => ?_)
  refine lv_if_eq (tgt := 13) hx hb d_R_open_6 (by decide) (fun hc => ?_) (fun hc => ?_)
  · replace hf := ti_pos hc hf
    refine lv_iconst (v := (1 : Int32)) hx hb d_R_open_13 (by decide) ?_
    refine va_put (ci := 8) (v := .int (1 : Int32)) (ty := .int) (C := R_R) (T := F_R) (N := 32) hx hb ht iw_R ft_R to_R nm_R hown hK hP (cwR_D hd) hS 0 rfl rfl 0 (by decide) (ht _ wd_677) (fun _ h9 => h9) rfl (by decide +kernel) rfl rfl (Nat.le_of_ble_eq_true rfl) d_R_open_14 (fun H locs hP _ hS => ?_)
    replace hP : va_P D clS (cwR ad ta (tF s_1 0 (1 : Int32))) H := hP
    refine lv_aload_n hx hb d_R_open_17 rfl (lv_at hl 0 rfl) ?_
    refine va_get (ci := 8) (v := .int (1 : Int32)) (C := R_R) (T := F_R) (N := 32) hx hb ht iw_R hown hK hP 0 rfl rfl 0 (by decide) (ht _ wd_677) (fun _ h9 => h9) rfl d_R_open_18 ?_
    refine lv_if_le (tgt := 26) hx hb d_R_open_21 (by decide) (fun hc => ?_) (fun hc => ?_)
    · replace hf := ti_pos hc hf
      refine lv_aload_n hx hb d_R_open_26 rfl (lv_at hl 0 rfl) ?_
      refine va_get (ci := 8) (v := .ref (ad 10)) (C := R_R) (T := F_R) (N := 32) hx hb ht iw_R hown hK hP 0 rfl rfl 13 (by decide) (ht _ wd_690) (fun _ h9 => h9) rfl d_R_open_27 ?_
      refine lv_iload_n hx hb d_R_open_30 rfl (lv_at hl 1 rfl) ?_
      obtain ⟨hi2, hf⟩ := tg_of hf
      refine va_zald (f := s_1.2.1 9) hx hb hK hP 10 9 rfl rfl hi2 d_R_open_31 ?_
      refine lv_if_ne (tgt := 39) hx hb d_R_open_32 (by decide) (fun hc => ?_) (fun hc => ?_)
      · replace hf := ti_neg hc hf
        refine lv_iconst (v := (0 : Int32)) hx hb d_R_open_39 (by decide) ?_
        refine lv_istore_n (lv' := [(3, .int (0 : Int32)), (0, .ref (ad 0)), (1, .int p0), (2, .int p1)]) hx hb d_R_open_40 rfl hl (by decide) rfl (fun ls hl => ?_)
        refine lv_aload_n hx hb d_R_open_41 rfl (lv_at hl 1 rfl) ?_
        refine va_get (ci := 8) (v := .ref (ad 10)) (C := R_R) (T := F_R) (N := 32) hx hb ht iw_R hown hK hP 0 rfl rfl 13 (by decide) (ht _ wd_690) (fun _ h9 => h9) rfl d_R_open_42 ?_
        refine lv_iload_n hx hb d_R_open_45 rfl (lv_at hl 2 rfl) ?_
        refine lv_iload_n hx hb d_R_open_46 rfl (lv_at hl 3 rfl) ?_
        refine lv_if_ne (tgt := 54) hx hb d_R_open_47 (by decide) (fun hc => ?_) (fun hc => ?_)
        · replace hf := ti_neg hc hf
          refine lv_iconst (v := (0 : Int32)) hx hb d_R_open_54 (by decide) ?_
          obtain ⟨hi3, hf⟩ := tg_of hf
          refine va_zast (f := s_1.2.1 9) hx hb hK hP (cwR_D hd) hS 10 9 rfl rfl hi3 d_R_open_55 (fun H locs hP _ hS => ?_)
          replace hP : va_P D clS (cwR ad ta (tI (tF s_1 0 (1 : Int32)) 9 p0.toNatClampNeg (vp_nar .boolean (0 : Int32)))) H := hP
          refine lv_iload_n hx hb d_R_open_56 rfl (lv_at hl 0 rfl) ?_
          obtain ⟨hb01, hf⟩ := tb_of hf
          obtain ⟨rfl, rfl⟩ := tp_of hf
          exact W.zret (v := (0 : Int32)) (ty := .boolean) hx hb hr (tb_nar hb01) (fun t ht hW => ⟨rfl, by rw [ht]; exact hP, hS.F ht⟩) hS.2.2 d_R_open_57
        · replace hf := ti_pos hc hf
          refine lv_iconst (v := (1 : Int32)) hx hb d_R_open_50 (by decide) ?_
          refine lv_goto (tgt := 55) hx hb d_R_open_51 (by decide) ?_
          obtain ⟨hi4, hf⟩ := tg_of hf
          refine va_zast (f := s_1.2.1 9) hx hb hK hP (cwR_D hd) hS 10 9 rfl rfl hi4 d_R_open_55 (fun H locs hP _ hS => ?_)
          replace hP : va_P D clS (cwR ad ta (tI (tF s_1 0 (1 : Int32)) 9 p0.toNatClampNeg (vp_nar .boolean (1 : Int32)))) H := hP
          refine lv_iload_n hx hb d_R_open_56 rfl (lv_at hl 0 rfl) ?_
          obtain ⟨hb01, hf⟩ := tb_of hf
          obtain ⟨rfl, rfl⟩ := tp_of hf
          exact W.zret (v := (0 : Int32)) (ty := .boolean) hx hb hr (tb_nar hb01) (fun t ht hW => ⟨rfl, by rw [ht]; exact hP, hS.F ht⟩) hS.2.2 d_R_open_57
      · replace hf := ti_pos hc hf
        refine lv_iconst (v := (1 : Int32)) hx hb d_R_open_35 (by decide) ?_
        refine lv_goto (tgt := 40) hx hb d_R_open_36 (by decide) ?_
        refine lv_istore_n (lv' := [(3, .int (1 : Int32)), (0, .ref (ad 0)), (1, .int p0), (2, .int p1)]) hx hb d_R_open_40 rfl hl (by decide) rfl (fun ls hl => ?_)
        refine lv_aload_n hx hb d_R_open_41 rfl (lv_at hl 1 rfl) ?_
        refine va_get (ci := 8) (v := .ref (ad 10)) (C := R_R) (T := F_R) (N := 32) hx hb ht iw_R hown hK hP 0 rfl rfl 13 (by decide) (ht _ wd_690) (fun _ h9 => h9) rfl d_R_open_42 ?_
        refine lv_iload_n hx hb d_R_open_45 rfl (lv_at hl 2 rfl) ?_
        refine lv_iload_n hx hb d_R_open_46 rfl (lv_at hl 3 rfl) ?_
        refine lv_if_ne (tgt := 54) hx hb d_R_open_47 (by decide) (fun hc => ?_) (fun hc => ?_)
        · replace hf := ti_neg hc hf
          refine lv_iconst (v := (0 : Int32)) hx hb d_R_open_54 (by decide) ?_
          obtain ⟨hi5, hf⟩ := tg_of hf
          refine va_zast (f := s_1.2.1 9) hx hb hK hP (cwR_D hd) hS 10 9 rfl rfl hi5 d_R_open_55 (fun H locs hP _ hS => ?_)
          replace hP : va_P D clS (cwR ad ta (tI (tF s_1 0 (1 : Int32)) 9 p0.toNatClampNeg (vp_nar .boolean (0 : Int32)))) H := hP
          refine lv_iload_n hx hb d_R_open_56 rfl (lv_at hl 0 rfl) ?_
          obtain ⟨hb01, hf⟩ := tb_of hf
          obtain ⟨rfl, rfl⟩ := tp_of hf
          exact W.zret (v := (1 : Int32)) (ty := .boolean) hx hb hr (tb_nar hb01) (fun t ht hW => ⟨rfl, by rw [ht]; exact hP, hS.F ht⟩) hS.2.2 d_R_open_57
        · replace hf := ti_pos hc hf
          refine lv_iconst (v := (1 : Int32)) hx hb d_R_open_50 (by decide) ?_
          refine lv_goto (tgt := 55) hx hb d_R_open_51 (by decide) ?_
          obtain ⟨hi6, hf⟩ := tg_of hf
          refine va_zast (f := s_1.2.1 9) hx hb hK hP (cwR_D hd) hS 10 9 rfl rfl hi6 d_R_open_55 (fun H locs hP _ hS => ?_)
          replace hP : va_P D clS (cwR ad ta (tI (tF s_1 0 (1 : Int32)) 9 p0.toNatClampNeg (vp_nar .boolean (1 : Int32)))) H := hP
          refine lv_iload_n hx hb d_R_open_56 rfl (lv_at hl 0 rfl) ?_
          obtain ⟨hb01, hf⟩ := tb_of hf
          obtain ⟨rfl, rfl⟩ := tp_of hf
          exact W.zret (v := (1 : Int32)) (ty := .boolean) hx hb hr (tb_nar hb01) (fun t ht hW => ⟨rfl, by rw [ht]; exact hP, hS.F ht⟩) hS.2.2 d_R_open_57
    · replace hf := ti_neg hc hf
      refine lv_iconst (v := (0 : Int32)) hx hb d_R_open_24 (by decide) ?_
      obtain ⟨hb01, hf⟩ := tb_of hf
      obtain ⟨rfl, rfl⟩ := tp_of hf
      exact W.zret (v := (0 : Int32)) (ty := .boolean) hx hb hr (tb_nar hb01) (fun t ht hW => ⟨rfl, by rw [ht]; exact hP, hS.F ht⟩) hS.2.2 d_R_open_25
  · replace hf := ti_neg hc hf
    refine lv_iconst (v := (0 : Int32)) hx hb d_R_open_9 (by decide) ?_
    refine lv_goto (tgt := 14) hx hb d_R_open_10 (by decide) ?_
    refine va_put (ci := 8) (v := .int (0 : Int32)) (ty := .int) (C := R_R) (T := F_R) (N := 32) hx hb ht iw_R ft_R to_R nm_R hown hK hP (cwR_D hd) hS 0 rfl rfl 0 (by decide) (ht _ wd_677) (fun _ h9 => h9) rfl (by decide +kernel) rfl rfl (Nat.le_of_ble_eq_true rfl) d_R_open_14 (fun H locs hP _ hS => ?_)
    replace hP : va_P D clS (cwR ad ta (tF s_1 0 (0 : Int32))) H := hP
    refine lv_aload_n hx hb d_R_open_17 rfl (lv_at hl 0 rfl) ?_
    refine va_get (ci := 8) (v := .int (0 : Int32)) (C := R_R) (T := F_R) (N := 32) hx hb ht iw_R hown hK hP 0 rfl rfl 0 (by decide) (ht _ wd_677) (fun _ h9 => h9) rfl d_R_open_18 ?_
    refine lv_if_le (tgt := 26) hx hb d_R_open_21 (by decide) (fun hc => ?_) (fun hc => ?_)
    · replace hf := ti_pos hc hf
      refine lv_aload_n hx hb d_R_open_26 rfl (lv_at hl 0 rfl) ?_
      refine va_get (ci := 8) (v := .ref (ad 10)) (C := R_R) (T := F_R) (N := 32) hx hb ht iw_R hown hK hP 0 rfl rfl 13 (by decide) (ht _ wd_690) (fun _ h9 => h9) rfl d_R_open_27 ?_
      refine lv_iload_n hx hb d_R_open_30 rfl (lv_at hl 1 rfl) ?_
      obtain ⟨hi7, hf⟩ := tg_of hf
      refine va_zald (f := s_1.2.1 9) hx hb hK hP 10 9 rfl rfl hi7 d_R_open_31 ?_
      refine lv_if_ne (tgt := 39) hx hb d_R_open_32 (by decide) (fun hc => ?_) (fun hc => ?_)
      · replace hf := ti_neg hc hf
        refine lv_iconst (v := (0 : Int32)) hx hb d_R_open_39 (by decide) ?_
        refine lv_istore_n (lv' := [(3, .int (0 : Int32)), (0, .ref (ad 0)), (1, .int p0), (2, .int p1)]) hx hb d_R_open_40 rfl hl (by decide) rfl (fun ls hl => ?_)
        refine lv_aload_n hx hb d_R_open_41 rfl (lv_at hl 1 rfl) ?_
        refine va_get (ci := 8) (v := .ref (ad 10)) (C := R_R) (T := F_R) (N := 32) hx hb ht iw_R hown hK hP 0 rfl rfl 13 (by decide) (ht _ wd_690) (fun _ h9 => h9) rfl d_R_open_42 ?_
        refine lv_iload_n hx hb d_R_open_45 rfl (lv_at hl 2 rfl) ?_
        refine lv_iload_n hx hb d_R_open_46 rfl (lv_at hl 3 rfl) ?_
        refine lv_if_ne (tgt := 54) hx hb d_R_open_47 (by decide) (fun hc => ?_) (fun hc => ?_)
        · replace hf := ti_neg hc hf
          refine lv_iconst (v := (0 : Int32)) hx hb d_R_open_54 (by decide) ?_
          obtain ⟨hi8, hf⟩ := tg_of hf
          refine va_zast (f := s_1.2.1 9) hx hb hK hP (cwR_D hd) hS 10 9 rfl rfl hi8 d_R_open_55 (fun H locs hP _ hS => ?_)
          replace hP : va_P D clS (cwR ad ta (tI (tF s_1 0 (0 : Int32)) 9 p0.toNatClampNeg (vp_nar .boolean (0 : Int32)))) H := hP
          refine lv_iload_n hx hb d_R_open_56 rfl (lv_at hl 0 rfl) ?_
          obtain ⟨hb01, hf⟩ := tb_of hf
          obtain ⟨rfl, rfl⟩ := tp_of hf
          exact W.zret (v := (0 : Int32)) (ty := .boolean) hx hb hr (tb_nar hb01) (fun t ht hW => ⟨rfl, by rw [ht]; exact hP, hS.F ht⟩) hS.2.2 d_R_open_57
        · replace hf := ti_pos hc hf
          refine lv_iconst (v := (1 : Int32)) hx hb d_R_open_50 (by decide) ?_
          refine lv_goto (tgt := 55) hx hb d_R_open_51 (by decide) ?_
          obtain ⟨hi9, hf⟩ := tg_of hf
          refine va_zast (f := s_1.2.1 9) hx hb hK hP (cwR_D hd) hS 10 9 rfl rfl hi9 d_R_open_55 (fun H locs hP _ hS => ?_)
          replace hP : va_P D clS (cwR ad ta (tI (tF s_1 0 (0 : Int32)) 9 p0.toNatClampNeg (vp_nar .boolean (1 : Int32)))) H := hP
          refine lv_iload_n hx hb d_R_open_56 rfl (lv_at hl 0 rfl) ?_
          obtain ⟨hb01, hf⟩ := tb_of hf
          obtain ⟨rfl, rfl⟩ := tp_of hf
          exact W.zret (v := (0 : Int32)) (ty := .boolean) hx hb hr (tb_nar hb01) (fun t ht hW => ⟨rfl, by rw [ht]; exact hP, hS.F ht⟩) hS.2.2 d_R_open_57
      · replace hf := ti_pos hc hf
        refine lv_iconst (v := (1 : Int32)) hx hb d_R_open_35 (by decide) ?_
        refine lv_goto (tgt := 40) hx hb d_R_open_36 (by decide) ?_
        refine lv_istore_n (lv' := [(3, .int (1 : Int32)), (0, .ref (ad 0)), (1, .int p0), (2, .int p1)]) hx hb d_R_open_40 rfl hl (by decide) rfl (fun ls hl => ?_)
        refine lv_aload_n hx hb d_R_open_41 rfl (lv_at hl 1 rfl) ?_
        refine va_get (ci := 8) (v := .ref (ad 10)) (C := R_R) (T := F_R) (N := 32) hx hb ht iw_R hown hK hP 0 rfl rfl 13 (by decide) (ht _ wd_690) (fun _ h9 => h9) rfl d_R_open_42 ?_
        refine lv_iload_n hx hb d_R_open_45 rfl (lv_at hl 2 rfl) ?_
        refine lv_iload_n hx hb d_R_open_46 rfl (lv_at hl 3 rfl) ?_
        refine lv_if_ne (tgt := 54) hx hb d_R_open_47 (by decide) (fun hc => ?_) (fun hc => ?_)
        · replace hf := ti_neg hc hf
          refine lv_iconst (v := (0 : Int32)) hx hb d_R_open_54 (by decide) ?_
          obtain ⟨hi10, hf⟩ := tg_of hf
          refine va_zast (f := s_1.2.1 9) hx hb hK hP (cwR_D hd) hS 10 9 rfl rfl hi10 d_R_open_55 (fun H locs hP _ hS => ?_)
          replace hP : va_P D clS (cwR ad ta (tI (tF s_1 0 (0 : Int32)) 9 p0.toNatClampNeg (vp_nar .boolean (0 : Int32)))) H := hP
          refine lv_iload_n hx hb d_R_open_56 rfl (lv_at hl 0 rfl) ?_
          obtain ⟨hb01, hf⟩ := tb_of hf
          obtain ⟨rfl, rfl⟩ := tp_of hf
          exact W.zret (v := (1 : Int32)) (ty := .boolean) hx hb hr (tb_nar hb01) (fun t ht hW => ⟨rfl, by rw [ht]; exact hP, hS.F ht⟩) hS.2.2 d_R_open_57
        · replace hf := ti_pos hc hf
          refine lv_iconst (v := (1 : Int32)) hx hb d_R_open_50 (by decide) ?_
          refine lv_goto (tgt := 55) hx hb d_R_open_51 (by decide) ?_
          obtain ⟨hi11, hf⟩ := tg_of hf
          refine va_zast (f := s_1.2.1 9) hx hb hK hP (cwR_D hd) hS 10 9 rfl rfl hi11 d_R_open_55 (fun H locs hP _ hS => ?_)
          replace hP : va_P D clS (cwR ad ta (tI (tF s_1 0 (0 : Int32)) 9 p0.toNatClampNeg (vp_nar .boolean (1 : Int32)))) H := hP
          refine lv_iload_n hx hb d_R_open_56 rfl (lv_at hl 0 rfl) ?_
          obtain ⟨hb01, hf⟩ := tb_of hf
          obtain ⟨rfl, rfl⟩ := tp_of hf
          exact W.zret (v := (1 : Int32)) (ty := .boolean) hx hb hr (tb_nar hb01) (fun t ht hW => ⟨rfl, by rw [ht]; exact hP, hS.F ht⟩) hS.2.2 d_R_open_57
    · replace hf := ti_neg hc hf
      refine lv_iconst (v := (0 : Int32)) hx hb d_R_open_24 (by decide) ?_
      obtain ⟨hb01, hf⟩ := tb_of hf
      obtain ⟨rfl, rfl⟩ := tp_of hf
      exact W.zret (v := (0 : Int32)) (ty := .boolean) hx hb hr (tb_nar hb01) (fun t ht hW => ⟨rfl, by rw [ht]; exact hP, hS.F ht⟩) hS.2.2 d_R_open_25
abbrev rm_R_isZone : Room := { frames := 1, cells := 0, slots := 0, locals := 22 }
set_option maxHeartbeats 4000000 in
set_option maxRecDepth 100000 in
theorem mc_R_isZone (l : Launch) {D : va_G} {ad : Nat → Nat} {ta : Nat → ClassId} (hd : tD 26 ad) {σ σ' : tS} {p0 : Int32} {r : Int32} (hf : mf_R_isZone p0 σ = some (r, σ')) : Met l y_R_isZone (.code y_R_isZone b_R_isZone 2 (some .boolean) :: tw) rm_R_isZone (tP D clS (tyR ta) (cwR ad ta σ) [.ref (ad 0), .int p0]) (tQ D clS (cwR ad ta σ') (some (.int r)) tNo) 0 0 tNo := by
  refine Met.ofW (cc := b_R_isZone) (maxL := 2) (ret := (some .boolean)) (by decide) rfl ?_
  intro p e s m args below meth c s₁ B hml hv
  obtain ⟨rfl, hP, hK, hN⟩ := hv
  have hx := B.exec
  have hb := B.bytes
  have hr := B.returns
  have ht : ∀ w ∈ tw, w.before [.ref (ad 0), .int p0].toArray s = true := fun w h => atoms_spec (ws := (.code y_R_isZone b_R_isZone 2 (some .boolean) :: tw)) B.pre w (List.mem_cons_of_mem _ h)
  have hown : s.vm.findClass R_R = some m.cls := findClass_of_methodNamed B.named
  have hlocks := B.notSynchronized
  have CX : tC p s m [.ref (ad 0), .int p0].toArray meth c b_R_isZone (some .boolean) 2 R_R D clS (tyR ta) := ⟨hx, hb, hr, hml, hown, ht, hlocks, hK, hN⟩
  have hS : va_S tNo s.heap s.heap [] := va_S.rf
  have hl := lv_entry ([.ref (ad 0), .int p0]) (n := 2) (Nat.le_of_ble_eq_true rfl)
  rw [lg_entry_eq]
  generalize (lg_sl ([.ref (ad 0), .int p0]) ++ List.replicate (2 - (lg_sl ([.ref (ad 0), .int p0])).length) Slot.unset).toArray = ls at hl ⊢
  replace hl : lv_has ls 2 [(0, .ref (ad 0)), (1, .int p0)] := hl
  unfold mf_R_isZone at hf
  refine lv_iload_n hx hb d_R_isZone_0 rfl (lv_at hl 1 rfl) ?_
  refine lv_iconst (v := (0 : Int32)) hx hb d_R_isZone_1 (by decide) ?_
  refine lv_aload_n hx hb d_R_isZone_2 rfl (lv_at hl 0 rfl) ?_
  refine va_get (ci := 8) (v := .int (σ.1 2)) (C := R_R) (T := F_R) (N := 32) hx hb ht iw_R hown hK hP 0 rfl rfl 2 (by decide) (ht _ wd_679) (fun _ h9 => h9) rfl d_R_isZone_3 ?_
  refine lv_iconst (v := (1 : Int32)) hx hb d_R_isZone_6 (by decide) ?_
  refine lv_isub hx hb d_R_isZone_7 ?_
  obtain ⟨r_1, s_1, hq1, hf⟩ := tb2_of hf
  refine tr_calli (va_runS (As := [.int p0, .int (0 : Int32), .int ((σ.1 2) - (1 : Int32))]) (rest := []) ⟨hx, hb, hml, hown, ht⟩ (mc_R_isIn l hd hq1) ⟨(tw_cb (n := 3) ht wc_R_isIn wd_43 wd_790 ⟨rfl, rfl⟩ (by decide +kernel) ⟨(Nat.le_of_ble_eq_true rfl), (Nat.le_of_ble_eq_true rfl)⟩), ht _ wd_791⟩ ⟨tP_blind, fun U hU hW => ⟨rfl, by rw [hU]; exact hP, va_K.moved hW.alike hK, tW_warm hW hN⟩⟩ rfl rfl hl.1 rfl (lv_room (Nat.le_of_ble_eq_true rfl)) d_R_isZone_8 ⟨Nat.zero_le _, Nat.zero_le _⟩) hS (fun _ h => h.elim) (fun _ h => h.elim) (fun H locs hP hS => ?_)
  obtain ⟨hb01, hf⟩ := tb_of hf
  obtain ⟨rfl, rfl⟩ := tp_of hf
  exact W.zret (v := r_1) (ty := .boolean) hx hb hr (tb_nar hb01) (fun t ht hW => ⟨rfl, by rw [ht]; exact hP, hS.F ht⟩) hS.2.2 d_R_isZone_11
abbrev rm_R_isPair : Room := { frames := 2, cells := 0, slots := 0, locals := 43 }
set_option maxHeartbeats 4000000 in
set_option maxRecDepth 100000 in
theorem mc_R_isPair (l : Launch) {D : va_G} {ad : Nat → Nat} {ta : Nat → ClassId} (hd : tD 26 ad) {σ σ' : tS} {p0 : Int32} {p1 : Int32} {r : Int32} (hf : mf_R_isPair p0 p1 σ = some (r, σ')) : Met l y_R_isPair (.code y_R_isPair b_R_isPair 3 (some .boolean) :: tw) rm_R_isPair (tP D clS (tyR ta) (cwR ad ta σ) [.ref (ad 0), .int p0, .int p1]) (tQ D clS (cwR ad ta σ') (some (.int r)) tNo) 0 0 tNo := by
  refine Met.ofW (cc := b_R_isPair) (maxL := 3) (ret := (some .boolean)) (by decide) rfl ?_
  intro p e s m args below meth c s₁ B hml hv
  obtain ⟨rfl, hP, hK, hN⟩ := hv
  have hx := B.exec
  have hb := B.bytes
  have hr := B.returns
  have ht : ∀ w ∈ tw, w.before [.ref (ad 0), .int p0, .int p1].toArray s = true := fun w h => atoms_spec (ws := (.code y_R_isPair b_R_isPair 3 (some .boolean) :: tw)) B.pre w (List.mem_cons_of_mem _ h)
  have hown : s.vm.findClass R_R = some m.cls := findClass_of_methodNamed B.named
  have hlocks := B.notSynchronized
  have CX : tC p s m [.ref (ad 0), .int p0, .int p1].toArray meth c b_R_isPair (some .boolean) 3 R_R D clS (tyR ta) := ⟨hx, hb, hr, hml, hown, ht, hlocks, hK, hN⟩
  have hS : va_S tNo s.heap s.heap [] := va_S.rf
  have hl := lv_entry ([.ref (ad 0), .int p0, .int p1]) (n := 3) (Nat.le_of_ble_eq_true rfl)
  rw [lg_entry_eq]
  generalize (lg_sl ([.ref (ad 0), .int p0, .int p1]) ++ List.replicate (3 - (lg_sl ([.ref (ad 0), .int p0, .int p1])).length) Slot.unset).toArray = ls at hl ⊢
  replace hl : lv_has ls 3 [(0, .ref (ad 0)), (1, .int p0), (2, .int p1)] := hl
  unfold mf_R_isPair at hf
  refine lv_aload_n hx hb d_R_isPair_0 rfl (lv_at hl 0 rfl) ?_
  refine lv_iload_n hx hb d_R_isPair_1 rfl (lv_at hl 1 rfl) ?_
  obtain ⟨r_1, s_1, hq1, hf⟩ := tb2_of hf
  refine tr_calli (va_runV (C := R_R) (As := [.int p0]) (rest := []) ⟨hx, hb, hml, hown, ht⟩ (mc_R_isZone l hd hq1) ⟨(tw_cb (n := 1) ht wc_R_isZone wd_43 wd_819 ⟨rfl, rfl⟩ (by decide +kernel) ⟨(Nat.le_of_ble_eq_true rfl), (Nat.le_of_ble_eq_true rfl)⟩), ht _ wd_821, ht _ wd_19⟩ ⟨tP_blind, va_recv hK hP (ci := 8) (q0 := 0) rfl rfl, fun U hU hW => ⟨rfl, by rw [hU]; exact hP, va_K.moved hW.alike hK, tW_warm hW hN⟩⟩ rfl rfl hl.1 rfl (lv_room (Nat.le_of_ble_eq_true rfl)) d_R_isPair_2 ⟨Nat.zero_le _, Nat.zero_le _⟩) hS (fun _ h => h.elim) (fun _ h => h.elim) (fun H locs hP hS => ?_)
  refine lv_if_eq (tgt := 20) hx hb d_R_isPair_5 (by decide) (fun hc => ?_) (fun hc => ?_)
  · replace hf := ti_pos hc hf
    refine lv_iconst (v := (0 : Int32)) hx hb d_R_isPair_20 (by decide) ?_
    obtain ⟨hb01, hf⟩ := tb_of hf
    obtain ⟨rfl, rfl⟩ := tp_of hf
    exact W.zret (v := (0 : Int32)) (ty := .boolean) hx hb hr (tb_nar hb01) (fun t ht hW => ⟨rfl, by rw [ht]; exact hP, hS.F ht⟩) hS.2.2 d_R_isPair_21
  · replace hf := ti_neg hc hf
    refine lv_aload_n hx hb d_R_isPair_8 rfl (lv_at hl 0 rfl) ?_
    refine lv_iload_n hx hb d_R_isPair_9 rfl (lv_at hl 2 rfl) ?_
    obtain ⟨r_2, s_2, hq2, hf⟩ := tb2_of hf
    refine tr_calli (va_runV (C := R_R) (As := [.int p1]) (rest := []) ⟨hx, hb, hml, hown, ht⟩ (mc_R_isZone l hd hq2) ⟨(tw_cb (n := 1) ht wc_R_isZone wd_43 wd_819 ⟨rfl, rfl⟩ (by decide +kernel) ⟨(Nat.le_of_ble_eq_true rfl), (Nat.le_of_ble_eq_true rfl)⟩), ht _ wd_821, ht _ wd_19⟩ ⟨tP_blind, va_recv hK hP (ci := 8) (q0 := 0) rfl rfl, fun U hU hW => ⟨rfl, by rw [hU]; exact hP, va_K.moved hW.alike hK, tW_warm hW hN⟩⟩ rfl rfl hl.1 rfl (lv_room (Nat.le_of_ble_eq_true rfl)) d_R_isPair_10 ⟨Nat.zero_le _, Nat.zero_le _⟩) hS (fun _ h => h.elim) (fun _ h => h.elim) (fun H locs hP hS => ?_)
    refine lv_if_eq (tgt := 20) hx hb d_R_isPair_13 (by decide) (fun hc => ?_) (fun hc => ?_)
    · replace hf := ti_pos hc hf
      refine lv_iconst (v := (0 : Int32)) hx hb d_R_isPair_20 (by decide) ?_
      obtain ⟨hb01, hf⟩ := tb_of hf
      obtain ⟨rfl, rfl⟩ := tp_of hf
      exact W.zret (v := (0 : Int32)) (ty := .boolean) hx hb hr (tb_nar hb01) (fun t ht hW => ⟨rfl, by rw [ht]; exact hP, hS.F ht⟩) hS.2.2 d_R_isPair_21
    · replace hf := ti_neg hc hf
      refine lv_iconst (v := (1 : Int32)) hx hb d_R_isPair_16 (by decide) ?_
      refine lv_goto (tgt := 21) hx hb d_R_isPair_17 (by decide) ?_
      obtain ⟨hb01, hf⟩ := tb_of hf
      obtain ⟨rfl, rfl⟩ := tp_of hf
      exact W.zret (v := (1 : Int32)) (ty := .boolean) hx hb hr (tb_nar hb01) (fun t ht hW => ⟨rfl, by rw [ht]; exact hP, hS.F ht⟩) hS.2.2 d_R_isPair_21
abbrev rm_R_weight : Room := { frames := 3, cells := 0, slots := 0, locals := 65 }
set_option maxHeartbeats 4000000 in
set_option maxRecDepth 100000 in
theorem mc_R_weight (l : Launch) {D : va_G} {ad : Nat → Nat} {ta : Nat → ClassId} (hd : tD 26 ad) {σ σ' : tS} {p0 : Int32} {p1 : Int32} {p2 : Int32} {r : Int32} (hf : mf_R_weight p0 p1 p2 σ = some (r, σ')) : Met l y_R_weight (.code y_R_weight b_R_weight 5 (some .int) :: tw) rm_R_weight (tP D clS (tyR ta) (cwR ad ta σ) [.ref (ad 0), .int p0, .int p1, .int p2]) (tQ D clS (cwR ad ta σ') (some (.int r)) (tA 26 ad)) 0 0 (tA 26 ad) := by
  refine Met.ofW (cc := b_R_weight) (maxL := 5) (ret := (some .int)) (by decide) rfl ?_
  intro p e s m args below meth c s₁ B hml hv
  obtain ⟨rfl, hP, hK, hN⟩ := hv
  have hx := B.exec
  have hb := B.bytes
  have hr := B.returns
  have ht : ∀ w ∈ tw, w.before [.ref (ad 0), .int p0, .int p1, .int p2].toArray s = true := fun w h => atoms_spec (ws := (.code y_R_weight b_R_weight 5 (some .int) :: tw)) B.pre w (List.mem_cons_of_mem _ h)
  have hown : s.vm.findClass R_R = some m.cls := findClass_of_methodNamed B.named
  have hlocks := B.notSynchronized
  have CX : tC p s m [.ref (ad 0), .int p0, .int p1, .int p2].toArray meth c b_R_weight (some .int) 5 R_R D clS (tyR ta) := ⟨hx, hb, hr, hml, hown, ht, hlocks, hK, hN⟩
  have hS : va_S (tA 26 ad) s.heap s.heap [] := va_S.rf
  have hl := lv_entry ([.ref (ad 0), .int p0, .int p1, .int p2]) (n := 5) (Nat.le_of_ble_eq_true rfl)
  rw [lg_entry_eq]
  generalize (lg_sl ([.ref (ad 0), .int p0, .int p1, .int p2]) ++ List.replicate (5 - (lg_sl ([.ref (ad 0), .int p0, .int p1, .int p2])).length) Slot.unset).toArray = ls at hl ⊢
  replace hl : lv_has ls 5 [(0, .ref (ad 0)), (1, .int p0), (2, .int p1), (3, .int p2)] := hl
  unfold mf_R_weight at hf
  refine lv_aload_n hx hb d_R_weight_0 rfl (lv_at hl 0 rfl) ?_
  refine lv_aload_n hx hb d_R_weight_1 rfl (lv_at hl 0 rfl) ?_
  refine lv_iload_n hx hb d_R_weight_2 rfl (lv_at hl 1 rfl) ?_
  refine lv_iload_n hx hb d_R_weight_3 rfl (lv_at hl 2 rfl) ?_
  obtain ⟨r_1, s_1, hq1, hf⟩ := tb2_of hf
  refine tr_calli (va_runV (C := R_R) (As := [.int p0, .int p1]) (rest := [.ref (ad 0)]) ⟨hx, hb, hml, hown, ht⟩ (mc_R_isPair l hd hq1) ⟨(tw_cb (n := 2) ht wc_R_isPair wd_43 wd_815 ⟨rfl, rfl⟩ (by decide +kernel) ⟨(Nat.le_of_ble_eq_true rfl), (Nat.le_of_ble_eq_true rfl)⟩), ht _ wd_817, ht _ wd_18⟩ ⟨tP_blind, va_recv hK hP (ci := 8) (q0 := 0) rfl rfl, fun U hU hW => ⟨rfl, by rw [hU]; exact hP, va_K.moved hW.alike hK, tW_warm hW hN⟩⟩ rfl rfl hl.1 rfl (lv_room (Nat.le_of_ble_eq_true rfl)) d_R_weight_4 ⟨Nat.zero_le _, Nat.zero_le _⟩) hS (fun _ h => h.elim) (fun _ h => h.elim) (fun H locs hP hS => ?_)
  refine lv_if_eq (tgt := 25) hx hb d_R_weight_7 (by decide) (fun hc => ?_) (fun hc => ?_)
  · replace hf := ti_pos hc hf
    refine lv_iconst (v := (1 : Int32)) hx hb d_R_weight_25 (by decide) ?_
    refine va_put (ci := 8) (v := .int (1 : Int32)) (ty := .int) (C := R_R) (T := F_R) (N := 32) hx hb ht iw_R ft_R to_R nm_R hown hK hP (cwR_D hd) hS 0 rfl rfl 0 (by decide) (ht _ wd_677) (fun _ h9 => h9) rfl (by decide +kernel) rfl rfl (Nat.le_of_ble_eq_true rfl) d_R_weight_26 (fun H locs hP _ hS => ?_)
    replace hP : va_P D clS (cwR ad ta (tF s_1 0 (1 : Int32))) H := hP
    refine lv_aload_n hx hb d_R_weight_29 rfl (lv_at hl 0 rfl) ?_
    refine va_get (ci := 8) (v := .int (1 : Int32)) (C := R_R) (T := F_R) (N := 32) hx hb ht iw_R hown hK hP 0 rfl rfl 0 (by decide) (ht _ wd_677) (fun _ h9 => h9) rfl d_R_weight_30 ?_
    refine lv_if_le (tgt := 38) hx hb d_R_weight_33 (by decide) (fun hc => ?_) (fun hc => ?_)
    · replace hf := ti_pos hc hf
      refine lv_aload_n hx hb d_R_weight_38 rfl (lv_at hl 0 rfl) ?_
      refine va_get (ci := 8) (v := .ref (ad 13)) (C := R_R) (T := F_R) (N := 32) hx hb ht iw_R hown hK hP 0 rfl rfl 16 (by decide) (ht _ wd_693) (fun _ h9 => h9) rfl d_R_weight_39 ?_
      refine lv_bipush (v := (6 : Int32)) hx hb d_R_weight_42 (by decide) ?_
      refine lv_iload_n hx hb d_R_weight_44 rfl (lv_at hl 1 rfl) ?_
      refine lv_imul hx hb d_R_weight_45 ?_
      refine lv_iload_n hx hb d_R_weight_46 rfl (lv_at hl 2 rfl) ?_
      refine lv_iadd hx hb d_R_weight_47 ?_
      obtain ⟨hi2, hf⟩ := tg_of hf
      refine va_iald (f := s_1.2.1 11) hx hb hK hP 13 12 rfl rfl hi2 d_R_weight_48 ?_
      refine lv_istore (lv' := [(4, .int (s_1.2.1 11 (((6 : Int32) * p0) + p1).toNatClampNeg)), (0, .ref (ad 0)), (1, .int p0), (2, .int p1), (3, .int p2)]) hx hb d_R_weight_49 hl (by decide) rfl (fun ls hl => ?_)
      refine lv_aload_n hx hb d_R_weight_51 rfl (lv_at hl 1 rfl) ?_
      refine va_get (ci := 8) (v := .ref (ad 13)) (C := R_R) (T := F_R) (N := 32) hx hb ht iw_R hown hK hP 0 rfl rfl 16 (by decide) (ht _ wd_693) (fun _ h9 => h9) rfl d_R_weight_52 ?_
      refine lv_bipush (v := (6 : Int32)) hx hb d_R_weight_55 (by decide) ?_
      refine lv_iload_n hx hb d_R_weight_57 rfl (lv_at hl 2 rfl) ?_
      refine lv_imul hx hb d_R_weight_58 ?_
      refine lv_iload_n hx hb d_R_weight_59 rfl (lv_at hl 3 rfl) ?_
      refine lv_iadd hx hb d_R_weight_60 ?_
      refine lv_iload_n hx hb d_R_weight_61 rfl (lv_at hl 4 rfl) ?_
      obtain ⟨hi3, hf⟩ := tg_of hf
      refine va_iast (f := s_1.2.1 11) hx hb hK hP (cwR_D hd) hS 13 12 rfl rfl hi3 d_R_weight_62 (fun H locs hP _ hS => ?_)
      replace hP : va_P D clS (cwR ad ta (tI (tF s_1 0 (1 : Int32)) 11 ((((6 : Int32) * p0) + p1).toNatClampNeg) p2)) H := hP
      refine lv_iload hx hb d_R_weight_63 (lv_at hl 0 rfl) ?_
      obtain ⟨rfl, rfl⟩ := tp_of hf
      exact W.iret (v := (s_1.2.1 11 (((6 : Int32) * p0) + p1).toNatClampNeg)) hx hb hr (fun t ht hW => ⟨rfl, by rw [ht]; exact hP, hS.F ht⟩) hS.2.2 d_R_weight_65
    · replace hf := ti_neg hc hf
      refine lv_iconst (v := (0 : Int32)) hx hb d_R_weight_36 (by decide) ?_
      obtain ⟨rfl, rfl⟩ := tp_of hf
      exact W.iret (v := (0 : Int32)) hx hb hr (fun t ht hW => ⟨rfl, by rw [ht]; exact hP, hS.F ht⟩) hS.2.2 d_R_weight_37
  · replace hf := ti_neg hc hf
    refine lv_iload_n hx hb d_R_weight_10 rfl (lv_at hl 3 rfl) ?_
    refine lv_iconst (v := (0 : Int32)) hx hb d_R_weight_11 (by decide) ?_
    refine lv_sipush (v := (1000 : Int32)) hx hb d_R_weight_12 (by decide) ?_
    obtain ⟨r_4, s_4, hq4, hf⟩ := tb2_of hf
    refine tr_calli (va_runS (As := [.int p2, .int (0 : Int32), .int (1000 : Int32)]) (rest := [.ref (ad 0)]) ⟨hx, hb, hml, hown, ht⟩ (mc_R_isIn l hd hq4) ⟨(tw_cb (n := 3) ht wc_R_isIn wd_43 wd_790 ⟨rfl, rfl⟩ (by decide +kernel) ⟨(Nat.le_of_ble_eq_true rfl), (Nat.le_of_ble_eq_true rfl)⟩), ht _ wd_791⟩ ⟨tP_blind, fun U hU hW => ⟨rfl, by rw [hU]; exact hP, va_K.moved hW.alike hK, tW_warm hW hN⟩⟩ rfl rfl hl.1 rfl (lv_room (Nat.le_of_ble_eq_true rfl)) d_R_weight_15 ⟨Nat.zero_le _, Nat.zero_le _⟩) hS (fun _ h => h.elim) (fun _ h => h.elim) (fun H locs hP hS => ?_)
    refine lv_if_eq (tgt := 25) hx hb d_R_weight_18 (by decide) (fun hc => ?_) (fun hc => ?_)
    · replace hf := ti_pos hc hf
      refine lv_iconst (v := (1 : Int32)) hx hb d_R_weight_25 (by decide) ?_
      refine va_put (ci := 8) (v := .int (1 : Int32)) (ty := .int) (C := R_R) (T := F_R) (N := 32) hx hb ht iw_R ft_R to_R nm_R hown hK hP (cwR_D hd) hS 0 rfl rfl 0 (by decide) (ht _ wd_677) (fun _ h9 => h9) rfl (by decide +kernel) rfl rfl (Nat.le_of_ble_eq_true rfl) d_R_weight_26 (fun H locs hP _ hS => ?_)
      replace hP : va_P D clS (cwR ad ta (tF s_4 0 (1 : Int32))) H := hP
      refine lv_aload_n hx hb d_R_weight_29 rfl (lv_at hl 0 rfl) ?_
      refine va_get (ci := 8) (v := .int (1 : Int32)) (C := R_R) (T := F_R) (N := 32) hx hb ht iw_R hown hK hP 0 rfl rfl 0 (by decide) (ht _ wd_677) (fun _ h9 => h9) rfl d_R_weight_30 ?_
      refine lv_if_le (tgt := 38) hx hb d_R_weight_33 (by decide) (fun hc => ?_) (fun hc => ?_)
      · replace hf := ti_pos hc hf
        refine lv_aload_n hx hb d_R_weight_38 rfl (lv_at hl 0 rfl) ?_
        refine va_get (ci := 8) (v := .ref (ad 13)) (C := R_R) (T := F_R) (N := 32) hx hb ht iw_R hown hK hP 0 rfl rfl 16 (by decide) (ht _ wd_693) (fun _ h9 => h9) rfl d_R_weight_39 ?_
        refine lv_bipush (v := (6 : Int32)) hx hb d_R_weight_42 (by decide) ?_
        refine lv_iload_n hx hb d_R_weight_44 rfl (lv_at hl 1 rfl) ?_
        refine lv_imul hx hb d_R_weight_45 ?_
        refine lv_iload_n hx hb d_R_weight_46 rfl (lv_at hl 2 rfl) ?_
        refine lv_iadd hx hb d_R_weight_47 ?_
        obtain ⟨hi5, hf⟩ := tg_of hf
        refine va_iald (f := s_4.2.1 11) hx hb hK hP 13 12 rfl rfl hi5 d_R_weight_48 ?_
        refine lv_istore (lv' := [(4, .int (s_4.2.1 11 (((6 : Int32) * p0) + p1).toNatClampNeg)), (0, .ref (ad 0)), (1, .int p0), (2, .int p1), (3, .int p2)]) hx hb d_R_weight_49 hl (by decide) rfl (fun ls hl => ?_)
        refine lv_aload_n hx hb d_R_weight_51 rfl (lv_at hl 1 rfl) ?_
        refine va_get (ci := 8) (v := .ref (ad 13)) (C := R_R) (T := F_R) (N := 32) hx hb ht iw_R hown hK hP 0 rfl rfl 16 (by decide) (ht _ wd_693) (fun _ h9 => h9) rfl d_R_weight_52 ?_
        refine lv_bipush (v := (6 : Int32)) hx hb d_R_weight_55 (by decide) ?_
        refine lv_iload_n hx hb d_R_weight_57 rfl (lv_at hl 2 rfl) ?_
        refine lv_imul hx hb d_R_weight_58 ?_
        refine lv_iload_n hx hb d_R_weight_59 rfl (lv_at hl 3 rfl) ?_
        refine lv_iadd hx hb d_R_weight_60 ?_
        refine lv_iload_n hx hb d_R_weight_61 rfl (lv_at hl 4 rfl) ?_
        obtain ⟨hi6, hf⟩ := tg_of hf
        refine va_iast (f := s_4.2.1 11) hx hb hK hP (cwR_D hd) hS 13 12 rfl rfl hi6 d_R_weight_62 (fun H locs hP _ hS => ?_)
        replace hP : va_P D clS (cwR ad ta (tI (tF s_4 0 (1 : Int32)) 11 ((((6 : Int32) * p0) + p1).toNatClampNeg) p2)) H := hP
        refine lv_iload hx hb d_R_weight_63 (lv_at hl 0 rfl) ?_
        obtain ⟨rfl, rfl⟩ := tp_of hf
        exact W.iret (v := (s_4.2.1 11 (((6 : Int32) * p0) + p1).toNatClampNeg)) hx hb hr (fun t ht hW => ⟨rfl, by rw [ht]; exact hP, hS.F ht⟩) hS.2.2 d_R_weight_65
      · replace hf := ti_neg hc hf
        refine lv_iconst (v := (0 : Int32)) hx hb d_R_weight_36 (by decide) ?_
        obtain ⟨rfl, rfl⟩ := tp_of hf
        exact W.iret (v := (0 : Int32)) hx hb hr (fun t ht hW => ⟨rfl, by rw [ht]; exact hP, hS.F ht⟩) hS.2.2 d_R_weight_37
    · replace hf := ti_neg hc hf
      refine lv_iconst (v := (0 : Int32)) hx hb d_R_weight_21 (by decide) ?_
      refine lv_goto (tgt := 26) hx hb d_R_weight_22 (by decide) ?_
      refine va_put (ci := 8) (v := .int (0 : Int32)) (ty := .int) (C := R_R) (T := F_R) (N := 32) hx hb ht iw_R ft_R to_R nm_R hown hK hP (cwR_D hd) hS 0 rfl rfl 0 (by decide) (ht _ wd_677) (fun _ h9 => h9) rfl (by decide +kernel) rfl rfl (Nat.le_of_ble_eq_true rfl) d_R_weight_26 (fun H locs hP _ hS => ?_)
      replace hP : va_P D clS (cwR ad ta (tF s_4 0 (0 : Int32))) H := hP
      refine lv_aload_n hx hb d_R_weight_29 rfl (lv_at hl 0 rfl) ?_
      refine va_get (ci := 8) (v := .int (0 : Int32)) (C := R_R) (T := F_R) (N := 32) hx hb ht iw_R hown hK hP 0 rfl rfl 0 (by decide) (ht _ wd_677) (fun _ h9 => h9) rfl d_R_weight_30 ?_
      refine lv_if_le (tgt := 38) hx hb d_R_weight_33 (by decide) (fun hc => ?_) (fun hc => ?_)
      · replace hf := ti_pos hc hf
        refine lv_aload_n hx hb d_R_weight_38 rfl (lv_at hl 0 rfl) ?_
        refine va_get (ci := 8) (v := .ref (ad 13)) (C := R_R) (T := F_R) (N := 32) hx hb ht iw_R hown hK hP 0 rfl rfl 16 (by decide) (ht _ wd_693) (fun _ h9 => h9) rfl d_R_weight_39 ?_
        refine lv_bipush (v := (6 : Int32)) hx hb d_R_weight_42 (by decide) ?_
        refine lv_iload_n hx hb d_R_weight_44 rfl (lv_at hl 1 rfl) ?_
        refine lv_imul hx hb d_R_weight_45 ?_
        refine lv_iload_n hx hb d_R_weight_46 rfl (lv_at hl 2 rfl) ?_
        refine lv_iadd hx hb d_R_weight_47 ?_
        obtain ⟨hi7, hf⟩ := tg_of hf
        refine va_iald (f := s_4.2.1 11) hx hb hK hP 13 12 rfl rfl hi7 d_R_weight_48 ?_
        refine lv_istore (lv' := [(4, .int (s_4.2.1 11 (((6 : Int32) * p0) + p1).toNatClampNeg)), (0, .ref (ad 0)), (1, .int p0), (2, .int p1), (3, .int p2)]) hx hb d_R_weight_49 hl (by decide) rfl (fun ls hl => ?_)
        refine lv_aload_n hx hb d_R_weight_51 rfl (lv_at hl 1 rfl) ?_
        refine va_get (ci := 8) (v := .ref (ad 13)) (C := R_R) (T := F_R) (N := 32) hx hb ht iw_R hown hK hP 0 rfl rfl 16 (by decide) (ht _ wd_693) (fun _ h9 => h9) rfl d_R_weight_52 ?_
        refine lv_bipush (v := (6 : Int32)) hx hb d_R_weight_55 (by decide) ?_
        refine lv_iload_n hx hb d_R_weight_57 rfl (lv_at hl 2 rfl) ?_
        refine lv_imul hx hb d_R_weight_58 ?_
        refine lv_iload_n hx hb d_R_weight_59 rfl (lv_at hl 3 rfl) ?_
        refine lv_iadd hx hb d_R_weight_60 ?_
        refine lv_iload_n hx hb d_R_weight_61 rfl (lv_at hl 4 rfl) ?_
        obtain ⟨hi8, hf⟩ := tg_of hf
        refine va_iast (f := s_4.2.1 11) hx hb hK hP (cwR_D hd) hS 13 12 rfl rfl hi8 d_R_weight_62 (fun H locs hP _ hS => ?_)
        replace hP : va_P D clS (cwR ad ta (tI (tF s_4 0 (0 : Int32)) 11 ((((6 : Int32) * p0) + p1).toNatClampNeg) p2)) H := hP
        refine lv_iload hx hb d_R_weight_63 (lv_at hl 0 rfl) ?_
        obtain ⟨rfl, rfl⟩ := tp_of hf
        exact W.iret (v := (s_4.2.1 11 (((6 : Int32) * p0) + p1).toNatClampNeg)) hx hb hr (fun t ht hW => ⟨rfl, by rw [ht]; exact hP, hS.F ht⟩) hS.2.2 d_R_weight_65
      · replace hf := ti_neg hc hf
        refine lv_iconst (v := (0 : Int32)) hx hb d_R_weight_36 (by decide) ?_
        obtain ⟨rfl, rfl⟩ := tp_of hf
        exact W.iret (v := (0 : Int32)) hx hb hr (fun t ht hW => ⟨rfl, by rw [ht]; exact hP, hS.F ht⟩) hS.2.2 d_R_weight_37
abbrev rm_R_size : Room := { frames := 2, cells := 0, slots := 0, locals := 43 }
set_option maxHeartbeats 4000000 in
set_option maxRecDepth 100000 in
theorem mc_R_size (l : Launch) {D : va_G} {ad : Nat → Nat} {ta : Nat → ClassId} (hd : tD 26 ad) {σ σ' : tS} {p0 : Int32} {p1 : Int32} {p2 : Int32} {r : Int32} (hf : mf_R_size p0 p1 p2 σ = some (r, σ')) : Met l y_R_size (.code y_R_size b_R_size 5 (some .int) :: tw) rm_R_size (tP D clS (tyR ta) (cwR ad ta σ) [.ref (ad 0), .int p0, .int p1, .int p2]) (tQ D clS (cwR ad ta σ') (some (.int r)) (tA 26 ad)) 0 0 (tA 26 ad) := by
  refine Met.ofW (cc := b_R_size) (maxL := 5) (ret := (some .int)) (by decide) rfl ?_
  intro p e s m args below meth c s₁ B hml hv
  obtain ⟨rfl, hP, hK, hN⟩ := hv
  have hx := B.exec
  have hb := B.bytes
  have hr := B.returns
  have ht : ∀ w ∈ tw, w.before [.ref (ad 0), .int p0, .int p1, .int p2].toArray s = true := fun w h => atoms_spec (ws := (.code y_R_size b_R_size 5 (some .int) :: tw)) B.pre w (List.mem_cons_of_mem _ h)
  have hown : s.vm.findClass R_R = some m.cls := findClass_of_methodNamed B.named
  have hlocks := B.notSynchronized
  have CX : tC p s m [.ref (ad 0), .int p0, .int p1, .int p2].toArray meth c b_R_size (some .int) 5 R_R D clS (tyR ta) := ⟨hx, hb, hr, hml, hown, ht, hlocks, hK, hN⟩
  have hS : va_S (tA 26 ad) s.heap s.heap [] := va_S.rf
  have hl := lv_entry ([.ref (ad 0), .int p0, .int p1, .int p2]) (n := 5) (Nat.le_of_ble_eq_true rfl)
  rw [lg_entry_eq]
  generalize (lg_sl ([.ref (ad 0), .int p0, .int p1, .int p2]) ++ List.replicate (5 - (lg_sl ([.ref (ad 0), .int p0, .int p1, .int p2])).length) Slot.unset).toArray = ls at hl ⊢
  replace hl : lv_has ls 5 [(0, .ref (ad 0)), (1, .int p0), (2, .int p1), (3, .int p2)] := hl
  unfold mf_R_size at hf
  refine lv_aload_n hx hb d_R_size_0 rfl (lv_at hl 0 rfl) ?_
  refine lv_aload_n hx hb d_R_size_1 rfl (lv_at hl 0 rfl) ?_
  refine lv_iload_n hx hb d_R_size_2 rfl (lv_at hl 1 rfl) ?_
  obtain ⟨r_1, s_1, hq1, hf⟩ := tb2_of hf
  refine tr_calli (va_runV (C := R_R) (As := [.int p0]) (rest := [.ref (ad 0)]) ⟨hx, hb, hml, hown, ht⟩ (mc_R_isZone l hd hq1) ⟨(tw_cb (n := 1) ht wc_R_isZone wd_43 wd_819 ⟨rfl, rfl⟩ (by decide +kernel) ⟨(Nat.le_of_ble_eq_true rfl), (Nat.le_of_ble_eq_true rfl)⟩), ht _ wd_821, ht _ wd_19⟩ ⟨tP_blind, va_recv hK hP (ci := 8) (q0 := 0) rfl rfl, fun U hU hW => ⟨rfl, by rw [hU]; exact hP, va_K.moved hW.alike hK, tW_warm hW hN⟩⟩ rfl rfl hl.1 rfl (lv_room (Nat.le_of_ble_eq_true rfl)) d_R_size_3 ⟨Nat.zero_le _, Nat.zero_le _⟩) hS (fun _ h => h.elim) (fun _ h => h.elim) (fun H locs hP hS => ?_)
  refine lv_if_eq (tgt := 32) hx hb d_R_size_6 (by decide) (fun hc => ?_) (fun hc => ?_)
  · replace hf := ti_pos hc hf
    refine lv_iconst (v := (1 : Int32)) hx hb d_R_size_32 (by decide) ?_
    refine va_put (ci := 8) (v := .int (1 : Int32)) (ty := .int) (C := R_R) (T := F_R) (N := 32) hx hb ht iw_R ft_R to_R nm_R hown hK hP (cwR_D hd) hS 0 rfl rfl 0 (by decide) (ht _ wd_677) (fun _ h9 => h9) rfl (by decide +kernel) rfl rfl (Nat.le_of_ble_eq_true rfl) d_R_size_33 (fun H locs hP _ hS => ?_)
    replace hP : va_P D clS (cwR ad ta (tF s_1 0 (1 : Int32))) H := hP
    refine lv_aload_n hx hb d_R_size_36 rfl (lv_at hl 0 rfl) ?_
    refine va_get (ci := 8) (v := .int (1 : Int32)) (C := R_R) (T := F_R) (N := 32) hx hb ht iw_R hown hK hP 0 rfl rfl 0 (by decide) (ht _ wd_677) (fun _ h9 => h9) rfl d_R_size_37 ?_
    refine lv_if_le (tgt := 45) hx hb d_R_size_40 (by decide) (fun hc => ?_) (fun hc => ?_)
    · replace hf := ti_pos hc hf
      refine lv_iload_n hx hb d_R_size_45 rfl (lv_at hl 2 rfl) ?_
      refine lv_if_ne (tgt := 58) hx hb d_R_size_46 (by decide) (fun hc => ?_) (fun hc => ?_)
      · replace hf := ti_neg hc hf
        refine lv_aload_n hx hb d_R_size_58 rfl (lv_at hl 0 rfl) ?_
        refine va_get (ci := 8) (v := .ref (ad 3)) (C := R_R) (T := F_R) (N := 32) hx hb ht iw_R hown hK hP 0 rfl rfl 6 (by decide) (ht _ wd_683) (fun _ h9 => h9) rfl d_R_size_59 ?_
        refine lv_iload_n hx hb d_R_size_62 rfl (lv_at hl 1 rfl) ?_
        obtain ⟨hi2, hf⟩ := tg_of hf
        refine va_iald (f := s_1.2.1 2) hx hb hK hP 3 2 rfl rfl hi2 d_R_size_63 ?_
        refine lv_istore (lv' := [(4, .int (s_1.2.1 2 p0.toNatClampNeg)), (0, .ref (ad 0)), (1, .int p0), (2, .int p1), (3, .int p2)]) hx hb d_R_size_64 hl (by decide) rfl (fun ls hl => ?_)
        refine lv_iload_n hx hb d_R_size_66 rfl (lv_at hl 3 rfl) ?_
        refine lv_if_ne (tgt := 80) hx hb d_R_size_67 (by decide) (fun hc => ?_) (fun hc => ?_)
        · replace hf := ti_neg hc hf
          refine lv_aload_n hx hb d_R_size_80 rfl (lv_at hl 1 rfl) ?_
          refine va_get (ci := 8) (v := .ref (ad 3)) (C := R_R) (T := F_R) (N := 32) hx hb ht iw_R hown hK hP 0 rfl rfl 6 (by decide) (ht _ wd_683) (fun _ h9 => h9) rfl d_R_size_81 ?_
          refine lv_iload_n hx hb d_R_size_84 rfl (lv_at hl 2 rfl) ?_
          refine lv_iload_n hx hb d_R_size_85 rfl (lv_at hl 4 rfl) ?_
          obtain ⟨hi3, hf⟩ := tg_of hf
          refine va_iast (f := s_1.2.1 2) hx hb hK hP (cwR_D hd) hS 3 2 rfl rfl hi3 d_R_size_86 (fun H locs hP _ hS => ?_)
          replace hP : va_P D clS (cwR ad ta (tI (tF s_1 0 (1 : Int32)) 2 p0.toNatClampNeg p2)) H := hP
          refine lv_iload hx hb d_R_size_87 (lv_at hl 0 rfl) ?_
          obtain ⟨rfl, rfl⟩ := tp_of hf
          exact W.iret (v := (s_1.2.1 2 p0.toNatClampNeg)) hx hb hr (fun t ht hW => ⟨rfl, by rw [ht]; exact hP, hS.F ht⟩) hS.2.2 d_R_size_89
        · replace hf := ti_pos hc hf
          refine lv_aload_n hx hb d_R_size_70 rfl (lv_at hl 1 rfl) ?_
          refine va_get (ci := 8) (v := .ref (ad 2)) (C := R_R) (T := F_R) (N := 32) hx hb ht iw_R hown hK hP 0 rfl rfl 5 (by decide) (ht _ wd_682) (fun _ h9 => h9) rfl d_R_size_71 ?_
          refine lv_iload_n hx hb d_R_size_74 rfl (lv_at hl 2 rfl) ?_
          refine lv_iload_n hx hb d_R_size_75 rfl (lv_at hl 4 rfl) ?_
          obtain ⟨hi4, hf⟩ := tg_of hf
          refine va_iast (f := s_1.2.1 1) hx hb hK hP (cwR_D hd) hS 2 1 rfl rfl hi4 d_R_size_76 (fun H locs hP _ hS => ?_)
          replace hP : va_P D clS (cwR ad ta (tI (tF s_1 0 (1 : Int32)) 1 p0.toNatClampNeg p2)) H := hP
          refine lv_goto (tgt := 87) hx hb d_R_size_77 (by decide) ?_
          refine lv_iload hx hb d_R_size_87 (lv_at hl 0 rfl) ?_
          obtain ⟨rfl, rfl⟩ := tp_of hf
          exact W.iret (v := (s_1.2.1 2 p0.toNatClampNeg)) hx hb hr (fun t ht hW => ⟨rfl, by rw [ht]; exact hP, hS.F ht⟩) hS.2.2 d_R_size_89
      · replace hf := ti_pos hc hf
        refine lv_aload_n hx hb d_R_size_49 rfl (lv_at hl 0 rfl) ?_
        refine va_get (ci := 8) (v := .ref (ad 2)) (C := R_R) (T := F_R) (N := 32) hx hb ht iw_R hown hK hP 0 rfl rfl 5 (by decide) (ht _ wd_682) (fun _ h9 => h9) rfl d_R_size_50 ?_
        refine lv_iload_n hx hb d_R_size_53 rfl (lv_at hl 1 rfl) ?_
        obtain ⟨hi5, hf⟩ := tg_of hf
        refine va_iald (f := s_1.2.1 1) hx hb hK hP 2 1 rfl rfl hi5 d_R_size_54 ?_
        refine lv_goto (tgt := 64) hx hb d_R_size_55 (by decide) ?_
        refine lv_istore (lv' := [(4, .int (s_1.2.1 1 p0.toNatClampNeg)), (0, .ref (ad 0)), (1, .int p0), (2, .int p1), (3, .int p2)]) hx hb d_R_size_64 hl (by decide) rfl (fun ls hl => ?_)
        refine lv_iload_n hx hb d_R_size_66 rfl (lv_at hl 3 rfl) ?_
        refine lv_if_ne (tgt := 80) hx hb d_R_size_67 (by decide) (fun hc => ?_) (fun hc => ?_)
        · replace hf := ti_neg hc hf
          refine lv_aload_n hx hb d_R_size_80 rfl (lv_at hl 1 rfl) ?_
          refine va_get (ci := 8) (v := .ref (ad 3)) (C := R_R) (T := F_R) (N := 32) hx hb ht iw_R hown hK hP 0 rfl rfl 6 (by decide) (ht _ wd_683) (fun _ h9 => h9) rfl d_R_size_81 ?_
          refine lv_iload_n hx hb d_R_size_84 rfl (lv_at hl 2 rfl) ?_
          refine lv_iload_n hx hb d_R_size_85 rfl (lv_at hl 4 rfl) ?_
          obtain ⟨hi6, hf⟩ := tg_of hf
          refine va_iast (f := s_1.2.1 2) hx hb hK hP (cwR_D hd) hS 3 2 rfl rfl hi6 d_R_size_86 (fun H locs hP _ hS => ?_)
          replace hP : va_P D clS (cwR ad ta (tI (tF s_1 0 (1 : Int32)) 2 p0.toNatClampNeg p2)) H := hP
          refine lv_iload hx hb d_R_size_87 (lv_at hl 0 rfl) ?_
          obtain ⟨rfl, rfl⟩ := tp_of hf
          exact W.iret (v := (s_1.2.1 1 p0.toNatClampNeg)) hx hb hr (fun t ht hW => ⟨rfl, by rw [ht]; exact hP, hS.F ht⟩) hS.2.2 d_R_size_89
        · replace hf := ti_pos hc hf
          refine lv_aload_n hx hb d_R_size_70 rfl (lv_at hl 1 rfl) ?_
          refine va_get (ci := 8) (v := .ref (ad 2)) (C := R_R) (T := F_R) (N := 32) hx hb ht iw_R hown hK hP 0 rfl rfl 5 (by decide) (ht _ wd_682) (fun _ h9 => h9) rfl d_R_size_71 ?_
          refine lv_iload_n hx hb d_R_size_74 rfl (lv_at hl 2 rfl) ?_
          refine lv_iload_n hx hb d_R_size_75 rfl (lv_at hl 4 rfl) ?_
          obtain ⟨hi7, hf⟩ := tg_of hf
          refine va_iast (f := s_1.2.1 1) hx hb hK hP (cwR_D hd) hS 2 1 rfl rfl hi7 d_R_size_76 (fun H locs hP _ hS => ?_)
          replace hP : va_P D clS (cwR ad ta (tI (tF s_1 0 (1 : Int32)) 1 p0.toNatClampNeg p2)) H := hP
          refine lv_goto (tgt := 87) hx hb d_R_size_77 (by decide) ?_
          refine lv_iload hx hb d_R_size_87 (lv_at hl 0 rfl) ?_
          obtain ⟨rfl, rfl⟩ := tp_of hf
          exact W.iret (v := (s_1.2.1 1 p0.toNatClampNeg)) hx hb hr (fun t ht hW => ⟨rfl, by rw [ht]; exact hP, hS.F ht⟩) hS.2.2 d_R_size_89
    · replace hf := ti_neg hc hf
      refine lv_iconst (v := (0 : Int32)) hx hb d_R_size_43 (by decide) ?_
      obtain ⟨rfl, rfl⟩ := tp_of hf
      exact W.iret (v := (0 : Int32)) hx hb hr (fun t ht hW => ⟨rfl, by rw [ht]; exact hP, hS.F ht⟩) hS.2.2 d_R_size_44
  · replace hf := ti_neg hc hf
    refine lv_iload_n hx hb d_R_size_9 rfl (lv_at hl 2 rfl) ?_
    refine lv_iconst (v := (0 : Int32)) hx hb d_R_size_10 (by decide) ?_
    refine lv_iconst (v := (1 : Int32)) hx hb d_R_size_11 (by decide) ?_
    obtain ⟨r_8, s_8, hq8, hf⟩ := tb2_of hf
    refine tr_calli (va_runS (As := [.int p1, .int (0 : Int32), .int (1 : Int32)]) (rest := [.ref (ad 0)]) ⟨hx, hb, hml, hown, ht⟩ (mc_R_isIn l hd hq8) ⟨(tw_cb (n := 3) ht wc_R_isIn wd_43 wd_790 ⟨rfl, rfl⟩ (by decide +kernel) ⟨(Nat.le_of_ble_eq_true rfl), (Nat.le_of_ble_eq_true rfl)⟩), ht _ wd_791⟩ ⟨tP_blind, fun U hU hW => ⟨rfl, by rw [hU]; exact hP, va_K.moved hW.alike hK, tW_warm hW hN⟩⟩ rfl rfl hl.1 rfl (lv_room (Nat.le_of_ble_eq_true rfl)) d_R_size_12 ⟨Nat.zero_le _, Nat.zero_le _⟩) hS (fun _ h => h.elim) (fun _ h => h.elim) (fun H locs hP hS => ?_)
    refine lv_if_eq (tgt := 32) hx hb d_R_size_15 (by decide) (fun hc => ?_) (fun hc => ?_)
    · replace hf := ti_pos hc hf
      refine lv_iconst (v := (1 : Int32)) hx hb d_R_size_32 (by decide) ?_
      refine va_put (ci := 8) (v := .int (1 : Int32)) (ty := .int) (C := R_R) (T := F_R) (N := 32) hx hb ht iw_R ft_R to_R nm_R hown hK hP (cwR_D hd) hS 0 rfl rfl 0 (by decide) (ht _ wd_677) (fun _ h9 => h9) rfl (by decide +kernel) rfl rfl (Nat.le_of_ble_eq_true rfl) d_R_size_33 (fun H locs hP _ hS => ?_)
      replace hP : va_P D clS (cwR ad ta (tF s_8 0 (1 : Int32))) H := hP
      refine lv_aload_n hx hb d_R_size_36 rfl (lv_at hl 0 rfl) ?_
      refine va_get (ci := 8) (v := .int (1 : Int32)) (C := R_R) (T := F_R) (N := 32) hx hb ht iw_R hown hK hP 0 rfl rfl 0 (by decide) (ht _ wd_677) (fun _ h9 => h9) rfl d_R_size_37 ?_
      refine lv_if_le (tgt := 45) hx hb d_R_size_40 (by decide) (fun hc => ?_) (fun hc => ?_)
      · replace hf := ti_pos hc hf
        refine lv_iload_n hx hb d_R_size_45 rfl (lv_at hl 2 rfl) ?_
        refine lv_if_ne (tgt := 58) hx hb d_R_size_46 (by decide) (fun hc => ?_) (fun hc => ?_)
        · replace hf := ti_neg hc hf
          refine lv_aload_n hx hb d_R_size_58 rfl (lv_at hl 0 rfl) ?_
          refine va_get (ci := 8) (v := .ref (ad 3)) (C := R_R) (T := F_R) (N := 32) hx hb ht iw_R hown hK hP 0 rfl rfl 6 (by decide) (ht _ wd_683) (fun _ h9 => h9) rfl d_R_size_59 ?_
          refine lv_iload_n hx hb d_R_size_62 rfl (lv_at hl 1 rfl) ?_
          obtain ⟨hi9, hf⟩ := tg_of hf
          refine va_iald (f := s_8.2.1 2) hx hb hK hP 3 2 rfl rfl hi9 d_R_size_63 ?_
          refine lv_istore (lv' := [(4, .int (s_8.2.1 2 p0.toNatClampNeg)), (0, .ref (ad 0)), (1, .int p0), (2, .int p1), (3, .int p2)]) hx hb d_R_size_64 hl (by decide) rfl (fun ls hl => ?_)
          refine lv_iload_n hx hb d_R_size_66 rfl (lv_at hl 3 rfl) ?_
          refine lv_if_ne (tgt := 80) hx hb d_R_size_67 (by decide) (fun hc => ?_) (fun hc => ?_)
          · replace hf := ti_neg hc hf
            refine lv_aload_n hx hb d_R_size_80 rfl (lv_at hl 1 rfl) ?_
            refine va_get (ci := 8) (v := .ref (ad 3)) (C := R_R) (T := F_R) (N := 32) hx hb ht iw_R hown hK hP 0 rfl rfl 6 (by decide) (ht _ wd_683) (fun _ h9 => h9) rfl d_R_size_81 ?_
            refine lv_iload_n hx hb d_R_size_84 rfl (lv_at hl 2 rfl) ?_
            refine lv_iload_n hx hb d_R_size_85 rfl (lv_at hl 4 rfl) ?_
            obtain ⟨hi10, hf⟩ := tg_of hf
            refine va_iast (f := s_8.2.1 2) hx hb hK hP (cwR_D hd) hS 3 2 rfl rfl hi10 d_R_size_86 (fun H locs hP _ hS => ?_)
            replace hP : va_P D clS (cwR ad ta (tI (tF s_8 0 (1 : Int32)) 2 p0.toNatClampNeg p2)) H := hP
            refine lv_iload hx hb d_R_size_87 (lv_at hl 0 rfl) ?_
            obtain ⟨rfl, rfl⟩ := tp_of hf
            exact W.iret (v := (s_8.2.1 2 p0.toNatClampNeg)) hx hb hr (fun t ht hW => ⟨rfl, by rw [ht]; exact hP, hS.F ht⟩) hS.2.2 d_R_size_89
          · replace hf := ti_pos hc hf
            refine lv_aload_n hx hb d_R_size_70 rfl (lv_at hl 1 rfl) ?_
            refine va_get (ci := 8) (v := .ref (ad 2)) (C := R_R) (T := F_R) (N := 32) hx hb ht iw_R hown hK hP 0 rfl rfl 5 (by decide) (ht _ wd_682) (fun _ h9 => h9) rfl d_R_size_71 ?_
            refine lv_iload_n hx hb d_R_size_74 rfl (lv_at hl 2 rfl) ?_
            refine lv_iload_n hx hb d_R_size_75 rfl (lv_at hl 4 rfl) ?_
            obtain ⟨hi11, hf⟩ := tg_of hf
            refine va_iast (f := s_8.2.1 1) hx hb hK hP (cwR_D hd) hS 2 1 rfl rfl hi11 d_R_size_76 (fun H locs hP _ hS => ?_)
            replace hP : va_P D clS (cwR ad ta (tI (tF s_8 0 (1 : Int32)) 1 p0.toNatClampNeg p2)) H := hP
            refine lv_goto (tgt := 87) hx hb d_R_size_77 (by decide) ?_
            refine lv_iload hx hb d_R_size_87 (lv_at hl 0 rfl) ?_
            obtain ⟨rfl, rfl⟩ := tp_of hf
            exact W.iret (v := (s_8.2.1 2 p0.toNatClampNeg)) hx hb hr (fun t ht hW => ⟨rfl, by rw [ht]; exact hP, hS.F ht⟩) hS.2.2 d_R_size_89
        · replace hf := ti_pos hc hf
          refine lv_aload_n hx hb d_R_size_49 rfl (lv_at hl 0 rfl) ?_
          refine va_get (ci := 8) (v := .ref (ad 2)) (C := R_R) (T := F_R) (N := 32) hx hb ht iw_R hown hK hP 0 rfl rfl 5 (by decide) (ht _ wd_682) (fun _ h9 => h9) rfl d_R_size_50 ?_
          refine lv_iload_n hx hb d_R_size_53 rfl (lv_at hl 1 rfl) ?_
          obtain ⟨hi12, hf⟩ := tg_of hf
          refine va_iald (f := s_8.2.1 1) hx hb hK hP 2 1 rfl rfl hi12 d_R_size_54 ?_
          refine lv_goto (tgt := 64) hx hb d_R_size_55 (by decide) ?_
          refine lv_istore (lv' := [(4, .int (s_8.2.1 1 p0.toNatClampNeg)), (0, .ref (ad 0)), (1, .int p0), (2, .int p1), (3, .int p2)]) hx hb d_R_size_64 hl (by decide) rfl (fun ls hl => ?_)
          refine lv_iload_n hx hb d_R_size_66 rfl (lv_at hl 3 rfl) ?_
          refine lv_if_ne (tgt := 80) hx hb d_R_size_67 (by decide) (fun hc => ?_) (fun hc => ?_)
          · replace hf := ti_neg hc hf
            refine lv_aload_n hx hb d_R_size_80 rfl (lv_at hl 1 rfl) ?_
            refine va_get (ci := 8) (v := .ref (ad 3)) (C := R_R) (T := F_R) (N := 32) hx hb ht iw_R hown hK hP 0 rfl rfl 6 (by decide) (ht _ wd_683) (fun _ h9 => h9) rfl d_R_size_81 ?_
            refine lv_iload_n hx hb d_R_size_84 rfl (lv_at hl 2 rfl) ?_
            refine lv_iload_n hx hb d_R_size_85 rfl (lv_at hl 4 rfl) ?_
            obtain ⟨hi13, hf⟩ := tg_of hf
            refine va_iast (f := s_8.2.1 2) hx hb hK hP (cwR_D hd) hS 3 2 rfl rfl hi13 d_R_size_86 (fun H locs hP _ hS => ?_)
            replace hP : va_P D clS (cwR ad ta (tI (tF s_8 0 (1 : Int32)) 2 p0.toNatClampNeg p2)) H := hP
            refine lv_iload hx hb d_R_size_87 (lv_at hl 0 rfl) ?_
            obtain ⟨rfl, rfl⟩ := tp_of hf
            exact W.iret (v := (s_8.2.1 1 p0.toNatClampNeg)) hx hb hr (fun t ht hW => ⟨rfl, by rw [ht]; exact hP, hS.F ht⟩) hS.2.2 d_R_size_89
          · replace hf := ti_pos hc hf
            refine lv_aload_n hx hb d_R_size_70 rfl (lv_at hl 1 rfl) ?_
            refine va_get (ci := 8) (v := .ref (ad 2)) (C := R_R) (T := F_R) (N := 32) hx hb ht iw_R hown hK hP 0 rfl rfl 5 (by decide) (ht _ wd_682) (fun _ h9 => h9) rfl d_R_size_71 ?_
            refine lv_iload_n hx hb d_R_size_74 rfl (lv_at hl 2 rfl) ?_
            refine lv_iload_n hx hb d_R_size_75 rfl (lv_at hl 4 rfl) ?_
            obtain ⟨hi14, hf⟩ := tg_of hf
            refine va_iast (f := s_8.2.1 1) hx hb hK hP (cwR_D hd) hS 2 1 rfl rfl hi14 d_R_size_76 (fun H locs hP _ hS => ?_)
            replace hP : va_P D clS (cwR ad ta (tI (tF s_8 0 (1 : Int32)) 1 p0.toNatClampNeg p2)) H := hP
            refine lv_goto (tgt := 87) hx hb d_R_size_77 (by decide) ?_
            refine lv_iload hx hb d_R_size_87 (lv_at hl 0 rfl) ?_
            obtain ⟨rfl, rfl⟩ := tp_of hf
            exact W.iret (v := (s_8.2.1 1 p0.toNatClampNeg)) hx hb hr (fun t ht hW => ⟨rfl, by rw [ht]; exact hP, hS.F ht⟩) hS.2.2 d_R_size_89
      · replace hf := ti_neg hc hf
        refine lv_iconst (v := (0 : Int32)) hx hb d_R_size_43 (by decide) ?_
        obtain ⟨rfl, rfl⟩ := tp_of hf
        exact W.iret (v := (0 : Int32)) hx hb hr (fun t ht hW => ⟨rfl, by rw [ht]; exact hP, hS.F ht⟩) hS.2.2 d_R_size_44
    · replace hf := ti_neg hc hf
      refine lv_iload_n hx hb d_R_size_18 rfl (lv_at hl 3 rfl) ?_
      refine lv_iconst (v := (0 : Int32)) hx hb d_R_size_19 (by decide) ?_
      refine lv_ldc (v := (100000 : Int32)) hx hb hown (ht _ wd_793) d_R_size_20 ?_
      obtain ⟨r_15, s_15, hq15, hf⟩ := tb2_of hf
      refine tr_calli (va_runS (As := [.int p2, .int (0 : Int32), .int (100000 : Int32)]) (rest := [.ref (ad 0)]) ⟨hx, hb, hml, hown, ht⟩ (mc_R_isIn l hd hq15) ⟨(tw_cb (n := 3) ht wc_R_isIn wd_43 wd_790 ⟨rfl, rfl⟩ (by decide +kernel) ⟨(Nat.le_of_ble_eq_true rfl), (Nat.le_of_ble_eq_true rfl)⟩), ht _ wd_791⟩ ⟨tP_blind, fun U hU hW => ⟨rfl, by rw [hU]; exact hP, va_K.moved hW.alike hK, tW_warm hW hN⟩⟩ rfl rfl hl.1 rfl (lv_room (Nat.le_of_ble_eq_true rfl)) d_R_size_22 ⟨Nat.zero_le _, Nat.zero_le _⟩) hS (fun _ h => h.elim) (fun _ h => h.elim) (fun H locs hP hS => ?_)
      refine lv_if_eq (tgt := 32) hx hb d_R_size_25 (by decide) (fun hc => ?_) (fun hc => ?_)
      · replace hf := ti_pos hc hf
        refine lv_iconst (v := (1 : Int32)) hx hb d_R_size_32 (by decide) ?_
        refine va_put (ci := 8) (v := .int (1 : Int32)) (ty := .int) (C := R_R) (T := F_R) (N := 32) hx hb ht iw_R ft_R to_R nm_R hown hK hP (cwR_D hd) hS 0 rfl rfl 0 (by decide) (ht _ wd_677) (fun _ h9 => h9) rfl (by decide +kernel) rfl rfl (Nat.le_of_ble_eq_true rfl) d_R_size_33 (fun H locs hP _ hS => ?_)
        replace hP : va_P D clS (cwR ad ta (tF s_15 0 (1 : Int32))) H := hP
        refine lv_aload_n hx hb d_R_size_36 rfl (lv_at hl 0 rfl) ?_
        refine va_get (ci := 8) (v := .int (1 : Int32)) (C := R_R) (T := F_R) (N := 32) hx hb ht iw_R hown hK hP 0 rfl rfl 0 (by decide) (ht _ wd_677) (fun _ h9 => h9) rfl d_R_size_37 ?_
        refine lv_if_le (tgt := 45) hx hb d_R_size_40 (by decide) (fun hc => ?_) (fun hc => ?_)
        · replace hf := ti_pos hc hf
          refine lv_iload_n hx hb d_R_size_45 rfl (lv_at hl 2 rfl) ?_
          refine lv_if_ne (tgt := 58) hx hb d_R_size_46 (by decide) (fun hc => ?_) (fun hc => ?_)
          · replace hf := ti_neg hc hf
            refine lv_aload_n hx hb d_R_size_58 rfl (lv_at hl 0 rfl) ?_
            refine va_get (ci := 8) (v := .ref (ad 3)) (C := R_R) (T := F_R) (N := 32) hx hb ht iw_R hown hK hP 0 rfl rfl 6 (by decide) (ht _ wd_683) (fun _ h9 => h9) rfl d_R_size_59 ?_
            refine lv_iload_n hx hb d_R_size_62 rfl (lv_at hl 1 rfl) ?_
            obtain ⟨hi16, hf⟩ := tg_of hf
            refine va_iald (f := s_15.2.1 2) hx hb hK hP 3 2 rfl rfl hi16 d_R_size_63 ?_
            refine lv_istore (lv' := [(4, .int (s_15.2.1 2 p0.toNatClampNeg)), (0, .ref (ad 0)), (1, .int p0), (2, .int p1), (3, .int p2)]) hx hb d_R_size_64 hl (by decide) rfl (fun ls hl => ?_)
            refine lv_iload_n hx hb d_R_size_66 rfl (lv_at hl 3 rfl) ?_
            refine lv_if_ne (tgt := 80) hx hb d_R_size_67 (by decide) (fun hc => ?_) (fun hc => ?_)
            · replace hf := ti_neg hc hf
              refine lv_aload_n hx hb d_R_size_80 rfl (lv_at hl 1 rfl) ?_
              refine va_get (ci := 8) (v := .ref (ad 3)) (C := R_R) (T := F_R) (N := 32) hx hb ht iw_R hown hK hP 0 rfl rfl 6 (by decide) (ht _ wd_683) (fun _ h9 => h9) rfl d_R_size_81 ?_
              refine lv_iload_n hx hb d_R_size_84 rfl (lv_at hl 2 rfl) ?_
              refine lv_iload_n hx hb d_R_size_85 rfl (lv_at hl 4 rfl) ?_
              obtain ⟨hi17, hf⟩ := tg_of hf
              refine va_iast (f := s_15.2.1 2) hx hb hK hP (cwR_D hd) hS 3 2 rfl rfl hi17 d_R_size_86 (fun H locs hP _ hS => ?_)
              replace hP : va_P D clS (cwR ad ta (tI (tF s_15 0 (1 : Int32)) 2 p0.toNatClampNeg p2)) H := hP
              refine lv_iload hx hb d_R_size_87 (lv_at hl 0 rfl) ?_
              obtain ⟨rfl, rfl⟩ := tp_of hf
              exact W.iret (v := (s_15.2.1 2 p0.toNatClampNeg)) hx hb hr (fun t ht hW => ⟨rfl, by rw [ht]; exact hP, hS.F ht⟩) hS.2.2 d_R_size_89
            · replace hf := ti_pos hc hf
              refine lv_aload_n hx hb d_R_size_70 rfl (lv_at hl 1 rfl) ?_
              refine va_get (ci := 8) (v := .ref (ad 2)) (C := R_R) (T := F_R) (N := 32) hx hb ht iw_R hown hK hP 0 rfl rfl 5 (by decide) (ht _ wd_682) (fun _ h9 => h9) rfl d_R_size_71 ?_
              refine lv_iload_n hx hb d_R_size_74 rfl (lv_at hl 2 rfl) ?_
              refine lv_iload_n hx hb d_R_size_75 rfl (lv_at hl 4 rfl) ?_
              obtain ⟨hi18, hf⟩ := tg_of hf
              refine va_iast (f := s_15.2.1 1) hx hb hK hP (cwR_D hd) hS 2 1 rfl rfl hi18 d_R_size_76 (fun H locs hP _ hS => ?_)
              replace hP : va_P D clS (cwR ad ta (tI (tF s_15 0 (1 : Int32)) 1 p0.toNatClampNeg p2)) H := hP
              refine lv_goto (tgt := 87) hx hb d_R_size_77 (by decide) ?_
              refine lv_iload hx hb d_R_size_87 (lv_at hl 0 rfl) ?_
              obtain ⟨rfl, rfl⟩ := tp_of hf
              exact W.iret (v := (s_15.2.1 2 p0.toNatClampNeg)) hx hb hr (fun t ht hW => ⟨rfl, by rw [ht]; exact hP, hS.F ht⟩) hS.2.2 d_R_size_89
          · replace hf := ti_pos hc hf
            refine lv_aload_n hx hb d_R_size_49 rfl (lv_at hl 0 rfl) ?_
            refine va_get (ci := 8) (v := .ref (ad 2)) (C := R_R) (T := F_R) (N := 32) hx hb ht iw_R hown hK hP 0 rfl rfl 5 (by decide) (ht _ wd_682) (fun _ h9 => h9) rfl d_R_size_50 ?_
            refine lv_iload_n hx hb d_R_size_53 rfl (lv_at hl 1 rfl) ?_
            obtain ⟨hi19, hf⟩ := tg_of hf
            refine va_iald (f := s_15.2.1 1) hx hb hK hP 2 1 rfl rfl hi19 d_R_size_54 ?_
            refine lv_goto (tgt := 64) hx hb d_R_size_55 (by decide) ?_
            refine lv_istore (lv' := [(4, .int (s_15.2.1 1 p0.toNatClampNeg)), (0, .ref (ad 0)), (1, .int p0), (2, .int p1), (3, .int p2)]) hx hb d_R_size_64 hl (by decide) rfl (fun ls hl => ?_)
            refine lv_iload_n hx hb d_R_size_66 rfl (lv_at hl 3 rfl) ?_
            refine lv_if_ne (tgt := 80) hx hb d_R_size_67 (by decide) (fun hc => ?_) (fun hc => ?_)
            · replace hf := ti_neg hc hf
              refine lv_aload_n hx hb d_R_size_80 rfl (lv_at hl 1 rfl) ?_
              refine va_get (ci := 8) (v := .ref (ad 3)) (C := R_R) (T := F_R) (N := 32) hx hb ht iw_R hown hK hP 0 rfl rfl 6 (by decide) (ht _ wd_683) (fun _ h9 => h9) rfl d_R_size_81 ?_
              refine lv_iload_n hx hb d_R_size_84 rfl (lv_at hl 2 rfl) ?_
              refine lv_iload_n hx hb d_R_size_85 rfl (lv_at hl 4 rfl) ?_
              obtain ⟨hi20, hf⟩ := tg_of hf
              refine va_iast (f := s_15.2.1 2) hx hb hK hP (cwR_D hd) hS 3 2 rfl rfl hi20 d_R_size_86 (fun H locs hP _ hS => ?_)
              replace hP : va_P D clS (cwR ad ta (tI (tF s_15 0 (1 : Int32)) 2 p0.toNatClampNeg p2)) H := hP
              refine lv_iload hx hb d_R_size_87 (lv_at hl 0 rfl) ?_
              obtain ⟨rfl, rfl⟩ := tp_of hf
              exact W.iret (v := (s_15.2.1 1 p0.toNatClampNeg)) hx hb hr (fun t ht hW => ⟨rfl, by rw [ht]; exact hP, hS.F ht⟩) hS.2.2 d_R_size_89
            · replace hf := ti_pos hc hf
              refine lv_aload_n hx hb d_R_size_70 rfl (lv_at hl 1 rfl) ?_
              refine va_get (ci := 8) (v := .ref (ad 2)) (C := R_R) (T := F_R) (N := 32) hx hb ht iw_R hown hK hP 0 rfl rfl 5 (by decide) (ht _ wd_682) (fun _ h9 => h9) rfl d_R_size_71 ?_
              refine lv_iload_n hx hb d_R_size_74 rfl (lv_at hl 2 rfl) ?_
              refine lv_iload_n hx hb d_R_size_75 rfl (lv_at hl 4 rfl) ?_
              obtain ⟨hi21, hf⟩ := tg_of hf
              refine va_iast (f := s_15.2.1 1) hx hb hK hP (cwR_D hd) hS 2 1 rfl rfl hi21 d_R_size_76 (fun H locs hP _ hS => ?_)
              replace hP : va_P D clS (cwR ad ta (tI (tF s_15 0 (1 : Int32)) 1 p0.toNatClampNeg p2)) H := hP
              refine lv_goto (tgt := 87) hx hb d_R_size_77 (by decide) ?_
              refine lv_iload hx hb d_R_size_87 (lv_at hl 0 rfl) ?_
              obtain ⟨rfl, rfl⟩ := tp_of hf
              exact W.iret (v := (s_15.2.1 1 p0.toNatClampNeg)) hx hb hr (fun t ht hW => ⟨rfl, by rw [ht]; exact hP, hS.F ht⟩) hS.2.2 d_R_size_89
        · replace hf := ti_neg hc hf
          refine lv_iconst (v := (0 : Int32)) hx hb d_R_size_43 (by decide) ?_
          obtain ⟨rfl, rfl⟩ := tp_of hf
          exact W.iret (v := (0 : Int32)) hx hb hr (fun t ht hW => ⟨rfl, by rw [ht]; exact hP, hS.F ht⟩) hS.2.2 d_R_size_44
      · replace hf := ti_neg hc hf
        refine lv_iconst (v := (0 : Int32)) hx hb d_R_size_28 (by decide) ?_
        refine lv_goto (tgt := 33) hx hb d_R_size_29 (by decide) ?_
        refine va_put (ci := 8) (v := .int (0 : Int32)) (ty := .int) (C := R_R) (T := F_R) (N := 32) hx hb ht iw_R ft_R to_R nm_R hown hK hP (cwR_D hd) hS 0 rfl rfl 0 (by decide) (ht _ wd_677) (fun _ h9 => h9) rfl (by decide +kernel) rfl rfl (Nat.le_of_ble_eq_true rfl) d_R_size_33 (fun H locs hP _ hS => ?_)
        replace hP : va_P D clS (cwR ad ta (tF s_15 0 (0 : Int32))) H := hP
        refine lv_aload_n hx hb d_R_size_36 rfl (lv_at hl 0 rfl) ?_
        refine va_get (ci := 8) (v := .int (0 : Int32)) (C := R_R) (T := F_R) (N := 32) hx hb ht iw_R hown hK hP 0 rfl rfl 0 (by decide) (ht _ wd_677) (fun _ h9 => h9) rfl d_R_size_37 ?_
        refine lv_if_le (tgt := 45) hx hb d_R_size_40 (by decide) (fun hc => ?_) (fun hc => ?_)
        · replace hf := ti_pos hc hf
          refine lv_iload_n hx hb d_R_size_45 rfl (lv_at hl 2 rfl) ?_
          refine lv_if_ne (tgt := 58) hx hb d_R_size_46 (by decide) (fun hc => ?_) (fun hc => ?_)
          · replace hf := ti_neg hc hf
            refine lv_aload_n hx hb d_R_size_58 rfl (lv_at hl 0 rfl) ?_
            refine va_get (ci := 8) (v := .ref (ad 3)) (C := R_R) (T := F_R) (N := 32) hx hb ht iw_R hown hK hP 0 rfl rfl 6 (by decide) (ht _ wd_683) (fun _ h9 => h9) rfl d_R_size_59 ?_
            refine lv_iload_n hx hb d_R_size_62 rfl (lv_at hl 1 rfl) ?_
            obtain ⟨hi22, hf⟩ := tg_of hf
            refine va_iald (f := s_15.2.1 2) hx hb hK hP 3 2 rfl rfl hi22 d_R_size_63 ?_
            refine lv_istore (lv' := [(4, .int (s_15.2.1 2 p0.toNatClampNeg)), (0, .ref (ad 0)), (1, .int p0), (2, .int p1), (3, .int p2)]) hx hb d_R_size_64 hl (by decide) rfl (fun ls hl => ?_)
            refine lv_iload_n hx hb d_R_size_66 rfl (lv_at hl 3 rfl) ?_
            refine lv_if_ne (tgt := 80) hx hb d_R_size_67 (by decide) (fun hc => ?_) (fun hc => ?_)
            · replace hf := ti_neg hc hf
              refine lv_aload_n hx hb d_R_size_80 rfl (lv_at hl 1 rfl) ?_
              refine va_get (ci := 8) (v := .ref (ad 3)) (C := R_R) (T := F_R) (N := 32) hx hb ht iw_R hown hK hP 0 rfl rfl 6 (by decide) (ht _ wd_683) (fun _ h9 => h9) rfl d_R_size_81 ?_
              refine lv_iload_n hx hb d_R_size_84 rfl (lv_at hl 2 rfl) ?_
              refine lv_iload_n hx hb d_R_size_85 rfl (lv_at hl 4 rfl) ?_
              obtain ⟨hi23, hf⟩ := tg_of hf
              refine va_iast (f := s_15.2.1 2) hx hb hK hP (cwR_D hd) hS 3 2 rfl rfl hi23 d_R_size_86 (fun H locs hP _ hS => ?_)
              replace hP : va_P D clS (cwR ad ta (tI (tF s_15 0 (0 : Int32)) 2 p0.toNatClampNeg p2)) H := hP
              refine lv_iload hx hb d_R_size_87 (lv_at hl 0 rfl) ?_
              obtain ⟨rfl, rfl⟩ := tp_of hf
              exact W.iret (v := (s_15.2.1 2 p0.toNatClampNeg)) hx hb hr (fun t ht hW => ⟨rfl, by rw [ht]; exact hP, hS.F ht⟩) hS.2.2 d_R_size_89
            · replace hf := ti_pos hc hf
              refine lv_aload_n hx hb d_R_size_70 rfl (lv_at hl 1 rfl) ?_
              refine va_get (ci := 8) (v := .ref (ad 2)) (C := R_R) (T := F_R) (N := 32) hx hb ht iw_R hown hK hP 0 rfl rfl 5 (by decide) (ht _ wd_682) (fun _ h9 => h9) rfl d_R_size_71 ?_
              refine lv_iload_n hx hb d_R_size_74 rfl (lv_at hl 2 rfl) ?_
              refine lv_iload_n hx hb d_R_size_75 rfl (lv_at hl 4 rfl) ?_
              obtain ⟨hi24, hf⟩ := tg_of hf
              refine va_iast (f := s_15.2.1 1) hx hb hK hP (cwR_D hd) hS 2 1 rfl rfl hi24 d_R_size_76 (fun H locs hP _ hS => ?_)
              replace hP : va_P D clS (cwR ad ta (tI (tF s_15 0 (0 : Int32)) 1 p0.toNatClampNeg p2)) H := hP
              refine lv_goto (tgt := 87) hx hb d_R_size_77 (by decide) ?_
              refine lv_iload hx hb d_R_size_87 (lv_at hl 0 rfl) ?_
              obtain ⟨rfl, rfl⟩ := tp_of hf
              exact W.iret (v := (s_15.2.1 2 p0.toNatClampNeg)) hx hb hr (fun t ht hW => ⟨rfl, by rw [ht]; exact hP, hS.F ht⟩) hS.2.2 d_R_size_89
          · replace hf := ti_pos hc hf
            refine lv_aload_n hx hb d_R_size_49 rfl (lv_at hl 0 rfl) ?_
            refine va_get (ci := 8) (v := .ref (ad 2)) (C := R_R) (T := F_R) (N := 32) hx hb ht iw_R hown hK hP 0 rfl rfl 5 (by decide) (ht _ wd_682) (fun _ h9 => h9) rfl d_R_size_50 ?_
            refine lv_iload_n hx hb d_R_size_53 rfl (lv_at hl 1 rfl) ?_
            obtain ⟨hi25, hf⟩ := tg_of hf
            refine va_iald (f := s_15.2.1 1) hx hb hK hP 2 1 rfl rfl hi25 d_R_size_54 ?_
            refine lv_goto (tgt := 64) hx hb d_R_size_55 (by decide) ?_
            refine lv_istore (lv' := [(4, .int (s_15.2.1 1 p0.toNatClampNeg)), (0, .ref (ad 0)), (1, .int p0), (2, .int p1), (3, .int p2)]) hx hb d_R_size_64 hl (by decide) rfl (fun ls hl => ?_)
            refine lv_iload_n hx hb d_R_size_66 rfl (lv_at hl 3 rfl) ?_
            refine lv_if_ne (tgt := 80) hx hb d_R_size_67 (by decide) (fun hc => ?_) (fun hc => ?_)
            · replace hf := ti_neg hc hf
              refine lv_aload_n hx hb d_R_size_80 rfl (lv_at hl 1 rfl) ?_
              refine va_get (ci := 8) (v := .ref (ad 3)) (C := R_R) (T := F_R) (N := 32) hx hb ht iw_R hown hK hP 0 rfl rfl 6 (by decide) (ht _ wd_683) (fun _ h9 => h9) rfl d_R_size_81 ?_
              refine lv_iload_n hx hb d_R_size_84 rfl (lv_at hl 2 rfl) ?_
              refine lv_iload_n hx hb d_R_size_85 rfl (lv_at hl 4 rfl) ?_
              obtain ⟨hi26, hf⟩ := tg_of hf
              refine va_iast (f := s_15.2.1 2) hx hb hK hP (cwR_D hd) hS 3 2 rfl rfl hi26 d_R_size_86 (fun H locs hP _ hS => ?_)
              replace hP : va_P D clS (cwR ad ta (tI (tF s_15 0 (0 : Int32)) 2 p0.toNatClampNeg p2)) H := hP
              refine lv_iload hx hb d_R_size_87 (lv_at hl 0 rfl) ?_
              obtain ⟨rfl, rfl⟩ := tp_of hf
              exact W.iret (v := (s_15.2.1 1 p0.toNatClampNeg)) hx hb hr (fun t ht hW => ⟨rfl, by rw [ht]; exact hP, hS.F ht⟩) hS.2.2 d_R_size_89
            · replace hf := ti_pos hc hf
              refine lv_aload_n hx hb d_R_size_70 rfl (lv_at hl 1 rfl) ?_
              refine va_get (ci := 8) (v := .ref (ad 2)) (C := R_R) (T := F_R) (N := 32) hx hb ht iw_R hown hK hP 0 rfl rfl 5 (by decide) (ht _ wd_682) (fun _ h9 => h9) rfl d_R_size_71 ?_
              refine lv_iload_n hx hb d_R_size_74 rfl (lv_at hl 2 rfl) ?_
              refine lv_iload_n hx hb d_R_size_75 rfl (lv_at hl 4 rfl) ?_
              obtain ⟨hi27, hf⟩ := tg_of hf
              refine va_iast (f := s_15.2.1 1) hx hb hK hP (cwR_D hd) hS 2 1 rfl rfl hi27 d_R_size_76 (fun H locs hP _ hS => ?_)
              replace hP : va_P D clS (cwR ad ta (tI (tF s_15 0 (0 : Int32)) 1 p0.toNatClampNeg p2)) H := hP
              refine lv_goto (tgt := 87) hx hb d_R_size_77 (by decide) ?_
              refine lv_iload hx hb d_R_size_87 (lv_at hl 0 rfl) ?_
              obtain ⟨rfl, rfl⟩ := tp_of hf
              exact W.iret (v := (s_15.2.1 1 p0.toNatClampNeg)) hx hb hr (fun t ht hW => ⟨rfl, by rw [ht]; exact hP, hS.F ht⟩) hS.2.2 d_R_size_89
        · replace hf := ti_neg hc hf
          refine lv_iconst (v := (0 : Int32)) hx hb d_R_size_43 (by decide) ?_
          obtain ⟨rfl, rfl⟩ := tp_of hf
          exact W.iret (v := (0 : Int32)) hx hb hr (fun t ht hW => ⟨rfl, by rw [ht]; exact hP, hS.F ht⟩) hS.2.2 d_R_size_44
abbrev rm_R_share : Room := { frames := 0, cells := 0, slots := 0, locals := 0 }
set_option maxHeartbeats 4000000 in
set_option maxRecDepth 100000 in
theorem mw_R_share_142 {p : Program} {l : Launch} {e : Env} {s : State} {m : MethodId} {args : Array Value} {below : List Frame} {meth : Method} {c : Code} {D : va_G} {ad : Nat → Nat} {ta : Nat → ClassId} {Q : State → Prop} (CX : tC p s m args meth c b_R_share none 10 R_R D clS (tyR ta)) (hd : tD 26 ad) : ∀ (k : Nat) (v1 : Int64) (v3 : Int32) (v4 : Int64) (v6 : Int64) (v8 : Int32) (v9 : Int32) (σ : tS) (res : (Int64 × Int32 × Int64 × Int64 × Int32 × Int32 × tS)), ml_R_share_142 k v1 v3 v4 v6 v8 v9 σ = some res → ∀ (H : Heap) (locs : List Loc), va_P D clS (cwR ad ta σ) H → va_S (tA 26 ad) s.heap H locs → ∀ (ls : Array Slot), lv_has ls 10 [(0, .ref (ad 0)), (1, .long v1), (3, .int v3), (4, .long v4), (6, .long v6), (8, .int v8), (9, .int v9)] → (∀ (H : Heap) (locs : List Loc), va_P D clS (cwR ad ta res.2.2.2.2.2.2) H → va_S (tA 26 ad) s.heap H locs → ∀ (ls : Array Slot), lv_has ls 10 [(0, .ref (ad 0)), (1, .long res.1), (3, .int res.2.1), (4, .long res.2.2.1), (6, .long res.2.2.2.1), (8, .int res.2.2.2.2.1), (9, .int res.2.2.2.2.2.1)] → W p l e rm_R_share s m args below meth c H locs 0 0 Q (F0 m 181 ls [])) → W p l e rm_R_share s m args below meth c H locs 0 0 Q (F0 m 142 ls []) := by
  obtain ⟨hx, hb, hr, hml, hown, ht, hlocks, hK, hN⟩ := id CX
  intro k
  induction k with
  | zero =>
    intro v1 v3 v4 v6 v8 v9 σ res hf
    exact tn_no hf
  | succ k ih =>
    intro v1 v3 v4 v6 v8 v9 σ res hf H locs hP hS ls hl kk
    replace hf : ms_R_share_142 (ml_R_share_142 k) v1 v3 v4 v6 v8 v9 σ = some res := hf
    unfold ms_R_share_142 at hf
    refine lv_iload hx hb d_R_share_142 (lv_at hl 6 rfl) ?_
    refine lv_iload_n hx hb d_R_share_144 rfl (lv_at hl 2 rfl) ?_
    refine lv_icmp_ge (tgt := 181) hx hb d_R_share_145 (by decide) (fun hc => ?_) (fun hc => ?_)
    · replace hf := ti_pos hc hf
      obtain rfl := ts_of hf
      exact kk _ _ hP hS _ (lv_sub hl [0, 1, 2, 3, 4, 5, 6] rfl)
    · replace hf := ti_neg hc hf
      refine lv_aload_n hx hb d_R_share_148 rfl (lv_at hl 0 rfl) ?_
      refine va_get (ci := 8) (v := .ref (ad 20)) (C := R_R) (T := F_R) (N := 32) hx hb ht iw_R hown hK hP 0 rfl rfl 25 (by decide) (ht _ wd_702) (fun _ h9 => h9) rfl d_R_share_149 ?_
      refine lv_iload hx hb d_R_share_152 (lv_at hl 6 rfl) ?_
      obtain ⟨hi1, hf⟩ := tg_of hf
      refine va_lald (f := σ.2.2 2) hx hb hK hP 20 19 rfl rfl hi1 d_R_share_154 ?_
      refine lv_aload_n hx hb d_R_share_155 rfl (lv_at hl 0 rfl) ?_
      refine va_get (ci := 8) (v := .ref (ad 20)) (C := R_R) (T := F_R) (N := 32) hx hb ht iw_R hown hK hP 0 rfl rfl 25 (by decide) (ht _ wd_702) (fun _ h9 => h9) rfl d_R_share_156 ?_
      refine lv_iload hx hb d_R_share_159 (lv_at hl 5 rfl) ?_
      obtain ⟨hi2, hf⟩ := tg_of hf
      refine va_lald (f := σ.2.2 2) hx hb hK hP 20 19 rfl rfl hi2 d_R_share_161 ?_
      refine W.lcmp hx hb d_R_share_162 ?_
      refine lv_if_le (tgt := 171) hx hb d_R_share_163 (by decide) (fun hc => ?_) (fun hc => ?_)
      · replace hf := ti_pos hc hf
        refine lv_iload hx hb d_R_share_171 (lv_at hl 5 rfl) ?_
        refine lv_istore (lv' := [(8, .int v8), (0, .ref (ad 0)), (1, .long v1), (3, .int v3), (4, .long v4), (6, .long v6), (9, .int v9)]) hx hb d_R_share_173 hl (by decide) rfl (fun ls hl => ?_)
        refine lv_iinc (v := (v9 + (1 : Int32))) (lv' := [(9, .int (v9 + (1 : Int32))), (8, .int v8), (0, .ref (ad 0)), (1, .long v1), (3, .int v3), (4, .long v4), (6, .long v6)]) hx hb d_R_share_175 hl (k := 6) rfl rfl (by decide) rfl (fun ls hl => ?_)
        refine lv_goto (tgt := 142) hx hb d_R_share_178 (by decide) ?_
        exact ih _ _ _ _ _ _ _ _ hf _ _ hP hS _ (lv_sub hl [2, 3, 4, 5, 6, 1, 0] rfl) kk
      · replace hf := ti_neg hc hf
        refine lv_iload hx hb d_R_share_166 (lv_at hl 6 rfl) ?_
        refine lv_goto (tgt := 173) hx hb d_R_share_168 (by decide) ?_
        refine lv_istore (lv' := [(8, .int v9), (0, .ref (ad 0)), (1, .long v1), (3, .int v3), (4, .long v4), (6, .long v6), (9, .int v9)]) hx hb d_R_share_173 hl (by decide) rfl (fun ls hl => ?_)
        refine lv_iinc (v := (v9 + (1 : Int32))) (lv' := [(9, .int (v9 + (1 : Int32))), (8, .int v9), (0, .ref (ad 0)), (1, .long v1), (3, .int v3), (4, .long v4), (6, .long v6)]) hx hb d_R_share_175 hl (k := 6) rfl rfl (by decide) rfl (fun ls hl => ?_)
        refine lv_goto (tgt := 142) hx hb d_R_share_178 (by decide) ?_
        exact ih _ _ _ _ _ _ _ _ hf _ _ hP hS _ (lv_sub hl [2, 3, 4, 5, 6, 1, 0] rfl) kk
set_option maxHeartbeats 4000000 in
set_option maxRecDepth 100000 in
theorem mw_R_share_122 {p : Program} {l : Launch} {e : Env} {s : State} {m : MethodId} {args : Array Value} {below : List Frame} {meth : Method} {c : Code} {D : va_G} {ad : Nat → Nat} {ta : Nat → ClassId} (CX : tC p s m args meth c b_R_share none 10 R_R D clS (tyR ta)) (hd : tD 26 ad) : ∀ (k : Nat) (v1 : Int64) (v3 : Int32) (v4 : Int64) (v6 : Int64) (v8 : Int32) (σ : tS) (res : tS), ml_R_share_122 k v1 v3 v4 v6 v8 σ = some res → ∀ (H : Heap) (locs : List Loc), va_P D clS (cwR ad ta σ) H → va_S (tA 26 ad) s.heap H locs → ∀ (ls : Array Slot), lv_has ls 10 [(0, .ref (ad 0)), (1, .long v1), (3, .int v3), (4, .long v4), (6, .long v6), (8, .int v8)] → W p l e rm_R_share s m args below meth c H locs 0 0 (MQ below (tQ D clS (cwR ad ta res) none (tA 26 ad)) args s 0 0 (tA 26 ad)) (F0 m 122 ls []) := by
  obtain ⟨hx, hb, hr, hml, hown, ht, hlocks, hK, hN⟩ := id CX
  intro k
  induction k with
  | zero =>
    intro v1 v3 v4 v6 v8 σ res hf
    exact tn_no hf
  | succ k ih =>
    intro v1 v3 v4 v6 v8 σ res hf H locs hP hS ls hl
    replace hf : ms_R_share_122 (ml_R_share_122 k) v1 v3 v4 v6 v8 σ = some res := hf
    unfold ms_R_share_122 at hf
    refine lv_lload hx hb d_R_share_122 (lv_at hl 3 rfl) ?_
    refine lv_lconst (v := (0 : Int64)) hx hb d_R_share_124 (by decide) ?_
    refine W.lcmp hx hb d_R_share_125 ?_
    refine lv_if_le (tgt := 211) hx hb d_R_share_126 (by decide) (fun hc => ?_) (fun hc => ?_)
    · replace hf := ti_pos hc hf
      obtain rfl := ts_of hf
      exact W.vret hx hb hr (fun t ht hW => ⟨rfl, by rw [ht]; exact hP, hS.F ht⟩) hS.2.2 d_R_share_211
    · replace hf := ti_neg hc hf
      refine lv_lload hx hb d_R_share_129 (lv_at hl 4 rfl) ?_
      refine lv_lconst (v := (0 : Int64)) hx hb d_R_share_131 (by decide) ?_
      refine W.lcmp hx hb d_R_share_132 ?_
      refine lv_if_le (tgt := 211) hx hb d_R_share_133 (by decide) (fun hc => ?_) (fun hc => ?_)
      · replace hf := ti_pos hc hf
        obtain rfl := ts_of hf
        exact W.vret hx hb hr (fun t ht hW => ⟨rfl, by rw [ht]; exact hP, hS.F ht⟩) hS.2.2 d_R_share_211
      · replace hf := ti_neg hc hf
        refine lv_iconst (v := (0 : Int32)) hx hb d_R_share_136 (by decide) ?_
        refine lv_istore (lv' := [(8, .int (0 : Int32)), (0, .ref (ad 0)), (1, .long v1), (3, .int v3), (4, .long v4), (6, .long v6)]) hx hb d_R_share_137 hl (by decide) rfl (fun ls hl => ?_)
        refine lv_iconst (v := (1 : Int32)) hx hb d_R_share_139 (by decide) ?_
        refine lv_istore (lv' := [(9, .int (1 : Int32)), (8, .int (0 : Int32)), (0, .ref (ad 0)), (1, .long v1), (3, .int v3), (4, .long v4), (6, .long v6)]) hx hb d_R_share_140 hl (by decide) rfl (fun ls hl => ?_)
        obtain ⟨e_3, hq3, hf⟩ := tb1_of hf
        refine mw_R_share_142 CX hd _ _ _ _ _ _ _ _ _ hq3 _ _ hP hS _ (lv_sub hl [2, 3, 4, 5, 6, 1, 0] rfl) (fun H locs hP hS ls hl => ?_)
        refine lv_aload_n hx hb d_R_share_181 rfl (lv_at hl 0 rfl) ?_
        refine va_get (ci := 8) (v := .ref (ad 21)) (C := R_R) (T := F_R) (N := 32) hx hb ht iw_R hown hK hP 0 rfl rfl 26 (by decide) (ht _ wd_703) (fun _ h9 => h9) rfl d_R_share_182 ?_
        refine lv_iload hx hb d_R_share_185 (lv_at hl 5 rfl) ?_
        refine lv_dup2_11 hx hb d_R_share_187 rfl rfl ?_
        obtain ⟨hi4, hf⟩ := tg_of hf
        refine va_iald (f := e_3.2.2.2.2.2.2.2.1 17) hx hb hK hP 21 20 rfl rfl hi4 d_R_share_188 ?_
        refine lv_iconst (v := (1 : Int32)) hx hb d_R_share_189 (by decide) ?_
        refine lv_iadd hx hb d_R_share_190 ?_
        obtain ⟨hi5, hf⟩ := tg_of hf
        refine va_iast (f := e_3.2.2.2.2.2.2.2.1 17) hx hb hK hP (cwR_D hd) hS 21 20 rfl rfl hi5 d_R_share_191 (fun H locs hP _ hS => ?_)
        replace hP : va_P D clS (cwR ad ta (tI e_3.2.2.2.2.2.2 17 e_3.2.2.2.2.1.toNatClampNeg ((e_3.2.2.2.2.2.2.2.1 17 e_3.2.2.2.2.1.toNatClampNeg) + (1 : Int32)))) H := hP
        refine lv_aload_n hx hb d_R_share_192 rfl (lv_at hl 0 rfl) ?_
        refine va_get (ci := 8) (v := .ref (ad 20)) (C := R_R) (T := F_R) (N := 32) hx hb ht iw_R hown hK hP 0 rfl rfl 25 (by decide) (ht _ wd_702) (fun _ h9 => h9) rfl d_R_share_193 ?_
        refine lv_iload hx hb d_R_share_196 (lv_at hl 5 rfl) ?_
        refine lv_ldc2 (v := ((-1) : Int64)) hx hb hown (ht _ wd_839) d_R_share_198 ?_
        obtain ⟨hi6, hf⟩ := tg_of hf
        refine va_last (f := e_3.2.2.2.2.2.2.2.2 2) hx hb hK hP (cwR_D hd) hS 20 19 rfl rfl hi6 d_R_share_201 (fun H locs hP _ hS => ?_)
        replace hP : va_P D clS (cwR ad ta (tJ (tI e_3.2.2.2.2.2.2 17 e_3.2.2.2.2.1.toNatClampNeg ((e_3.2.2.2.2.2.2.2.1 17 e_3.2.2.2.2.1.toNatClampNeg) + (1 : Int32))) 2 e_3.2.2.2.2.1.toNatClampNeg ((-1) : Int64))) H := hP
        refine lv_lload hx hb d_R_share_202 (lv_at hl 4 rfl) ?_
        refine lv_lconst (v := (1 : Int64)) hx hb d_R_share_204 (by decide) ?_
        refine lv_lsub hx hb d_R_share_205 ?_
        refine lv_lstore (lv' := [(6, .long (e_3.2.2.2.1 - (1 : Int64))), (0, .ref (ad 0)), (1, .long e_3.1), (3, .int e_3.2.1), (4, .long e_3.2.2.1), (8, .int e_3.2.2.2.2.1), (9, .int e_3.2.2.2.2.2.1)]) hx hb d_R_share_206 hl (by decide) rfl (fun ls hl => ?_)
        refine lv_goto (tgt := 122) hx hb d_R_share_208 (by decide) ?_
        exact ih _ _ _ _ _ _ _ hf _ _ hP hS _ (lv_sub hl [1, 2, 3, 4, 0, 5] rfl)
set_option maxHeartbeats 4000000 in
set_option maxRecDepth 100000 in
theorem mw_R_share_36 {p : Program} {l : Launch} {e : Env} {s : State} {m : MethodId} {args : Array Value} {below : List Frame} {meth : Method} {c : Code} {D : va_G} {ad : Nat → Nat} {ta : Nat → ClassId} (CX : tC p s m args meth c b_R_share none 10 R_R D clS (tyR ta)) (hd : tD 26 ad) : ∀ (k : Nat) (v1 : Int64) (v3 : Int32) (v4 : Int64) (v6 : Int64) (v8 : Int32) (σ : tS) (res : tS), ml_R_share_36 k v1 v3 v4 v6 v8 σ = some res → ∀ (H : Heap) (locs : List Loc), va_P D clS (cwR ad ta σ) H → va_S (tA 26 ad) s.heap H locs → ∀ (ls : Array Slot), lv_has ls 10 [(0, .ref (ad 0)), (1, .long v1), (3, .int v3), (4, .long v4), (6, .long v6), (8, .int v8)] → W p l e rm_R_share s m args below meth c H locs 0 0 (MQ below (tQ D clS (cwR ad ta res) none (tA 26 ad)) args s 0 0 (tA 26 ad)) (F0 m 36 ls []) := by
  obtain ⟨hx, hb, hr, hml, hown, ht, hlocks, hK, hN⟩ := id CX
  intro k
  induction k with
  | zero =>
    intro v1 v3 v4 v6 v8 σ res hf
    exact tn_no hf
  | succ k ih =>
    intro v1 v3 v4 v6 v8 σ res hf H locs hP hS ls hl
    replace hf : ms_R_share_36 (ml_R_share_36 k) v1 v3 v4 v6 v8 σ = some res := hf
    unfold ms_R_share_36 at hf
    refine lv_iload hx hb d_R_share_36 (lv_at hl 5 rfl) ?_
    refine lv_iload_n hx hb d_R_share_38 rfl (lv_at hl 2 rfl) ?_
    refine lv_icmp_ge (tgt := 122) hx hb d_R_share_39 (by decide) (fun hc => ?_) (fun hc => ?_)
    · replace hf := ti_pos hc hf
      exact mw_R_share_122 CX hd _ _ _ _ _ _ _ _ hf _ _ hP hS _ (lv_sub hl [0, 1, 2, 3, 4, 5] rfl)
    · replace hf := ti_neg hc hf
      refine lv_aload_n hx hb d_R_share_42 rfl (lv_at hl 0 rfl) ?_
      refine va_get (ci := 8) (v := .ref (ad 21)) (C := R_R) (T := F_R) (N := 32) hx hb ht iw_R hown hK hP 0 rfl rfl 26 (by decide) (ht _ wd_703) (fun _ h9 => h9) rfl d_R_share_43 ?_
      refine lv_iload hx hb d_R_share_46 (lv_at hl 5 rfl) ?_
      refine lv_lload hx hb d_R_share_48 (lv_at hl 3 rfl) ?_
      refine lv_lconst (v := (0 : Int64)) hx hb d_R_share_50 (by decide) ?_
      refine W.lcmp hx hb d_R_share_51 ?_
      refine lv_if_ne (tgt := 59) hx hb d_R_share_52 (by decide) (fun hc => ?_) (fun hc => ?_)
      · replace hf := ti_neg hc hf
        refine lv_lload_n hx hb d_R_share_59 rfl (lv_at hl 1 rfl) ?_
        refine lv_aload_n hx hb d_R_share_60 rfl (lv_at hl 0 rfl) ?_
        refine va_get (ci := 8) (v := .ref (ad 19)) (C := R_R) (T := F_R) (N := 32) hx hb ht iw_R hown hK hP 0 rfl rfl 24 (by decide) (ht _ wd_701) (fun _ h9 => h9) rfl d_R_share_61 ?_
        refine lv_iload hx hb d_R_share_64 (lv_at hl 5 rfl) ?_
        obtain ⟨hi7, hf⟩ := tg_of hf
        refine va_lald (f := σ.2.2 1) hx hb hK hP 19 18 rfl rfl hi7 d_R_share_66 ?_
        refine lv_lmul hx hb d_R_share_67 ?_
        refine lv_lload hx hb d_R_share_68 (lv_at hl 3 rfl) ?_
        obtain ⟨hz8, hf⟩ := tz_of hf
        refine lv_ldiv hx hb d_R_share_70 hz8 ?_
        refine lv_l2i hx hb d_R_share_71 rfl ?_
        obtain ⟨hi9, hf⟩ := tg_of hf
        refine va_iast (f := σ.2.1 17) hx hb hK hP (cwR_D hd) hS 21 20 rfl rfl hi9 d_R_share_72 (fun H locs hP _ hS => ?_)
        replace hP : va_P D clS (cwR ad ta (tI σ 17 v8.toNatClampNeg ((((v1 * (σ.2.2 1 v8.toNatClampNeg)) / v4)).toInt32))) H := hP
        refine lv_aload_n hx hb d_R_share_73 rfl (lv_at hl 0 rfl) ?_
        refine va_get (ci := 8) (v := .ref (ad 20)) (C := R_R) (T := F_R) (N := 32) hx hb ht iw_R hown hK hP 0 rfl rfl 25 (by decide) (ht _ wd_702) (fun _ h9 => h9) rfl d_R_share_74 ?_
        refine lv_iload hx hb d_R_share_77 (lv_at hl 5 rfl) ?_
        refine lv_lload hx hb d_R_share_79 (lv_at hl 3 rfl) ?_
        refine lv_lconst (v := (0 : Int64)) hx hb d_R_share_81 (by decide) ?_
        refine W.lcmp hx hb d_R_share_82 ?_
        refine lv_if_ne (tgt := 90) hx hb d_R_share_83 (by decide) (fun hc => ?_) (fun hc => ?_)
        · replace hf := ti_neg hc hf
          refine lv_lload_n hx hb d_R_share_90 rfl (lv_at hl 1 rfl) ?_
          refine lv_aload_n hx hb d_R_share_91 rfl (lv_at hl 0 rfl) ?_
          refine va_get (ci := 8) (v := .ref (ad 19)) (C := R_R) (T := F_R) (N := 32) hx hb ht iw_R hown hK hP 0 rfl rfl 24 (by decide) (ht _ wd_701) (fun _ h9 => h9) rfl d_R_share_92 ?_
          refine lv_iload hx hb d_R_share_95 (lv_at hl 5 rfl) ?_
          obtain ⟨hi10, hf⟩ := tg_of hf
          refine va_lald (f := σ.2.2 1) hx hb hK hP 19 18 rfl rfl hi10 d_R_share_97 ?_
          refine lv_lmul hx hb d_R_share_98 ?_
          refine lv_lload hx hb d_R_share_99 (lv_at hl 3 rfl) ?_
          obtain ⟨hz11, hf⟩ := tz_of hf
          refine lv_lrem hx hb d_R_share_101 hz11 ?_
          obtain ⟨hi12, hf⟩ := tg_of hf
          refine va_last (f := σ.2.2 2) hx hb hK hP (cwR_D hd) hS 20 19 rfl rfl hi12 d_R_share_102 (fun H locs hP _ hS => ?_)
          replace hP : va_P D clS (cwR ad ta (tJ (tI σ 17 v8.toNatClampNeg ((((v1 * (σ.2.2 1 v8.toNatClampNeg)) / v4)).toInt32)) 2 v8.toNatClampNeg ((v1 * (σ.2.2 1 v8.toNatClampNeg)) - (v1 * (σ.2.2 1 v8.toNatClampNeg)) / v4 * v4))) H := hP
          refine lv_lload hx hb d_R_share_103 (lv_at hl 4 rfl) ?_
          refine lv_aload_n hx hb d_R_share_105 rfl (lv_at hl 0 rfl) ?_
          refine va_get (ci := 8) (v := .ref (ad 21)) (C := R_R) (T := F_R) (N := 32) hx hb ht iw_R hown hK hP 0 rfl rfl 26 (by decide) (ht _ wd_703) (fun _ h9 => h9) rfl d_R_share_106 ?_
          refine lv_iload hx hb d_R_share_109 (lv_at hl 5 rfl) ?_
          obtain ⟨hi13, hf⟩ := tg_of hf
          refine va_iald (f := (tI σ 17 v8.toNatClampNeg ((((v1 * (σ.2.2 1 v8.toNatClampNeg)) / v4)).toInt32)).2.1 17) hx hb hK hP 21 20 rfl rfl hi13 d_R_share_111 ?_
          refine lv_i2l hx hb d_R_share_112 rfl ?_
          refine lv_lsub hx hb d_R_share_113 ?_
          refine lv_lstore (lv' := [(6, .long (v6 - (((tI σ 17 v8.toNatClampNeg ((((v1 * (σ.2.2 1 v8.toNatClampNeg)) / v4)).toInt32)).2.1 17 v8.toNatClampNeg)).toInt64)), (0, .ref (ad 0)), (1, .long v1), (3, .int v3), (4, .long v4), (8, .int v8)]) hx hb d_R_share_114 hl (by decide) rfl (fun ls hl => ?_)
          refine lv_iinc (v := (v8 + (1 : Int32))) (lv' := [(8, .int (v8 + (1 : Int32))), (6, .long (v6 - (((tI σ 17 v8.toNatClampNeg ((((v1 * (σ.2.2 1 v8.toNatClampNeg)) / v4)).toInt32)).2.1 17 v8.toNatClampNeg)).toInt64)), (0, .ref (ad 0)), (1, .long v1), (3, .int v3), (4, .long v4)]) hx hb d_R_share_116 hl (k := 5) rfl rfl (by decide) rfl (fun ls hl => ?_)
          refine lv_goto (tgt := 36) hx hb d_R_share_119 (by decide) ?_
          exact ih _ _ _ _ _ _ _ hf _ _ hP hS _ (lv_sub hl [2, 3, 4, 5, 1, 0] rfl)
        · replace hf := ti_pos hc hf
          refine lv_lconst (v := (0 : Int64)) hx hb d_R_share_86 (by decide) ?_
          refine lv_goto (tgt := 102) hx hb d_R_share_87 (by decide) ?_
          obtain ⟨hi14, hf⟩ := tg_of hf
          refine va_last (f := σ.2.2 2) hx hb hK hP (cwR_D hd) hS 20 19 rfl rfl hi14 d_R_share_102 (fun H locs hP _ hS => ?_)
          replace hP : va_P D clS (cwR ad ta (tJ (tI σ 17 v8.toNatClampNeg ((((v1 * (σ.2.2 1 v8.toNatClampNeg)) / v4)).toInt32)) 2 v8.toNatClampNeg (0 : Int64))) H := hP
          refine lv_lload hx hb d_R_share_103 (lv_at hl 4 rfl) ?_
          refine lv_aload_n hx hb d_R_share_105 rfl (lv_at hl 0 rfl) ?_
          refine va_get (ci := 8) (v := .ref (ad 21)) (C := R_R) (T := F_R) (N := 32) hx hb ht iw_R hown hK hP 0 rfl rfl 26 (by decide) (ht _ wd_703) (fun _ h9 => h9) rfl d_R_share_106 ?_
          refine lv_iload hx hb d_R_share_109 (lv_at hl 5 rfl) ?_
          obtain ⟨hi15, hf⟩ := tg_of hf
          refine va_iald (f := (tI σ 17 v8.toNatClampNeg ((((v1 * (σ.2.2 1 v8.toNatClampNeg)) / v4)).toInt32)).2.1 17) hx hb hK hP 21 20 rfl rfl hi15 d_R_share_111 ?_
          refine lv_i2l hx hb d_R_share_112 rfl ?_
          refine lv_lsub hx hb d_R_share_113 ?_
          refine lv_lstore (lv' := [(6, .long (v6 - (((tI σ 17 v8.toNatClampNeg ((((v1 * (σ.2.2 1 v8.toNatClampNeg)) / v4)).toInt32)).2.1 17 v8.toNatClampNeg)).toInt64)), (0, .ref (ad 0)), (1, .long v1), (3, .int v3), (4, .long v4), (8, .int v8)]) hx hb d_R_share_114 hl (by decide) rfl (fun ls hl => ?_)
          refine lv_iinc (v := (v8 + (1 : Int32))) (lv' := [(8, .int (v8 + (1 : Int32))), (6, .long (v6 - (((tI σ 17 v8.toNatClampNeg ((((v1 * (σ.2.2 1 v8.toNatClampNeg)) / v4)).toInt32)).2.1 17 v8.toNatClampNeg)).toInt64)), (0, .ref (ad 0)), (1, .long v1), (3, .int v3), (4, .long v4)]) hx hb d_R_share_116 hl (k := 5) rfl rfl (by decide) rfl (fun ls hl => ?_)
          refine lv_goto (tgt := 36) hx hb d_R_share_119 (by decide) ?_
          exact ih _ _ _ _ _ _ _ hf _ _ hP hS _ (lv_sub hl [2, 3, 4, 5, 1, 0] rfl)
      · replace hf := ti_pos hc hf
        refine lv_iconst (v := (0 : Int32)) hx hb d_R_share_55 (by decide) ?_
        refine lv_goto (tgt := 72) hx hb d_R_share_56 (by decide) ?_
        obtain ⟨hi16, hf⟩ := tg_of hf
        refine va_iast (f := σ.2.1 17) hx hb hK hP (cwR_D hd) hS 21 20 rfl rfl hi16 d_R_share_72 (fun H locs hP _ hS => ?_)
        replace hP : va_P D clS (cwR ad ta (tI σ 17 v8.toNatClampNeg (0 : Int32))) H := hP
        refine lv_aload_n hx hb d_R_share_73 rfl (lv_at hl 0 rfl) ?_
        refine va_get (ci := 8) (v := .ref (ad 20)) (C := R_R) (T := F_R) (N := 32) hx hb ht iw_R hown hK hP 0 rfl rfl 25 (by decide) (ht _ wd_702) (fun _ h9 => h9) rfl d_R_share_74 ?_
        refine lv_iload hx hb d_R_share_77 (lv_at hl 5 rfl) ?_
        refine lv_lload hx hb d_R_share_79 (lv_at hl 3 rfl) ?_
        refine lv_lconst (v := (0 : Int64)) hx hb d_R_share_81 (by decide) ?_
        refine W.lcmp hx hb d_R_share_82 ?_
        refine lv_if_ne (tgt := 90) hx hb d_R_share_83 (by decide) (fun hc => ?_) (fun hc => ?_)
        · replace hf := ti_neg hc hf
          refine lv_lload_n hx hb d_R_share_90 rfl (lv_at hl 1 rfl) ?_
          refine lv_aload_n hx hb d_R_share_91 rfl (lv_at hl 0 rfl) ?_
          refine va_get (ci := 8) (v := .ref (ad 19)) (C := R_R) (T := F_R) (N := 32) hx hb ht iw_R hown hK hP 0 rfl rfl 24 (by decide) (ht _ wd_701) (fun _ h9 => h9) rfl d_R_share_92 ?_
          refine lv_iload hx hb d_R_share_95 (lv_at hl 5 rfl) ?_
          obtain ⟨hi17, hf⟩ := tg_of hf
          refine va_lald (f := σ.2.2 1) hx hb hK hP 19 18 rfl rfl hi17 d_R_share_97 ?_
          refine lv_lmul hx hb d_R_share_98 ?_
          refine lv_lload hx hb d_R_share_99 (lv_at hl 3 rfl) ?_
          obtain ⟨hz18, hf⟩ := tz_of hf
          refine lv_lrem hx hb d_R_share_101 hz18 ?_
          obtain ⟨hi19, hf⟩ := tg_of hf
          refine va_last (f := σ.2.2 2) hx hb hK hP (cwR_D hd) hS 20 19 rfl rfl hi19 d_R_share_102 (fun H locs hP _ hS => ?_)
          replace hP : va_P D clS (cwR ad ta (tJ (tI σ 17 v8.toNatClampNeg (0 : Int32)) 2 v8.toNatClampNeg ((v1 * (σ.2.2 1 v8.toNatClampNeg)) - (v1 * (σ.2.2 1 v8.toNatClampNeg)) / v4 * v4))) H := hP
          refine lv_lload hx hb d_R_share_103 (lv_at hl 4 rfl) ?_
          refine lv_aload_n hx hb d_R_share_105 rfl (lv_at hl 0 rfl) ?_
          refine va_get (ci := 8) (v := .ref (ad 21)) (C := R_R) (T := F_R) (N := 32) hx hb ht iw_R hown hK hP 0 rfl rfl 26 (by decide) (ht _ wd_703) (fun _ h9 => h9) rfl d_R_share_106 ?_
          refine lv_iload hx hb d_R_share_109 (lv_at hl 5 rfl) ?_
          obtain ⟨hi20, hf⟩ := tg_of hf
          refine va_iald (f := (tI σ 17 v8.toNatClampNeg (0 : Int32)).2.1 17) hx hb hK hP 21 20 rfl rfl hi20 d_R_share_111 ?_
          refine lv_i2l hx hb d_R_share_112 rfl ?_
          refine lv_lsub hx hb d_R_share_113 ?_
          refine lv_lstore (lv' := [(6, .long (v6 - (((tI σ 17 v8.toNatClampNeg (0 : Int32)).2.1 17 v8.toNatClampNeg)).toInt64)), (0, .ref (ad 0)), (1, .long v1), (3, .int v3), (4, .long v4), (8, .int v8)]) hx hb d_R_share_114 hl (by decide) rfl (fun ls hl => ?_)
          refine lv_iinc (v := (v8 + (1 : Int32))) (lv' := [(8, .int (v8 + (1 : Int32))), (6, .long (v6 - (((tI σ 17 v8.toNatClampNeg (0 : Int32)).2.1 17 v8.toNatClampNeg)).toInt64)), (0, .ref (ad 0)), (1, .long v1), (3, .int v3), (4, .long v4)]) hx hb d_R_share_116 hl (k := 5) rfl rfl (by decide) rfl (fun ls hl => ?_)
          refine lv_goto (tgt := 36) hx hb d_R_share_119 (by decide) ?_
          exact ih _ _ _ _ _ _ _ hf _ _ hP hS _ (lv_sub hl [2, 3, 4, 5, 1, 0] rfl)
        · replace hf := ti_pos hc hf
          refine lv_lconst (v := (0 : Int64)) hx hb d_R_share_86 (by decide) ?_
          refine lv_goto (tgt := 102) hx hb d_R_share_87 (by decide) ?_
          obtain ⟨hi21, hf⟩ := tg_of hf
          refine va_last (f := σ.2.2 2) hx hb hK hP (cwR_D hd) hS 20 19 rfl rfl hi21 d_R_share_102 (fun H locs hP _ hS => ?_)
          replace hP : va_P D clS (cwR ad ta (tJ (tI σ 17 v8.toNatClampNeg (0 : Int32)) 2 v8.toNatClampNeg (0 : Int64))) H := hP
          refine lv_lload hx hb d_R_share_103 (lv_at hl 4 rfl) ?_
          refine lv_aload_n hx hb d_R_share_105 rfl (lv_at hl 0 rfl) ?_
          refine va_get (ci := 8) (v := .ref (ad 21)) (C := R_R) (T := F_R) (N := 32) hx hb ht iw_R hown hK hP 0 rfl rfl 26 (by decide) (ht _ wd_703) (fun _ h9 => h9) rfl d_R_share_106 ?_
          refine lv_iload hx hb d_R_share_109 (lv_at hl 5 rfl) ?_
          obtain ⟨hi22, hf⟩ := tg_of hf
          refine va_iald (f := (tI σ 17 v8.toNatClampNeg (0 : Int32)).2.1 17) hx hb hK hP 21 20 rfl rfl hi22 d_R_share_111 ?_
          refine lv_i2l hx hb d_R_share_112 rfl ?_
          refine lv_lsub hx hb d_R_share_113 ?_
          refine lv_lstore (lv' := [(6, .long (v6 - (((tI σ 17 v8.toNatClampNeg (0 : Int32)).2.1 17 v8.toNatClampNeg)).toInt64)), (0, .ref (ad 0)), (1, .long v1), (3, .int v3), (4, .long v4), (8, .int v8)]) hx hb d_R_share_114 hl (by decide) rfl (fun ls hl => ?_)
          refine lv_iinc (v := (v8 + (1 : Int32))) (lv' := [(8, .int (v8 + (1 : Int32))), (6, .long (v6 - (((tI σ 17 v8.toNatClampNeg (0 : Int32)).2.1 17 v8.toNatClampNeg)).toInt64)), (0, .ref (ad 0)), (1, .long v1), (3, .int v3), (4, .long v4)]) hx hb d_R_share_116 hl (k := 5) rfl rfl (by decide) rfl (fun ls hl => ?_)
          refine lv_goto (tgt := 36) hx hb d_R_share_119 (by decide) ?_
          exact ih _ _ _ _ _ _ _ hf _ _ hP hS _ (lv_sub hl [2, 3, 4, 5, 1, 0] rfl)
set_option maxHeartbeats 4000000 in
set_option maxRecDepth 100000 in
theorem mw_R_share_6 {p : Program} {l : Launch} {e : Env} {s : State} {m : MethodId} {args : Array Value} {below : List Frame} {meth : Method} {c : Code} {D : va_G} {ad : Nat → Nat} {ta : Nat → ClassId} (CX : tC p s m args meth c b_R_share none 10 R_R D clS (tyR ta)) (hd : tD 26 ad) : ∀ (k : Nat) (v1 : Int64) (v3 : Int32) (v4 : Int64) (v6 : Int32) (σ : tS) (res : tS), ml_R_share_6 k v1 v3 v4 v6 σ = some res → ∀ (H : Heap) (locs : List Loc), va_P D clS (cwR ad ta σ) H → va_S (tA 26 ad) s.heap H locs → ∀ (ls : Array Slot), lv_has ls 10 [(0, .ref (ad 0)), (1, .long v1), (3, .int v3), (4, .long v4), (6, .int v6)] → W p l e rm_R_share s m args below meth c H locs 0 0 (MQ below (tQ D clS (cwR ad ta res) none (tA 26 ad)) args s 0 0 (tA 26 ad)) (F0 m 6 ls []) := by
  obtain ⟨hx, hb, hr, hml, hown, ht, hlocks, hK, hN⟩ := id CX
  intro k
  induction k with
  | zero =>
    intro v1 v3 v4 v6 σ res hf
    exact tn_no hf
  | succ k ih =>
    intro v1 v3 v4 v6 σ res hf H locs hP hS ls hl
    replace hf : ms_R_share_6 (ml_R_share_6 k) v1 v3 v4 v6 σ = some res := hf
    unfold ms_R_share_6 at hf
    refine lv_iload hx hb d_R_share_6 (lv_at hl 4 rfl) ?_
    refine lv_iload_n hx hb d_R_share_8 rfl (lv_at hl 2 rfl) ?_
    refine lv_icmp_ge (tgt := 30) hx hb d_R_share_9 (by decide) (fun hc => ?_) (fun hc => ?_)
    · replace hf := ti_pos hc hf
      refine lv_lload_n hx hb d_R_share_30 rfl (lv_at hl 1 rfl) ?_
      refine lv_lstore (lv' := [(6, .long v1), (0, .ref (ad 0)), (1, .long v1), (3, .int v3), (4, .long v4)]) hx hb d_R_share_31 hl (by decide) rfl (fun ls hl => ?_)
      refine lv_iconst (v := (0 : Int32)) hx hb d_R_share_33 (by decide) ?_
      refine lv_istore (lv' := [(8, .int (0 : Int32)), (6, .long v1), (0, .ref (ad 0)), (1, .long v1), (3, .int v3), (4, .long v4)]) hx hb d_R_share_34 hl (by decide) rfl (fun ls hl => ?_)
      exact mw_R_share_36 CX hd _ _ _ _ _ _ _ _ hf _ _ hP hS _ (lv_sub hl [2, 3, 4, 5, 1, 0] rfl)
    · replace hf := ti_neg hc hf
      refine lv_lload hx hb d_R_share_12 (lv_at hl 3 rfl) ?_
      refine lv_aload_n hx hb d_R_share_14 rfl (lv_at hl 0 rfl) ?_
      refine va_get (ci := 8) (v := .ref (ad 19)) (C := R_R) (T := F_R) (N := 32) hx hb ht iw_R hown hK hP 0 rfl rfl 24 (by decide) (ht _ wd_701) (fun _ h9 => h9) rfl d_R_share_15 ?_
      refine lv_iload hx hb d_R_share_18 (lv_at hl 4 rfl) ?_
      obtain ⟨hi23, hf⟩ := tg_of hf
      refine va_lald (f := σ.2.2 1) hx hb hK hP 19 18 rfl rfl hi23 d_R_share_20 ?_
      refine lv_ladd hx hb d_R_share_21 ?_
      refine lv_lstore (lv' := [(4, .long (v4 + (σ.2.2 1 v6.toNatClampNeg))), (0, .ref (ad 0)), (1, .long v1), (3, .int v3), (6, .int v6)]) hx hb d_R_share_22 hl (by decide) rfl (fun ls hl => ?_)
      refine lv_iinc (v := (v6 + (1 : Int32))) (lv' := [(6, .int (v6 + (1 : Int32))), (4, .long (v4 + (σ.2.2 1 v6.toNatClampNeg))), (0, .ref (ad 0)), (1, .long v1), (3, .int v3)]) hx hb d_R_share_24 hl (k := 4) rfl rfl (by decide) rfl (fun ls hl => ?_)
      refine lv_goto (tgt := 6) hx hb d_R_share_27 (by decide) ?_
      exact ih _ _ _ _ _ _ hf _ _ hP hS _ (lv_sub hl [2, 3, 4, 1, 0] rfl)
set_option maxHeartbeats 4000000 in
set_option maxRecDepth 100000 in
theorem mc_R_share (l : Launch) {D : va_G} {ad : Nat → Nat} {ta : Nat → ClassId} (hd : tD 26 ad) {σ σ' : tS} {p0 : Int64} {p1 : Int32} (hf : mf_R_share p0 p1 σ = some σ') : Met l y_R_share (.code y_R_share b_R_share 10 none :: tw) rm_R_share (tP D clS (tyR ta) (cwR ad ta σ) [.ref (ad 0), .long p0, .int p1]) (tQ D clS (cwR ad ta σ') none (tA 26 ad)) 0 0 (tA 26 ad) := by
  refine Met.ofW (cc := b_R_share) (maxL := 10) (ret := none) (by decide) rfl ?_
  intro p e s m args below meth c s₁ B hml hv
  obtain ⟨rfl, hP, hK, hN⟩ := hv
  have hx := B.exec
  have hb := B.bytes
  have hr := B.returns
  have ht : ∀ w ∈ tw, w.before [.ref (ad 0), .long p0, .int p1].toArray s = true := fun w h => atoms_spec (ws := (.code y_R_share b_R_share 10 none :: tw)) B.pre w (List.mem_cons_of_mem _ h)
  have hown : s.vm.findClass R_R = some m.cls := findClass_of_methodNamed B.named
  have hlocks := B.notSynchronized
  have CX : tC p s m [.ref (ad 0), .long p0, .int p1].toArray meth c b_R_share none 10 R_R D clS (tyR ta) := ⟨hx, hb, hr, hml, hown, ht, hlocks, hK, hN⟩
  have hS : va_S (tA 26 ad) s.heap s.heap [] := va_S.rf
  have hl := lv_entry ([.ref (ad 0), .long p0, .int p1]) (n := 10) (Nat.le_of_ble_eq_true rfl)
  rw [lg_entry_eq]
  generalize (lg_sl ([.ref (ad 0), .long p0, .int p1]) ++ List.replicate (10 - (lg_sl ([.ref (ad 0), .long p0, .int p1])).length) Slot.unset).toArray = ls at hl ⊢
  replace hl : lv_has ls 10 [(0, .ref (ad 0)), (1, .long p0), (3, .int p1)] := hl
  unfold mf_R_share at hf
  refine lv_lconst (v := (0 : Int64)) hx hb d_R_share_0 (by decide) ?_
  refine lv_lstore (lv' := [(4, .long (0 : Int64)), (0, .ref (ad 0)), (1, .long p0), (3, .int p1)]) hx hb d_R_share_1 hl (by decide) rfl (fun ls hl => ?_)
  refine lv_iconst (v := (0 : Int32)) hx hb d_R_share_3 (by decide) ?_
  refine lv_istore (lv' := [(6, .int (0 : Int32)), (4, .long (0 : Int64)), (0, .ref (ad 0)), (1, .long p0), (3, .int p1)]) hx hb d_R_share_4 hl (by decide) rfl (fun ls hl => ?_)
  exact mw_R_share_6 CX hd _ _ _ _ _ _ _ hf _ _ hP hS _ (lv_sub hl [2, 3, 4, 1, 0] rfl)
