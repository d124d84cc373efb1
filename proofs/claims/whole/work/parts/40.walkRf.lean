abbrev rm_R_link : Room := { frames := 3, cells := 0, slots := 0, locals := 65 }
set_option maxHeartbeats 4000000 in
set_option maxRecDepth 100000 in
theorem mc_R_link (l : Launch) {D : va_G} {ad : Nat → Nat} {ta : Nat → ClassId} (hd : tD 26 ad) {σ σ' : tS} {p0 : Int32} {p1 : Int32} {p2 : Int32} {r : Int32} (hf : mf_R_link p0 p1 p2 σ = some (r, σ')) : Met l y_R_link (.code y_R_link b_R_link 4 (some .int) :: tw) rm_R_link (tP D clS (tyR ta) (cwR ad ta σ) [.ref (ad 0), .int p0, .int p1, .int p2]) (tQ D clS (cwR ad ta σ') (some (.int r)) (tA 26 ad)) 0 0 (tA 26 ad) := by
  refine Met.ofW (cc := b_R_link) (maxL := 4) (ret := (some .int)) (by decide) rfl ?_
  intro p e s m args below meth c s₁ B hml hv
  obtain ⟨rfl, hP, hK, hN⟩ := hv
  have hx := B.exec
  have hb := B.bytes
  have hr := B.returns
  have ht : ∀ w ∈ tw, w.before [.ref (ad 0), .int p0, .int p1, .int p2].toArray s = true := fun w h => atoms_spec (ws := (.code y_R_link b_R_link 4 (some .int) :: tw)) B.pre w (List.mem_cons_of_mem _ h)
  have hown : s.vm.findClass R_R = some m.cls := findClass_of_methodNamed B.named
  have hlocks := B.notSynchronized
  have CX : tC p s m [.ref (ad 0), .int p0, .int p1, .int p2].toArray meth c b_R_link (some .int) 4 R_R D clS (tyR ta) := ⟨hx, hb, hr, hml, hown, ht, hlocks, hK, hN⟩
  have hS : va_S (tA 26 ad) s.heap s.heap [] := va_S.rf
  have hl := lv_entry ([.ref (ad 0), .int p0, .int p1, .int p2]) (n := 4) (Nat.le_of_ble_eq_true rfl)
  rw [lg_entry_eq]
  generalize (lg_sl ([.ref (ad 0), .int p0, .int p1, .int p2]) ++ List.replicate (4 - (lg_sl ([.ref (ad 0), .int p0, .int p1, .int p2])).length) Slot.unset).toArray = ls at hl ⊢
  replace hl : lv_has ls 4 [(0, .ref (ad 0)), (1, .int p0), (2, .int p1), (3, .int p2)] := hl
  unfold mf_R_link at hf
  refine lv_aload_n hx hb d_R_link_0 rfl (lv_at hl 0 rfl) ?_
  refine lv_aload_n hx hb d_R_link_1 rfl (lv_at hl 0 rfl) ?_
  refine lv_iload_n hx hb d_R_link_2 rfl (lv_at hl 1 rfl) ?_
  obtain ⟨r_1, s_1, hq1, hf⟩ := tb2_of hf
  refine tr_calli (va_runV (C := R_R) (As := [.int p0]) (rest := [.ref (ad 0)]) ⟨hx, hb, hml, hown, ht⟩ (mc_R_isStreet l hd hq1) ⟨(tw_cb (n := 1) ht wc_R_isStreet wd_43 wd_803 ⟨rfl, rfl⟩ (by decide +kernel) ⟨(Nat.le_of_ble_eq_true rfl), (Nat.le_of_ble_eq_true rfl)⟩), ht _ wd_805, ht _ wd_17⟩ ⟨tP_blind, va_recv hK hP (ci := 8) (q0 := 0) rfl rfl, fun U hU hW => ⟨rfl, by rw [hU]; exact hP, va_K.moved hW.alike hK, tW_warm hW hN⟩⟩ rfl rfl hl.1 rfl (lv_room (Nat.le_of_ble_eq_true rfl)) d_R_link_3 ⟨Nat.zero_le _, Nat.zero_le _⟩) hS (fun _ h => h.elim) (fun _ h => h.elim) (fun H locs hP hS => ?_)
  refine lv_if_eq (tgt := 22) hx hb d_R_link_6 (by decide) (fun hc => ?_) (fun hc => ?_)
  · replace hf := ti_pos hc hf
    refine lv_iconst (v := (1 : Int32)) hx hb d_R_link_22 (by decide) ?_
    refine va_put (ci := 8) (v := .int (1 : Int32)) (ty := .int) (C := R_R) (T := F_R) (N := 32) hx hb ht iw_R ft_R to_R nm_R hown hK hP (cwR_D hd) hS 0 rfl rfl 0 (by decide) (ht _ wd_677) (fun _ h9 => h9) rfl (by decide +kernel) rfl rfl (Nat.le_of_ble_eq_true rfl) d_R_link_23 (fun H locs hP _ hS => ?_)
    replace hP : va_P D clS (cwR ad ta (tF s_1 0 (1 : Int32))) H := hP
    refine lv_aload_n hx hb d_R_link_26 rfl (lv_at hl 0 rfl) ?_
    refine va_get (ci := 8) (v := .int (1 : Int32)) (C := R_R) (T := F_R) (N := 32) hx hb ht iw_R hown hK hP 0 rfl rfl 0 (by decide) (ht _ wd_677) (fun _ h9 => h9) rfl d_R_link_27 ?_
    refine lv_if_le (tgt := 37) hx hb d_R_link_30 (by decide) (fun hc => ?_) (fun hc => ?_)
    · replace hf := ti_pos hc hf
      refine lv_aload_n hx hb d_R_link_37 rfl (lv_at hl 0 rfl) ?_
      refine va_get (ci := 8) (v := .ref (ad 17)) (C := R_R) (T := F_R) (N := 32) hx hb ht iw_R hown hK hP 0 rfl rfl 20 (by decide) (ht _ wd_697) (fun _ h9 => h9) rfl d_R_link_38 ?_
      refine lv_bipush (v := (36 : Int32)) hx hb d_R_link_41 (by decide) ?_
      refine lv_iload_n hx hb d_R_link_43 rfl (lv_at hl 1 rfl) ?_
      refine lv_imul hx hb d_R_link_44 ?_
      refine lv_bipush (v := (6 : Int32)) hx hb d_R_link_45 (by decide) ?_
      refine lv_iload_n hx hb d_R_link_47 rfl (lv_at hl 2 rfl) ?_
      refine lv_imul hx hb d_R_link_48 ?_
      refine lv_iadd hx hb d_R_link_49 ?_
      refine lv_iload_n hx hb d_R_link_50 rfl (lv_at hl 3 rfl) ?_
      refine lv_iadd hx hb d_R_link_51 ?_
      obtain ⟨hi2, hf⟩ := tg_of hf
      refine va_iald (f := s_1.2.1 15) hx hb hK hP 17 16 rfl rfl hi2 d_R_link_52 ?_
      obtain ⟨rfl, rfl⟩ := tp_of hf
      exact W.iret (v := (s_1.2.1 15 ((((36 : Int32) * p0) + ((6 : Int32) * p1)) + p2).toNatClampNeg)) hx hb hr (fun t ht hW => ⟨rfl, by rw [ht]; exact hP, hS.F ht⟩) hS.2.2 d_R_link_53
    · replace hf := ti_neg hc hf
      refine lv_iconst (v := (0 : Int32)) hx hb d_R_link_33 (by decide) ?_
      refine lv_goto (tgt := 53) hx hb d_R_link_34 (by decide) ?_
      obtain ⟨rfl, rfl⟩ := tp_of hf
      exact W.iret (v := (0 : Int32)) hx hb hr (fun t ht hW => ⟨rfl, by rw [ht]; exact hP, hS.F ht⟩) hS.2.2 d_R_link_53
  · replace hf := ti_neg hc hf
    refine lv_aload_n hx hb d_R_link_9 rfl (lv_at hl 0 rfl) ?_
    refine lv_iload_n hx hb d_R_link_10 rfl (lv_at hl 2 rfl) ?_
    refine lv_iload_n hx hb d_R_link_11 rfl (lv_at hl 3 rfl) ?_
    obtain ⟨r_3, s_3, hq3, hf⟩ := tb2_of hf
    refine tr_calli (va_runV (C := R_R) (As := [.int p1, .int p2]) (rest := [.ref (ad 0)]) ⟨hx, hb, hml, hown, ht⟩ (mc_R_isPair l hd hq3) ⟨(tw_cb (n := 2) ht wc_R_isPair wd_43 wd_815 ⟨rfl, rfl⟩ (by decide +kernel) ⟨(Nat.le_of_ble_eq_true rfl), (Nat.le_of_ble_eq_true rfl)⟩), ht _ wd_817, ht _ wd_18⟩ ⟨tP_blind, va_recv hK hP (ci := 8) (q0 := 0) rfl rfl, fun U hU hW => ⟨rfl, by rw [hU]; exact hP, va_K.moved hW.alike hK, tW_warm hW hN⟩⟩ rfl rfl hl.1 rfl (lv_room (Nat.le_of_ble_eq_true rfl)) d_R_link_12 ⟨Nat.zero_le _, Nat.zero_le _⟩) hS (fun _ h => h.elim) (fun _ h => h.elim) (fun H locs hP hS => ?_)
    refine lv_if_eq (tgt := 22) hx hb d_R_link_15 (by decide) (fun hc => ?_) (fun hc => ?_)
    · replace hf := ti_pos hc hf
      refine lv_iconst (v := (1 : Int32)) hx hb d_R_link_22 (by decide) ?_
      refine va_put (ci := 8) (v := .int (1 : Int32)) (ty := .int) (C := R_R) (T := F_R) (N := 32) hx hb ht iw_R ft_R to_R nm_R hown hK hP (cwR_D hd) hS 0 rfl rfl 0 (by decide) (ht _ wd_677) (fun _ h9 => h9) rfl (by decide +kernel) rfl rfl (Nat.le_of_ble_eq_true rfl) d_R_link_23 (fun H locs hP _ hS => ?_)
      replace hP : va_P D clS (cwR ad ta (tF s_3 0 (1 : Int32))) H := hP
      refine lv_aload_n hx hb d_R_link_26 rfl (lv_at hl 0 rfl) ?_
      refine va_get (ci := 8) (v := .int (1 : Int32)) (C := R_R) (T := F_R) (N := 32) hx hb ht iw_R hown hK hP 0 rfl rfl 0 (by decide) (ht _ wd_677) (fun _ h9 => h9) rfl d_R_link_27 ?_
      refine lv_if_le (tgt := 37) hx hb d_R_link_30 (by decide) (fun hc => ?_) (fun hc => ?_)
      · replace hf := ti_pos hc hf
        refine lv_aload_n hx hb d_R_link_37 rfl (lv_at hl 0 rfl) ?_
        refine va_get (ci := 8) (v := .ref (ad 17)) (C := R_R) (T := F_R) (N := 32) hx hb ht iw_R hown hK hP 0 rfl rfl 20 (by decide) (ht _ wd_697) (fun _ h9 => h9) rfl d_R_link_38 ?_
        refine lv_bipush (v := (36 : Int32)) hx hb d_R_link_41 (by decide) ?_
        refine lv_iload_n hx hb d_R_link_43 rfl (lv_at hl 1 rfl) ?_
        refine lv_imul hx hb d_R_link_44 ?_
        refine lv_bipush (v := (6 : Int32)) hx hb d_R_link_45 (by decide) ?_
        refine lv_iload_n hx hb d_R_link_47 rfl (lv_at hl 2 rfl) ?_
        refine lv_imul hx hb d_R_link_48 ?_
        refine lv_iadd hx hb d_R_link_49 ?_
        refine lv_iload_n hx hb d_R_link_50 rfl (lv_at hl 3 rfl) ?_
        refine lv_iadd hx hb d_R_link_51 ?_
        obtain ⟨hi4, hf⟩ := tg_of hf
        refine va_iald (f := s_3.2.1 15) hx hb hK hP 17 16 rfl rfl hi4 d_R_link_52 ?_
        obtain ⟨rfl, rfl⟩ := tp_of hf
        exact W.iret (v := (s_3.2.1 15 ((((36 : Int32) * p0) + ((6 : Int32) * p1)) + p2).toNatClampNeg)) hx hb hr (fun t ht hW => ⟨rfl, by rw [ht]; exact hP, hS.F ht⟩) hS.2.2 d_R_link_53
      · replace hf := ti_neg hc hf
        refine lv_iconst (v := (0 : Int32)) hx hb d_R_link_33 (by decide) ?_
        refine lv_goto (tgt := 53) hx hb d_R_link_34 (by decide) ?_
        obtain ⟨rfl, rfl⟩ := tp_of hf
        exact W.iret (v := (0 : Int32)) hx hb hr (fun t ht hW => ⟨rfl, by rw [ht]; exact hP, hS.F ht⟩) hS.2.2 d_R_link_53
    · replace hf := ti_neg hc hf
      refine lv_iconst (v := (0 : Int32)) hx hb d_R_link_18 (by decide) ?_
      refine lv_goto (tgt := 23) hx hb d_R_link_19 (by decide) ?_
      refine va_put (ci := 8) (v := .int (0 : Int32)) (ty := .int) (C := R_R) (T := F_R) (N := 32) hx hb ht iw_R ft_R to_R nm_R hown hK hP (cwR_D hd) hS 0 rfl rfl 0 (by decide) (ht _ wd_677) (fun _ h9 => h9) rfl (by decide +kernel) rfl rfl (Nat.le_of_ble_eq_true rfl) d_R_link_23 (fun H locs hP _ hS => ?_)
      replace hP : va_P D clS (cwR ad ta (tF s_3 0 (0 : Int32))) H := hP
      refine lv_aload_n hx hb d_R_link_26 rfl (lv_at hl 0 rfl) ?_
      refine va_get (ci := 8) (v := .int (0 : Int32)) (C := R_R) (T := F_R) (N := 32) hx hb ht iw_R hown hK hP 0 rfl rfl 0 (by decide) (ht _ wd_677) (fun _ h9 => h9) rfl d_R_link_27 ?_
      refine lv_if_le (tgt := 37) hx hb d_R_link_30 (by decide) (fun hc => ?_) (fun hc => ?_)
      · replace hf := ti_pos hc hf
        refine lv_aload_n hx hb d_R_link_37 rfl (lv_at hl 0 rfl) ?_
        refine va_get (ci := 8) (v := .ref (ad 17)) (C := R_R) (T := F_R) (N := 32) hx hb ht iw_R hown hK hP 0 rfl rfl 20 (by decide) (ht _ wd_697) (fun _ h9 => h9) rfl d_R_link_38 ?_
        refine lv_bipush (v := (36 : Int32)) hx hb d_R_link_41 (by decide) ?_
        refine lv_iload_n hx hb d_R_link_43 rfl (lv_at hl 1 rfl) ?_
        refine lv_imul hx hb d_R_link_44 ?_
        refine lv_bipush (v := (6 : Int32)) hx hb d_R_link_45 (by decide) ?_
        refine lv_iload_n hx hb d_R_link_47 rfl (lv_at hl 2 rfl) ?_
        refine lv_imul hx hb d_R_link_48 ?_
        refine lv_iadd hx hb d_R_link_49 ?_
        refine lv_iload_n hx hb d_R_link_50 rfl (lv_at hl 3 rfl) ?_
        refine lv_iadd hx hb d_R_link_51 ?_
        obtain ⟨hi5, hf⟩ := tg_of hf
        refine va_iald (f := s_3.2.1 15) hx hb hK hP 17 16 rfl rfl hi5 d_R_link_52 ?_
        obtain ⟨rfl, rfl⟩ := tp_of hf
        exact W.iret (v := (s_3.2.1 15 ((((36 : Int32) * p0) + ((6 : Int32) * p1)) + p2).toNatClampNeg)) hx hb hr (fun t ht hW => ⟨rfl, by rw [ht]; exact hP, hS.F ht⟩) hS.2.2 d_R_link_53
      · replace hf := ti_neg hc hf
        refine lv_iconst (v := (0 : Int32)) hx hb d_R_link_33 (by decide) ?_
        refine lv_goto (tgt := 53) hx hb d_R_link_34 (by decide) ?_
        obtain ⟨rfl, rfl⟩ := tp_of hf
        exact W.iret (v := (0 : Int32)) hx hb hr (fun t ht hW => ⟨rfl, by rw [ht]; exact hP, hS.F ht⟩) hS.2.2 d_R_link_53
abbrev rm_R_gap : Room := { frames := 2, cells := 0, slots := 0, locals := 44 }
set_option maxHeartbeats 4000000 in
set_option maxRecDepth 100000 in
theorem mw_R_gap_56 {p : Program} {l : Launch} {e : Env} {s : State} {m : MethodId} {args : Array Value} {below : List Frame} {meth : Method} {c : Code} {D : va_G} {ad : Nat → Nat} {ta : Nat → ClassId} {Q : State → Prop} (CX : tC p s m args meth c b_R_gap (some .long) 7 R_R D clS (tyR ta)) (hd : tD 26 ad) : ∀ (k : Nat) (v1 : Int64) (v3 : Int32) (v4 : Int32) (σ : tS) (res : (Int64 × Int32 × Int32 × tS)), ml_R_gap_56 k v1 v3 v4 σ = some res → ∀ (H : Heap) (locs : List Loc), va_P D clS (cwR ad ta σ) H → va_S (tA 26 ad) s.heap H locs → ∀ (ls : Array Slot), lv_has ls 7 [(0, .ref (ad 0)), (1, .long v1), (3, .int v3), (4, .int v4)] → (∀ (H : Heap) (locs : List Loc), va_P D clS (cwR ad ta res.2.2.2) H → va_S (tA 26 ad) s.heap H locs → ∀ (ls : Array Slot), lv_has ls 7 [(0, .ref (ad 0)), (1, .long res.1), (3, .int res.2.1), (4, .int res.2.2.1)] → W p l e rm_R_gap s m args below meth c H locs 0 0 Q (F0 m 127 ls [])) → W p l e rm_R_gap s m args below meth c H locs 0 0 Q (F0 m 56 ls []) := by
  obtain ⟨hx, hb, hr, hml, hown, ht, hlocks, hK, hN⟩ := id CX
  intro k
  induction k with
  | zero =>
    intro v1 v3 v4 σ res hf
    exact tn_no hf
  | succ k ih =>
    intro v1 v3 v4 σ res hf H locs hP hS ls hl kk
    replace hf : ms_R_gap_56 (ml_R_gap_56 k) v1 v3 v4 σ = some res := hf
    unfold ms_R_gap_56 at hf
    refine lv_iload hx hb d_R_gap_56 (lv_at hl 3 rfl) ?_
    refine lv_aload_n hx hb d_R_gap_58 rfl (lv_at hl 0 rfl) ?_
    refine va_get (ci := 8) (v := .int (σ.1 2)) (C := R_R) (T := F_R) (N := 32) hx hb ht iw_R hown hK hP 0 rfl rfl 2 (by decide) (ht _ wd_679) (fun _ h9 => h9) rfl d_R_gap_59 ?_
    refine lv_icmp_ge (tgt := 127) hx hb d_R_gap_62 (by decide) (fun hc => ?_) (fun hc => ?_)
    · replace hf := ti_pos hc hf
      obtain rfl := ts_of hf
      exact kk _ _ hP hS _ (lv_sub hl [0, 1, 2, 3] rfl)
    · replace hf := ti_neg hc hf
      refine lv_aload_n hx hb d_R_gap_65 rfl (lv_at hl 0 rfl) ?_
      refine lv_aload_n hx hb d_R_gap_66 rfl (lv_at hl 0 rfl) ?_
      refine va_get (ci := 8) (v := .ref (ad 1)) (C := R_R) (T := F_R) (N := 32) hx hb ht iw_R hown hK hP 0 rfl rfl 4 (by decide) (ht _ wd_681) (fun _ h9 => h9) rfl d_R_gap_67 ?_
      refine lv_iload hx hb d_R_gap_70 (lv_at hl 3 rfl) ?_
      obtain ⟨hi2, hf⟩ := tg_of hf
      refine va_iald (f := σ.2.1 0) hx hb hK hP 1 0 rfl rfl hi2 d_R_gap_72 ?_
      obtain ⟨s_3, hq3, hf⟩ := tb1_of hf
      refine tr_callv (va_runV (C := R_R) (As := [.int (σ.2.1 0 v4.toNatClampNeg)]) (rest := []) ⟨hx, hb, hml, hown, ht⟩ (mc_R_findNear l hd hq3) ⟨(tw_cb (n := 1) ht wc_R_findNear wd_43 wd_897 ⟨rfl, rfl⟩ (by decide +kernel) ⟨(Nat.le_of_ble_eq_true rfl), (Nat.le_of_ble_eq_true rfl)⟩), ht _ wd_899, ht _ wd_30⟩ ⟨tP_blind, va_recv hK hP (ci := 8) (q0 := 0) rfl rfl, fun U hU hW => ⟨rfl, by rw [hU]; exact hP, va_K.moved hW.alike hK, tW_warm hW hN⟩⟩ rfl rfl hl.1 rfl (lv_room (Nat.le_of_ble_eq_true rfl)) d_R_gap_73 ⟨Nat.zero_le _, Nat.zero_le _⟩) hS (fun _ h => h) (fun _ h => h) (fun H locs hP hS => ?_)
      refine lv_aload_n hx hb d_R_gap_76 rfl (lv_at hl 0 rfl) ?_
      refine va_get (ci := 8) (v := .ref (ad 23)) (C := R_R) (T := F_R) (N := 32) hx hb ht iw_R hown hK hP 0 rfl rfl 28 (by decide) (ht _ wd_705) (fun _ h9 => h9) rfl d_R_gap_77 ?_
      refine lv_aload_n hx hb d_R_gap_80 rfl (lv_at hl 0 rfl) ?_
      refine va_get (ci := 8) (v := .ref (ad 1)) (C := R_R) (T := F_R) (N := 32) hx hb ht iw_R hown hK hP 0 rfl rfl 4 (by decide) (ht _ wd_681) (fun _ h9 => h9) rfl d_R_gap_81 ?_
      refine lv_iload_n hx hb d_R_gap_84 rfl (lv_at hl 2 rfl) ?_
      obtain ⟨hi4, hf⟩ := tg_of hf
      refine va_iald (f := s_3.2.1 0) hx hb hK hP 1 0 rfl rfl hi4 d_R_gap_85 ?_
      obtain ⟨hi5, hf⟩ := tg_of hf
      refine va_lald (f := s_3.2.2 4) hx hb hK hP 23 22 rfl rfl hi5 d_R_gap_86 ?_
      refine lv_lstore (lv' := [(5, .long (s_3.2.2 4 (s_3.2.1 0 v3.toNatClampNeg).toNatClampNeg)), (0, .ref (ad 0)), (1, .long v1), (3, .int v3), (4, .int v4)]) hx hb d_R_gap_87 hl (by decide) rfl (fun ls hl => ?_)
      refine lv_lload_n hx hb d_R_gap_89 rfl (lv_at hl 2 rfl) ?_
      refine lv_lload hx hb d_R_gap_90 (lv_at hl 0 rfl) ?_
      refine lv_ldc2 (v := (1000000000000 : Int64)) hx hb hown (ht _ wd_901) d_R_gap_92 ?_
      refine W.lcmp hx hb d_R_gap_95 ?_
      refine lv_if_ne (tgt := 103) hx hb d_R_gap_96 (by decide) (fun hc => ?_) (fun hc => ?_)
      · replace hf := ti_neg hc hf
        refine lv_aload_n hx hb d_R_gap_103 rfl (lv_at hl 1 rfl) ?_
        refine va_get (ci := 8) (v := .ref (ad 16)) (C := R_R) (T := F_R) (N := 32) hx hb ht iw_R hown hK hP 0 rfl rfl 19 (by decide) (ht _ wd_696) (fun _ h9 => h9) rfl d_R_gap_104 ?_
        refine lv_bipush (v := (6 : Int32)) hx hb d_R_gap_107 (by decide) ?_
        refine lv_iload_n hx hb d_R_gap_109 rfl (lv_at hl 3 rfl) ?_
        refine lv_imul hx hb d_R_gap_110 ?_
        refine lv_iload hx hb d_R_gap_111 (lv_at hl 4 rfl) ?_
        refine lv_iadd hx hb d_R_gap_113 ?_
        obtain ⟨hi6, hf⟩ := tg_of hf
        refine va_iald (f := s_3.2.1 14) hx hb hK hP 16 15 rfl rfl hi6 d_R_gap_114 ?_
        refine lv_i2l hx hb d_R_gap_115 rfl ?_
        refine lv_lload hx hb d_R_gap_116 (lv_at hl 0 rfl) ?_
        refine lv_lmul hx hb d_R_gap_118 ?_
        refine lv_lsub hx hb d_R_gap_119 ?_
        refine lv_lstore_n (lv' := [(1, .long (v1 - (((s_3.2.1 14 (((6 : Int32) * v3) + v4).toNatClampNeg)).toInt64 * (s_3.2.2 4 (s_3.2.1 0 v3.toNatClampNeg).toNatClampNeg)))), (5, .long (s_3.2.2 4 (s_3.2.1 0 v3.toNatClampNeg).toNatClampNeg)), (0, .ref (ad 0)), (3, .int v3), (4, .int v4)]) hx hb d_R_gap_120 rfl hl (by decide) rfl (fun ls hl => ?_)
        refine lv_iinc (v := (v4 + (1 : Int32))) (lv' := [(4, .int (v4 + (1 : Int32))), (1, .long (v1 - (((s_3.2.1 14 (((6 : Int32) * v3) + v4).toNatClampNeg)).toInt64 * (s_3.2.2 4 (s_3.2.1 0 v3.toNatClampNeg).toNatClampNeg)))), (5, .long (s_3.2.2 4 (s_3.2.1 0 v3.toNatClampNeg).toNatClampNeg)), (0, .ref (ad 0)), (3, .int v3)]) hx hb d_R_gap_121 hl (k := 4) rfl rfl (by decide) rfl (fun ls hl => ?_)
        refine lv_goto (tgt := 56) hx hb d_R_gap_124 (by decide) ?_
        exact ih _ _ _ _ _ hf _ _ hP hS _ (lv_sub hl [3, 1, 4, 0] rfl) kk
      · replace hf := ti_pos hc hf
        refine lv_lconst (v := (0 : Int64)) hx hb d_R_gap_99 (by decide) ?_
        refine lv_goto (tgt := 119) hx hb d_R_gap_100 (by decide) ?_
        refine lv_lsub hx hb d_R_gap_119 ?_
        refine lv_lstore_n (lv' := [(1, .long (v1 - (0 : Int64))), (5, .long (s_3.2.2 4 (s_3.2.1 0 v3.toNatClampNeg).toNatClampNeg)), (0, .ref (ad 0)), (3, .int v3), (4, .int v4)]) hx hb d_R_gap_120 rfl hl (by decide) rfl (fun ls hl => ?_)
        refine lv_iinc (v := (v4 + (1 : Int32))) (lv' := [(4, .int (v4 + (1 : Int32))), (1, .long (v1 - (0 : Int64))), (5, .long (s_3.2.2 4 (s_3.2.1 0 v3.toNatClampNeg).toNatClampNeg)), (0, .ref (ad 0)), (3, .int v3)]) hx hb d_R_gap_121 hl (k := 4) rfl rfl (by decide) rfl (fun ls hl => ?_)
        refine lv_goto (tgt := 56) hx hb d_R_gap_124 (by decide) ?_
        exact ih _ _ _ _ _ hf _ _ hP hS _ (lv_sub hl [3, 1, 4, 0] rfl) kk
set_option maxHeartbeats 4000000 in
set_option maxRecDepth 100000 in
theorem mw_R_gap_45 {p : Program} {l : Launch} {e : Env} {s : State} {m : MethodId} {args : Array Value} {below : List Frame} {meth : Method} {c : Code} {D : va_G} {ad : Nat → Nat} {ta : Nat → ClassId} (CX : tC p s m args meth c b_R_gap (some .long) 7 R_R D clS (tyR ta)) (hd : tD 26 ad) : ∀ (k : Nat) (v1 : Int64) (v3 : Int32) (σ : tS) (res : (Int64 × tS)), ml_R_gap_45 k v1 v3 σ = some res → ∀ (H : Heap) (locs : List Loc), va_P D clS (cwR ad ta σ) H → va_S (tA 26 ad) s.heap H locs → ∀ (ls : Array Slot), lv_has ls 7 [(0, .ref (ad 0)), (1, .long v1), (3, .int v3)] → W p l e rm_R_gap s m args below meth c H locs 0 0 (MQ below (tQ D clS (cwR ad ta res.2) (some (.long res.1)) (tA 26 ad)) args s 0 0 (tA 26 ad)) (F0 m 45 ls []) := by
  obtain ⟨hx, hb, hr, hml, hown, ht, hlocks, hK, hN⟩ := id CX
  intro k
  induction k with
  | zero =>
    intro v1 v3 σ res hf
    exact tn_no hf
  | succ k ih =>
    intro v1 v3 σ res hf H locs hP hS ls hl
    replace hf : ms_R_gap_45 (ml_R_gap_45 k) v1 v3 σ = some res := hf
    unfold ms_R_gap_45 at hf
    refine lv_iload_n hx hb d_R_gap_45 rfl (lv_at hl 2 rfl) ?_
    refine lv_aload_n hx hb d_R_gap_46 rfl (lv_at hl 0 rfl) ?_
    refine va_get (ci := 8) (v := .int (σ.1 2)) (C := R_R) (T := F_R) (N := 32) hx hb ht iw_R hown hK hP 0 rfl rfl 2 (by decide) (ht _ wd_679) (fun _ h9 => h9) rfl d_R_gap_47 ?_
    refine lv_icmp_ge (tgt := 133) hx hb d_R_gap_50 (by decide) (fun hc => ?_) (fun hc => ?_)
    · replace hf := ti_pos hc hf
      refine lv_lload_n hx hb d_R_gap_133 rfl (lv_at hl 1 rfl) ?_
      obtain rfl := ts_of hf
      exact W.lret (v := v1) hx hb hr (fun t ht hW => ⟨rfl, by rw [ht]; exact hP, hS.F ht⟩) hS.2.2 d_R_gap_134
    · replace hf := ti_neg hc hf
      refine lv_iconst (v := (0 : Int32)) hx hb d_R_gap_53 (by decide) ?_
      refine lv_istore (lv' := [(4, .int (0 : Int32)), (0, .ref (ad 0)), (1, .long v1), (3, .int v3)]) hx hb d_R_gap_54 hl (by decide) rfl (fun ls hl => ?_)
      obtain ⟨e_7, hq7, hf⟩ := tb1_of hf
      refine mw_R_gap_56 CX hd _ _ _ _ _ _ hq7 _ _ hP hS _ (lv_sub hl [1, 2, 3, 0] rfl) (fun H locs hP hS ls hl => ?_)
      refine lv_iinc (v := (e_7.2.1 + (1 : Int32))) (lv' := [(3, .int (e_7.2.1 + (1 : Int32))), (0, .ref (ad 0)), (1, .long e_7.1), (4, .int e_7.2.2.1)]) hx hb d_R_gap_127 hl (k := 2) rfl rfl (by decide) rfl (fun ls hl => ?_)
      refine lv_goto (tgt := 45) hx hb d_R_gap_130 (by decide) ?_
      exact ih _ _ _ _ hf _ _ hP hS _ (lv_sub hl [1, 2, 0] rfl)
set_option maxHeartbeats 4000000 in
set_option maxRecDepth 100000 in
theorem mw_R_gap_13 {p : Program} {l : Launch} {e : Env} {s : State} {m : MethodId} {args : Array Value} {below : List Frame} {meth : Method} {c : Code} {D : va_G} {ad : Nat → Nat} {ta : Nat → ClassId} (CX : tC p s m args meth c b_R_gap (some .long) 7 R_R D clS (tyR ta)) (hd : tD 26 ad) : ∀ (k : Nat) (v1 : Int64) (v3 : Int32) (σ : tS) (res : (Int64 × tS)), ml_R_gap_13 k v1 v3 σ = some res → ∀ (H : Heap) (locs : List Loc), va_P D clS (cwR ad ta σ) H → va_S (tA 26 ad) s.heap H locs → ∀ (ls : Array Slot), lv_has ls 7 [(0, .ref (ad 0)), (1, .long v1), (3, .int v3)] → W p l e rm_R_gap s m args below meth c H locs 0 0 (MQ below (tQ D clS (cwR ad ta res.2) (some (.long res.1)) (tA 26 ad)) args s 0 0 (tA 26 ad)) (F0 m 13 ls []) := by
  obtain ⟨hx, hb, hr, hml, hown, ht, hlocks, hK, hN⟩ := id CX
  intro k
  induction k with
  | zero =>
    intro v1 v3 σ res hf
    exact tn_no hf
  | succ k ih =>
    intro v1 v3 σ res hf H locs hP hS ls hl
    replace hf : ms_R_gap_13 (ml_R_gap_13 k) v1 v3 σ = some res := hf
    unfold ms_R_gap_13 at hf
    refine lv_iload_n hx hb d_R_gap_13 rfl (lv_at hl 2 rfl) ?_
    refine lv_aload_n hx hb d_R_gap_14 rfl (lv_at hl 0 rfl) ?_
    refine va_get (ci := 8) (v := .int (σ.1 3)) (C := R_R) (T := F_R) (N := 32) hx hb ht iw_R hown hK hP 0 rfl rfl 3 (by decide) (ht _ wd_680) (fun _ h9 => h9) rfl d_R_gap_15 ?_
    refine lv_icmp_ge (tgt := 43) hx hb d_R_gap_18 (by decide) (fun hc => ?_) (fun hc => ?_)
    · replace hf := ti_pos hc hf
      refine lv_iconst (v := (0 : Int32)) hx hb d_R_gap_43 (by decide) ?_
      refine lv_istore_n (lv' := [(3, .int (0 : Int32)), (0, .ref (ad 0)), (1, .long v1)]) hx hb d_R_gap_44 rfl hl (by decide) rfl (fun ls hl => ?_)
      exact mw_R_gap_45 CX hd _ _ _ _ _ hf _ _ hP hS _ (lv_sub hl [1, 2, 0] rfl)
    · replace hf := ti_neg hc hf
      refine lv_lload_n hx hb d_R_gap_21 rfl (lv_at hl 1 rfl) ?_
      refine lv_aload_n hx hb d_R_gap_22 rfl (lv_at hl 0 rfl) ?_
      refine va_get (ci := 8) (v := .ref (ad 12)) (C := R_R) (T := F_R) (N := 32) hx hb ht iw_R hown hK hP 0 rfl rfl 15 (by decide) (ht _ wd_692) (fun _ h9 => h9) rfl d_R_gap_23 ?_
      refine lv_iload_n hx hb d_R_gap_26 rfl (lv_at hl 2 rfl) ?_
      obtain ⟨hi8, hf⟩ := tg_of hf
      refine va_lald (f := σ.2.2 0) hx hb hK hP 12 11 rfl rfl hi8 d_R_gap_27 ?_
      refine lv_aload_n hx hb d_R_gap_28 rfl (lv_at hl 0 rfl) ?_
      refine va_get (ci := 8) (v := .ref (ad 22)) (C := R_R) (T := F_R) (N := 32) hx hb ht iw_R hown hK hP 0 rfl rfl 27 (by decide) (ht _ wd_704) (fun _ h9 => h9) rfl d_R_gap_29 ?_
      refine lv_iload_n hx hb d_R_gap_32 rfl (lv_at hl 2 rfl) ?_
      obtain ⟨hi9, hf⟩ := tg_of hf
      refine va_lald (f := σ.2.2 3) hx hb hK hP 22 21 rfl rfl hi9 d_R_gap_33 ?_
      refine lv_lmul hx hb d_R_gap_34 ?_
      refine lv_ladd hx hb d_R_gap_35 ?_
      refine lv_lstore_n (lv' := [(1, .long (v1 + ((σ.2.2 0 v3.toNatClampNeg) * (σ.2.2 3 v3.toNatClampNeg)))), (0, .ref (ad 0)), (3, .int v3)]) hx hb d_R_gap_36 rfl hl (by decide) rfl (fun ls hl => ?_)
      refine lv_iinc (v := (v3 + (1 : Int32))) (lv' := [(3, .int (v3 + (1 : Int32))), (1, .long (v1 + ((σ.2.2 0 v3.toNatClampNeg) * (σ.2.2 3 v3.toNatClampNeg)))), (0, .ref (ad 0))]) hx hb d_R_gap_37 hl (k := 2) rfl rfl (by decide) rfl (fun ls hl => ?_)
      refine lv_goto (tgt := 13) hx hb d_R_gap_40 (by decide) ?_
      exact ih _ _ _ _ hf _ _ hP hS _ (lv_sub hl [2, 1, 0] rfl)
set_option maxHeartbeats 4000000 in
set_option maxRecDepth 100000 in
theorem mc_R_gap (l : Launch) {D : va_G} {ad : Nat → Nat} {ta : Nat → ClassId} (hd : tD 26 ad) {σ σ' : tS}  {r : Int64} (hf : mf_R_gap  σ = some (r, σ')) : Met l y_R_gap (.code y_R_gap b_R_gap 7 (some .long) :: tw) rm_R_gap (tP D clS (tyR ta) (cwR ad ta σ) [.ref (ad 0)]) (tQ D clS (cwR ad ta σ') (some (.long r)) (tA 26 ad)) 0 0 (tA 26 ad) := by
  refine Met.ofW (cc := b_R_gap) (maxL := 7) (ret := (some .long)) (by decide) rfl ?_
  intro p e s m args below meth c s₁ B hml hv
  obtain ⟨rfl, hP, hK, hN⟩ := hv
  have hx := B.exec
  have hb := B.bytes
  have hr := B.returns
  have ht : ∀ w ∈ tw, w.before [.ref (ad 0)].toArray s = true := fun w h => atoms_spec (ws := (.code y_R_gap b_R_gap 7 (some .long) :: tw)) B.pre w (List.mem_cons_of_mem _ h)
  have hown : s.vm.findClass R_R = some m.cls := findClass_of_methodNamed B.named
  have hlocks := B.notSynchronized
  have CX : tC p s m [.ref (ad 0)].toArray meth c b_R_gap (some .long) 7 R_R D clS (tyR ta) := ⟨hx, hb, hr, hml, hown, ht, hlocks, hK, hN⟩
  have hS : va_S (tA 26 ad) s.heap s.heap [] := va_S.rf
  have hl := lv_entry ([.ref (ad 0)]) (n := 7) (Nat.le_of_ble_eq_true rfl)
  rw [lg_entry_eq]
  generalize (lg_sl ([.ref (ad 0)]) ++ List.replicate (7 - (lg_sl ([.ref (ad 0)])).length) Slot.unset).toArray = ls at hl ⊢
  replace hl : lv_has ls 7 [(0, .ref (ad 0))] := hl
  unfold mf_R_gap at hf
  refine lv_aload_n hx hb d_R_gap_0 rfl (lv_at hl 0 rfl) ?_
  refine lv_iconst (v := (0 : Int32)) hx hb d_R_gap_1 (by decide) ?_
  refine va_put (ci := 8) (v := .int (0 : Int32)) (ty := .int) (C := R_R) (T := F_R) (N := 32) hx hb ht iw_R ft_R to_R nm_R hown hK hP (cwR_D hd) hS 0 rfl rfl 0 (by decide) (ht _ wd_677) (fun _ h9 => h9) rfl (by decide +kernel) rfl rfl (Nat.le_of_ble_eq_true rfl) d_R_gap_2 (fun H locs hP _ hS => ?_)
  replace hP : va_P D clS (cwR ad ta (tF σ 0 (0 : Int32))) H := hP
  refine lv_aload_n hx hb d_R_gap_5 rfl (lv_at hl 0 rfl) ?_
  obtain ⟨s_1, hq1, hf⟩ := tb1_of hf
  refine tr_callv (va_runV (C := R_R) (As := []) (rest := []) ⟨hx, hb, hml, hown, ht⟩ (mc_R_takeTimes l hd hq1) ⟨(tw_cb (n := 0) ht wc_R_takeTimes wd_43 wd_881 ⟨rfl, rfl⟩ (by decide +kernel) ⟨(Nat.le_of_ble_eq_true rfl), (Nat.le_of_ble_eq_true rfl)⟩), ht _ wd_883, ht _ wd_26⟩ ⟨tP_blind, va_recv hK hP (ci := 8) (q0 := 0) rfl rfl, fun U hU hW => ⟨rfl, by rw [hU]; exact hP, va_K.moved hW.alike hK, tW_warm hW hN⟩⟩ rfl rfl hl.1 rfl (lv_room (Nat.le_of_ble_eq_true rfl)) d_R_gap_6 ⟨Nat.zero_le _, Nat.zero_le _⟩) hS (fun _ h => h) (fun _ h => h) (fun H locs hP hS => ?_)
  refine lv_lconst (v := (0 : Int64)) hx hb d_R_gap_9 (by decide) ?_
  refine lv_lstore_n (lv' := [(1, .long (0 : Int64)), (0, .ref (ad 0))]) hx hb d_R_gap_10 rfl hl (by decide) rfl (fun ls hl => ?_)
  refine lv_iconst (v := (0 : Int32)) hx hb d_R_gap_11 (by decide) ?_
  refine lv_istore_n (lv' := [(3, .int (0 : Int32)), (1, .long (0 : Int64)), (0, .ref (ad 0))]) hx hb d_R_gap_12 rfl hl (by decide) rfl (fun ls hl => ?_)
  exact mw_R_gap_13 CX hd _ _ _ _ _ hf _ _ hP hS _ (lv_sub hl [2, 1, 0] rfl)
abbrev rm_R_count : Room := { frames := 2, cells := 0, slots := 0, locals := 43 }
set_option maxHeartbeats 4000000 in
set_option maxRecDepth 100000 in
theorem mc_R_count (l : Launch) {D : va_G} {ad : Nat → Nat} {ta : Nat → ClassId} (hd : tD 26 ad) {σ σ' : tS} {p0 : Int32} {p1 : Int32} {r : Int32} (hf : mf_R_count p0 p1 σ = some (r, σ')) : Met l y_R_count (.code y_R_count b_R_count 4 (some .int) :: tw) rm_R_count (tP D clS (tyR ta) (cwR ad ta σ) [.ref (ad 0), .int p0, .int p1]) (tQ D clS (cwR ad ta σ') (some (.int r)) (tA 26 ad)) 0 0 (tA 26 ad) := by
  refine Met.ofW (cc := b_R_count) (maxL := 4) (ret := (some .int)) (by decide) rfl ?_
  intro p e s m args below meth c s₁ B hml hv
  obtain ⟨rfl, hP, hK, hN⟩ := hv
  have hx := B.exec
  have hb := B.bytes
  have hr := B.returns
  have ht : ∀ w ∈ tw, w.before [.ref (ad 0), .int p0, .int p1].toArray s = true := fun w h => atoms_spec (ws := (.code y_R_count b_R_count 4 (some .int) :: tw)) B.pre w (List.mem_cons_of_mem _ h)
  have hown : s.vm.findClass R_R = some m.cls := findClass_of_methodNamed B.named
  have hlocks := B.notSynchronized
  have CX : tC p s m [.ref (ad 0), .int p0, .int p1].toArray meth c b_R_count (some .int) 4 R_R D clS (tyR ta) := ⟨hx, hb, hr, hml, hown, ht, hlocks, hK, hN⟩
  have hS : va_S (tA 26 ad) s.heap s.heap [] := va_S.rf
  have hl := lv_entry ([.ref (ad 0), .int p0, .int p1]) (n := 4) (Nat.le_of_ble_eq_true rfl)
  rw [lg_entry_eq]
  generalize (lg_sl ([.ref (ad 0), .int p0, .int p1]) ++ List.replicate (4 - (lg_sl ([.ref (ad 0), .int p0, .int p1])).length) Slot.unset).toArray = ls at hl ⊢
  replace hl : lv_has ls 4 [(0, .ref (ad 0)), (1, .int p0), (2, .int p1)] := hl
  unfold mf_R_count at hf
  refine lv_aload_n hx hb d_R_count_0 rfl (lv_at hl 0 rfl) ?_
  refine lv_aload_n hx hb d_R_count_1 rfl (lv_at hl 0 rfl) ?_
  refine lv_iload_n hx hb d_R_count_2 rfl (lv_at hl 1 rfl) ?_
  obtain ⟨r_1, s_1, hq1, hf⟩ := tb2_of hf
  refine tr_calli (va_runV (C := R_R) (As := [.int p0]) (rest := [.ref (ad 0)]) ⟨hx, hb, hml, hown, ht⟩ (mc_R_isStreet l hd hq1) ⟨(tw_cb (n := 1) ht wc_R_isStreet wd_43 wd_803 ⟨rfl, rfl⟩ (by decide +kernel) ⟨(Nat.le_of_ble_eq_true rfl), (Nat.le_of_ble_eq_true rfl)⟩), ht _ wd_805, ht _ wd_17⟩ ⟨tP_blind, va_recv hK hP (ci := 8) (q0 := 0) rfl rfl, fun U hU hW => ⟨rfl, by rw [hU]; exact hP, va_K.moved hW.alike hK, tW_warm hW hN⟩⟩ rfl rfl hl.1 rfl (lv_room (Nat.le_of_ble_eq_true rfl)) d_R_count_3 ⟨Nat.zero_le _, Nat.zero_le _⟩) hS (fun _ h => h.elim) (fun _ h => h.elim) (fun H locs hP hS => ?_)
  refine lv_if_eq (tgt := 23) hx hb d_R_count_6 (by decide) (fun hc => ?_) (fun hc => ?_)
  · replace hf := ti_pos hc hf
    refine lv_iconst (v := (1 : Int32)) hx hb d_R_count_23 (by decide) ?_
    refine va_put (ci := 8) (v := .int (1 : Int32)) (ty := .int) (C := R_R) (T := F_R) (N := 32) hx hb ht iw_R ft_R to_R nm_R hown hK hP (cwR_D hd) hS 0 rfl rfl 0 (by decide) (ht _ wd_677) (fun _ h9 => h9) rfl (by decide +kernel) rfl rfl (Nat.le_of_ble_eq_true rfl) d_R_count_24 (fun H locs hP _ hS => ?_)
    replace hP : va_P D clS (cwR ad ta (tF s_1 0 (1 : Int32))) H := hP
    refine lv_aload_n hx hb d_R_count_27 rfl (lv_at hl 0 rfl) ?_
    refine va_get (ci := 8) (v := .int (1 : Int32)) (C := R_R) (T := F_R) (N := 32) hx hb ht iw_R hown hK hP 0 rfl rfl 0 (by decide) (ht _ wd_677) (fun _ h9 => h9) rfl d_R_count_28 ?_
    refine lv_if_le (tgt := 36) hx hb d_R_count_31 (by decide) (fun hc => ?_) (fun hc => ?_)
    · replace hf := ti_pos hc hf
      refine lv_aload_n hx hb d_R_count_36 rfl (lv_at hl 0 rfl) ?_
      refine va_get (ci := 8) (v := .ref (ad 11)) (C := R_R) (T := F_R) (N := 32) hx hb ht iw_R hown hK hP 0 rfl rfl 14 (by decide) (ht _ wd_691) (fun _ h9 => h9) rfl d_R_count_37 ?_
      refine lv_iload_n hx hb d_R_count_40 rfl (lv_at hl 1 rfl) ?_
      obtain ⟨hi2, hf⟩ := tg_of hf
      refine va_iald (f := s_1.2.1 10) hx hb hK hP 11 10 rfl rfl hi2 d_R_count_41 ?_
      refine lv_istore_n (lv' := [(3, .int (s_1.2.1 10 p0.toNatClampNeg)), (0, .ref (ad 0)), (1, .int p0), (2, .int p1)]) hx hb d_R_count_42 rfl hl (by decide) rfl (fun ls hl => ?_)
      refine lv_aload_n hx hb d_R_count_43 rfl (lv_at hl 1 rfl) ?_
      refine va_get (ci := 8) (v := .ref (ad 11)) (C := R_R) (T := F_R) (N := 32) hx hb ht iw_R hown hK hP 0 rfl rfl 14 (by decide) (ht _ wd_691) (fun _ h9 => h9) rfl d_R_count_44 ?_
      refine lv_iload_n hx hb d_R_count_47 rfl (lv_at hl 2 rfl) ?_
      refine lv_iload_n hx hb d_R_count_48 rfl (lv_at hl 3 rfl) ?_
      obtain ⟨hi3, hf⟩ := tg_of hf
      refine va_iast (f := s_1.2.1 10) hx hb hK hP (cwR_D hd) hS 11 10 rfl rfl hi3 d_R_count_49 (fun H locs hP _ hS => ?_)
      replace hP : va_P D clS (cwR ad ta (tI (tF s_1 0 (1 : Int32)) 10 p0.toNatClampNeg p1)) H := hP
      refine lv_iload_n hx hb d_R_count_50 rfl (lv_at hl 0 rfl) ?_
      obtain ⟨rfl, rfl⟩ := tp_of hf
      exact W.iret (v := (s_1.2.1 10 p0.toNatClampNeg)) hx hb hr (fun t ht hW => ⟨rfl, by rw [ht]; exact hP, hS.F ht⟩) hS.2.2 d_R_count_51
    · replace hf := ti_neg hc hf
      refine lv_iconst (v := (0 : Int32)) hx hb d_R_count_34 (by decide) ?_
      obtain ⟨rfl, rfl⟩ := tp_of hf
      exact W.iret (v := (0 : Int32)) hx hb hr (fun t ht hW => ⟨rfl, by rw [ht]; exact hP, hS.F ht⟩) hS.2.2 d_R_count_35
  · replace hf := ti_neg hc hf
    refine lv_iload_n hx hb d_R_count_9 rfl (lv_at hl 2 rfl) ?_
    refine lv_iconst (v := ((-1) : Int32)) hx hb d_R_count_10 (by decide) ?_
    refine lv_ldc (v := (1000000 : Int32)) hx hb hown (ht _ wd_798) d_R_count_11 ?_
    obtain ⟨r_4, s_4, hq4, hf⟩ := tb2_of hf
    refine tr_calli (va_runS (As := [.int p1, .int ((-1) : Int32), .int (1000000 : Int32)]) (rest := [.ref (ad 0)]) ⟨hx, hb, hml, hown, ht⟩ (mc_R_isIn l hd hq4) ⟨(tw_cb (n := 3) ht wc_R_isIn wd_43 wd_790 ⟨rfl, rfl⟩ (by decide +kernel) ⟨(Nat.le_of_ble_eq_true rfl), (Nat.le_of_ble_eq_true rfl)⟩), ht _ wd_791⟩ ⟨tP_blind, fun U hU hW => ⟨rfl, by rw [hU]; exact hP, va_K.moved hW.alike hK, tW_warm hW hN⟩⟩ rfl rfl hl.1 rfl (lv_room (Nat.le_of_ble_eq_true rfl)) d_R_count_13 ⟨Nat.zero_le _, Nat.zero_le _⟩) hS (fun _ h => h.elim) (fun _ h => h.elim) (fun H locs hP hS => ?_)
    refine lv_if_eq (tgt := 23) hx hb d_R_count_16 (by decide) (fun hc => ?_) (fun hc => ?_)
    · replace hf := ti_pos hc hf
      refine lv_iconst (v := (1 : Int32)) hx hb d_R_count_23 (by decide) ?_
      refine va_put (ci := 8) (v := .int (1 : Int32)) (ty := .int) (C := R_R) (T := F_R) (N := 32) hx hb ht iw_R ft_R to_R nm_R hown hK hP (cwR_D hd) hS 0 rfl rfl 0 (by decide) (ht _ wd_677) (fun _ h9 => h9) rfl (by decide +kernel) rfl rfl (Nat.le_of_ble_eq_true rfl) d_R_count_24 (fun H locs hP _ hS => ?_)
      replace hP : va_P D clS (cwR ad ta (tF s_4 0 (1 : Int32))) H := hP
      refine lv_aload_n hx hb d_R_count_27 rfl (lv_at hl 0 rfl) ?_
      refine va_get (ci := 8) (v := .int (1 : Int32)) (C := R_R) (T := F_R) (N := 32) hx hb ht iw_R hown hK hP 0 rfl rfl 0 (by decide) (ht _ wd_677) (fun _ h9 => h9) rfl d_R_count_28 ?_
      refine lv_if_le (tgt := 36) hx hb d_R_count_31 (by decide) (fun hc => ?_) (fun hc => ?_)
      · replace hf := ti_pos hc hf
        refine lv_aload_n hx hb d_R_count_36 rfl (lv_at hl 0 rfl) ?_
        refine va_get (ci := 8) (v := .ref (ad 11)) (C := R_R) (T := F_R) (N := 32) hx hb ht iw_R hown hK hP 0 rfl rfl 14 (by decide) (ht _ wd_691) (fun _ h9 => h9) rfl d_R_count_37 ?_
        refine lv_iload_n hx hb d_R_count_40 rfl (lv_at hl 1 rfl) ?_
        obtain ⟨hi5, hf⟩ := tg_of hf
        refine va_iald (f := s_4.2.1 10) hx hb hK hP 11 10 rfl rfl hi5 d_R_count_41 ?_
        refine lv_istore_n (lv' := [(3, .int (s_4.2.1 10 p0.toNatClampNeg)), (0, .ref (ad 0)), (1, .int p0), (2, .int p1)]) hx hb d_R_count_42 rfl hl (by decide) rfl (fun ls hl => ?_)
        refine lv_aload_n hx hb d_R_count_43 rfl (lv_at hl 1 rfl) ?_
        refine va_get (ci := 8) (v := .ref (ad 11)) (C := R_R) (T := F_R) (N := 32) hx hb ht iw_R hown hK hP 0 rfl rfl 14 (by decide) (ht _ wd_691) (fun _ h9 => h9) rfl d_R_count_44 ?_
        refine lv_iload_n hx hb d_R_count_47 rfl (lv_at hl 2 rfl) ?_
        refine lv_iload_n hx hb d_R_count_48 rfl (lv_at hl 3 rfl) ?_
        obtain ⟨hi6, hf⟩ := tg_of hf
        refine va_iast (f := s_4.2.1 10) hx hb hK hP (cwR_D hd) hS 11 10 rfl rfl hi6 d_R_count_49 (fun H locs hP _ hS => ?_)
        replace hP : va_P D clS (cwR ad ta (tI (tF s_4 0 (1 : Int32)) 10 p0.toNatClampNeg p1)) H := hP
        refine lv_iload_n hx hb d_R_count_50 rfl (lv_at hl 0 rfl) ?_
        obtain ⟨rfl, rfl⟩ := tp_of hf
        exact W.iret (v := (s_4.2.1 10 p0.toNatClampNeg)) hx hb hr (fun t ht hW => ⟨rfl, by rw [ht]; exact hP, hS.F ht⟩) hS.2.2 d_R_count_51
      · replace hf := ti_neg hc hf
        refine lv_iconst (v := (0 : Int32)) hx hb d_R_count_34 (by decide) ?_
        obtain ⟨rfl, rfl⟩ := tp_of hf
        exact W.iret (v := (0 : Int32)) hx hb hr (fun t ht hW => ⟨rfl, by rw [ht]; exact hP, hS.F ht⟩) hS.2.2 d_R_count_35
    · replace hf := ti_neg hc hf
      refine lv_iconst (v := (0 : Int32)) hx hb d_R_count_19 (by decide) ?_
      refine lv_goto (tgt := 24) hx hb d_R_count_20 (by decide) ?_
      refine va_put (ci := 8) (v := .int (0 : Int32)) (ty := .int) (C := R_R) (T := F_R) (N := 32) hx hb ht iw_R ft_R to_R nm_R hown hK hP (cwR_D hd) hS 0 rfl rfl 0 (by decide) (ht _ wd_677) (fun _ h9 => h9) rfl (by decide +kernel) rfl rfl (Nat.le_of_ble_eq_true rfl) d_R_count_24 (fun H locs hP _ hS => ?_)
      replace hP : va_P D clS (cwR ad ta (tF s_4 0 (0 : Int32))) H := hP
      refine lv_aload_n hx hb d_R_count_27 rfl (lv_at hl 0 rfl) ?_
      refine va_get (ci := 8) (v := .int (0 : Int32)) (C := R_R) (T := F_R) (N := 32) hx hb ht iw_R hown hK hP 0 rfl rfl 0 (by decide) (ht _ wd_677) (fun _ h9 => h9) rfl d_R_count_28 ?_
      refine lv_if_le (tgt := 36) hx hb d_R_count_31 (by decide) (fun hc => ?_) (fun hc => ?_)
      · replace hf := ti_pos hc hf
        refine lv_aload_n hx hb d_R_count_36 rfl (lv_at hl 0 rfl) ?_
        refine va_get (ci := 8) (v := .ref (ad 11)) (C := R_R) (T := F_R) (N := 32) hx hb ht iw_R hown hK hP 0 rfl rfl 14 (by decide) (ht _ wd_691) (fun _ h9 => h9) rfl d_R_count_37 ?_
        refine lv_iload_n hx hb d_R_count_40 rfl (lv_at hl 1 rfl) ?_
        obtain ⟨hi7, hf⟩ := tg_of hf
        refine va_iald (f := s_4.2.1 10) hx hb hK hP 11 10 rfl rfl hi7 d_R_count_41 ?_
        refine lv_istore_n (lv' := [(3, .int (s_4.2.1 10 p0.toNatClampNeg)), (0, .ref (ad 0)), (1, .int p0), (2, .int p1)]) hx hb d_R_count_42 rfl hl (by decide) rfl (fun ls hl => ?_)
        refine lv_aload_n hx hb d_R_count_43 rfl (lv_at hl 1 rfl) ?_
        refine va_get (ci := 8) (v := .ref (ad 11)) (C := R_R) (T := F_R) (N := 32) hx hb ht iw_R hown hK hP 0 rfl rfl 14 (by decide) (ht _ wd_691) (fun _ h9 => h9) rfl d_R_count_44 ?_
        refine lv_iload_n hx hb d_R_count_47 rfl (lv_at hl 2 rfl) ?_
        refine lv_iload_n hx hb d_R_count_48 rfl (lv_at hl 3 rfl) ?_
        obtain ⟨hi8, hf⟩ := tg_of hf
        refine va_iast (f := s_4.2.1 10) hx hb hK hP (cwR_D hd) hS 11 10 rfl rfl hi8 d_R_count_49 (fun H locs hP _ hS => ?_)
        replace hP : va_P D clS (cwR ad ta (tI (tF s_4 0 (0 : Int32)) 10 p0.toNatClampNeg p1)) H := hP
        refine lv_iload_n hx hb d_R_count_50 rfl (lv_at hl 0 rfl) ?_
        obtain ⟨rfl, rfl⟩ := tp_of hf
        exact W.iret (v := (s_4.2.1 10 p0.toNatClampNeg)) hx hb hr (fun t ht hW => ⟨rfl, by rw [ht]; exact hP, hS.F ht⟩) hS.2.2 d_R_count_51
      · replace hf := ti_neg hc hf
        refine lv_iconst (v := (0 : Int32)) hx hb d_R_count_34 (by decide) ?_
        obtain ⟨rfl, rfl⟩ := tp_of hf
        exact W.iret (v := (0 : Int32)) hx hb hr (fun t ht hW => ⟨rfl, by rw [ht]; exact hP, hS.F ht⟩) hS.2.2 d_R_count_35
abbrev rm_R_offOf : Room := { frames := 0, cells := 0, slots := 0, locals := 0 }
set_option maxHeartbeats 4000000 in
set_option maxRecDepth 100000 in
theorem mc_R_offOf (l : Launch) {D : va_G} {ad : Nat → Nat} {ta : Nat → ClassId} (hd : tD 26 ad) {σ σ' : tS} {p0 : Int32} {r : Int64} (hf : mf_R_offOf p0 σ = some (r, σ')) : Met l y_R_offOf (.code y_R_offOf b_R_offOf 4 (some .long) :: tw) rm_R_offOf (tP D clS (tyR ta) (cwR ad ta σ) [.ref (ad 0), .int p0]) (tQ D clS (cwR ad ta σ') (some (.long r)) tNo) 0 0 tNo := by
  refine Met.ofW (cc := b_R_offOf) (maxL := 4) (ret := (some .long)) (by decide) rfl ?_
  intro p e s m args below meth c s₁ B hml hv
  obtain ⟨rfl, hP, hK, hN⟩ := hv
  have hx := B.exec
  have hb := B.bytes
  have hr := B.returns
  have ht : ∀ w ∈ tw, w.before [.ref (ad 0), .int p0].toArray s = true := fun w h => atoms_spec (ws := (.code y_R_offOf b_R_offOf 4 (some .long) :: tw)) B.pre w (List.mem_cons_of_mem _ h)
  have hown : s.vm.findClass R_R = some m.cls := findClass_of_methodNamed B.named
  have hlocks := B.notSynchronized
  have CX : tC p s m [.ref (ad 0), .int p0].toArray meth c b_R_offOf (some .long) 4 R_R D clS (tyR ta) := ⟨hx, hb, hr, hml, hown, ht, hlocks, hK, hN⟩
  have hS : va_S tNo s.heap s.heap [] := va_S.rf
  have hl := lv_entry ([.ref (ad 0), .int p0]) (n := 4) (Nat.le_of_ble_eq_true rfl)
  rw [lg_entry_eq]
  generalize (lg_sl ([.ref (ad 0), .int p0]) ++ List.replicate (4 - (lg_sl ([.ref (ad 0), .int p0])).length) Slot.unset).toArray = ls at hl ⊢
  replace hl : lv_has ls 4 [(0, .ref (ad 0)), (1, .int p0)] := hl
  unfold mf_R_offOf at hf
  refine lv_aload_n hx hb d_R_offOf_0 rfl (lv_at hl 0 rfl) ?_
  refine va_get (ci := 8) (v := .ref (ad 12)) (C := R_R) (T := F_R) (N := 32) hx hb ht iw_R hown hK hP 0 rfl rfl 15 (by decide) (ht _ wd_692) (fun _ h9 => h9) rfl d_R_offOf_1 ?_
  refine lv_iload_n hx hb d_R_offOf_4 rfl (lv_at hl 1 rfl) ?_
  obtain ⟨hi1, hf⟩ := tg_of hf
  refine va_lald (f := σ.2.2 0) hx hb hK hP 12 11 rfl rfl hi1 d_R_offOf_5 ?_
  refine lv_aload_n hx hb d_R_offOf_6 rfl (lv_at hl 0 rfl) ?_
  refine va_get (ci := 8) (v := .ref (ad 11)) (C := R_R) (T := F_R) (N := 32) hx hb ht iw_R hown hK hP 0 rfl rfl 14 (by decide) (ht _ wd_691) (fun _ h9 => h9) rfl d_R_offOf_7 ?_
  refine lv_iload_n hx hb d_R_offOf_10 rfl (lv_at hl 1 rfl) ?_
  obtain ⟨hi2, hf⟩ := tg_of hf
  refine va_iald (f := σ.2.1 10) hx hb hK hP 11 10 rfl rfl hi2 d_R_offOf_11 ?_
  refine lv_i2l hx hb d_R_offOf_12 rfl ?_
  refine lv_lsub hx hb d_R_offOf_13 ?_
  refine lv_lstore_n (lv' := [(2, .long ((σ.2.2 0 p0.toNatClampNeg) - ((σ.2.1 10 p0.toNatClampNeg)).toInt64)), (0, .ref (ad 0)), (1, .int p0)]) hx hb d_R_offOf_14 rfl hl (by decide) rfl (fun ls hl => ?_)
  refine lv_lload_n hx hb d_R_offOf_15 rfl (lv_at hl 0 rfl) ?_
  refine lv_lconst (v := (0 : Int64)) hx hb d_R_offOf_16 (by decide) ?_
  refine W.lcmp hx hb d_R_offOf_17 ?_
  refine lv_if_ge (tgt := 26) hx hb d_R_offOf_18 (by decide) (fun hc => ?_) (fun hc => ?_)
  · replace hf := ti_pos hc hf
    refine lv_lload_n hx hb d_R_offOf_26 rfl (lv_at hl 0 rfl) ?_
    obtain ⟨rfl, rfl⟩ := tp_of hf
    exact W.lret (v := ((σ.2.2 0 p0.toNatClampNeg) - ((σ.2.1 10 p0.toNatClampNeg)).toInt64)) hx hb hr (fun t ht hW => ⟨rfl, by rw [ht]; exact hP, hS.F ht⟩) hS.2.2 d_R_offOf_27
  · replace hf := ti_neg hc hf
    refine lv_lload_n hx hb d_R_offOf_21 rfl (lv_at hl 0 rfl) ?_
    refine lv_lneg hx hb d_R_offOf_22 ?_
    refine lv_goto (tgt := 27) hx hb d_R_offOf_23 (by decide) ?_
    obtain ⟨rfl, rfl⟩ := tp_of hf
    exact W.lret (v := (-((σ.2.2 0 p0.toNatClampNeg) - ((σ.2.1 10 p0.toNatClampNeg)).toInt64))) hx hb hr (fun t ht hW => ⟨rfl, by rw [ht]; exact hP, hS.F ht⟩) hS.2.2 d_R_offOf_27
abbrev rm_R_worst : Room := { frames := 1, cells := 0, slots := 0, locals := 23 }
set_option maxHeartbeats 4000000 in
set_option maxRecDepth 100000 in
theorem mw_R_worst_4 {p : Program} {l : Launch} {e : Env} {s : State} {m : MethodId} {args : Array Value} {below : List Frame} {meth : Method} {c : Code} {D : va_G} {ad : Nat → Nat} {ta : Nat → ClassId} (CX : tC p s m args meth c b_R_worst (some .int) 3 R_R D clS (tyR ta)) (hd : tD 26 ad) : ∀ (k : Nat) (v1 : Int32) (v2 : Int32) (σ : tS) (res : (Int32 × tS)), ml_R_worst_4 k v1 v2 σ = some res → ∀ (H : Heap) (locs : List Loc), va_P D clS (cwR ad ta σ) H → va_S tNo s.heap H locs → ∀ (ls : Array Slot), lv_has ls 3 [(0, .ref (ad 0)), (1, .int v1), (2, .int v2)] → W p l e rm_R_worst s m args below meth c H locs 0 0 (MQ below (tQ D clS (cwR ad ta res.2) (some (.int res.1)) tNo) args s 0 0 tNo) (F0 m 4 ls []) := by
  obtain ⟨hx, hb, hr, hml, hown, ht, hlocks, hK, hN⟩ := id CX
  intro k
  induction k with
  | zero =>
    intro v1 v2 σ res hf
    exact tn_no hf
  | succ k ih =>
    intro v1 v2 σ res hf H locs hP hS ls hl
    replace hf : ms_R_worst_4 (ml_R_worst_4 k) v1 v2 σ = some res := hf
    unfold ms_R_worst_4 at hf
    refine lv_iload_n hx hb d_R_worst_4 rfl (lv_at hl 2 rfl) ?_
    refine lv_aload_n hx hb d_R_worst_5 rfl (lv_at hl 0 rfl) ?_
    refine va_get (ci := 8) (v := .int (σ.1 3)) (C := R_R) (T := F_R) (N := 32) hx hb ht iw_R hown hK hP 0 rfl rfl 3 (by decide) (ht _ wd_680) (fun _ h9 => h9) rfl d_R_worst_6 ?_
    refine lv_icmp_ge (tgt := 59) hx hb d_R_worst_9 (by decide) (fun hc => ?_) (fun hc => ?_)
    · replace hf := ti_pos hc hf
      refine lv_iload_n hx hb d_R_worst_59 rfl (lv_at hl 1 rfl) ?_
      obtain rfl := ts_of hf
      exact W.iret (v := v1) hx hb hr (fun t ht hW => ⟨rfl, by rw [ht]; exact hP, hS.F ht⟩) hS.2.2 d_R_worst_60
    · replace hf := ti_neg hc hf
      refine lv_aload_n hx hb d_R_worst_12 rfl (lv_at hl 0 rfl) ?_
      refine va_get (ci := 8) (v := .ref (ad 11)) (C := R_R) (T := F_R) (N := 32) hx hb ht iw_R hown hK hP 0 rfl rfl 14 (by decide) (ht _ wd_691) (fun _ h9 => h9) rfl d_R_worst_13 ?_
      refine lv_iload_n hx hb d_R_worst_16 rfl (lv_at hl 2 rfl) ?_
      obtain ⟨hi1, hf⟩ := tg_of hf
      refine va_iald (f := σ.2.1 10) hx hb hK hP 11 10 rfl rfl hi1 d_R_worst_17 ?_
      refine lv_iconst (v := ((-1) : Int32)) hx hb d_R_worst_18 (by decide) ?_
      refine lv_icmp_eq (tgt := 53) hx hb d_R_worst_19 (by decide) (fun hc => ?_) (fun hc => ?_)
      · replace hf := ti_pos hc hf
        refine lv_iinc (v := (v2 + (1 : Int32))) (lv' := [(2, .int (v2 + (1 : Int32))), (0, .ref (ad 0)), (1, .int v1)]) hx hb d_R_worst_53 hl (k := 2) rfl rfl (by decide) rfl (fun ls hl => ?_)
        refine lv_goto (tgt := 4) hx hb d_R_worst_56 (by decide) ?_
        exact ih _ _ _ _ hf _ _ hP hS _ (lv_sub hl [1, 2, 0] rfl)
      · replace hf := ti_neg hc hf
        refine lv_aload_n hx hb d_R_worst_22 rfl (lv_at hl 0 rfl) ?_
        refine lv_iload_n hx hb d_R_worst_23 rfl (lv_at hl 2 rfl) ?_
        obtain ⟨r_2, s_2, hq2, hf⟩ := tb2_of hf
        refine tr_calll (va_runV (C := R_R) (As := [.int v2]) (rest := []) ⟨hx, hb, hml, hown, ht⟩ (mc_R_offOf l hd hq2) ⟨(tw_cb (n := 1) ht wc_R_offOf wd_43 wd_934 ⟨rfl, rfl⟩ (by decide +kernel) ⟨(Nat.le_of_ble_eq_true rfl), (Nat.le_of_ble_eq_true rfl)⟩), ht _ wd_936, ht _ wd_32⟩ ⟨tP_blind, va_recv hK hP (ci := 8) (q0 := 0) rfl rfl, fun U hU hW => ⟨rfl, by rw [hU]; exact hP, va_K.moved hW.alike hK, tW_warm hW hN⟩⟩ rfl rfl hl.1 rfl (lv_room (Nat.le_of_ble_eq_true rfl)) d_R_worst_24 ⟨Nat.zero_le _, Nat.zero_le _⟩) hS (fun _ h => h.elim) (fun _ h => h.elim) (fun H locs hP hS => ?_)
        refine lv_lconst (v := (0 : Int64)) hx hb d_R_worst_27 (by decide) ?_
        refine W.lcmp hx hb d_R_worst_28 ?_
        refine lv_if_le (tgt := 53) hx hb d_R_worst_29 (by decide) (fun hc => ?_) (fun hc => ?_)
        · replace hf := ti_pos hc hf
          refine lv_iinc (v := (v2 + (1 : Int32))) (lv' := [(2, .int (v2 + (1 : Int32))), (0, .ref (ad 0)), (1, .int v1)]) hx hb d_R_worst_53 hl (k := 2) rfl rfl (by decide) rfl (fun ls hl => ?_)
          refine lv_goto (tgt := 4) hx hb d_R_worst_56 (by decide) ?_
          exact ih _ _ _ _ hf _ _ hP hS _ (lv_sub hl [1, 2, 0] rfl)
        · replace hf := ti_neg hc hf
          refine lv_iload_n hx hb d_R_worst_32 rfl (lv_at hl 1 rfl) ?_
          refine lv_iconst (v := ((-1) : Int32)) hx hb d_R_worst_33 (by decide) ?_
          refine lv_icmp_eq (tgt := 51) hx hb d_R_worst_34 (by decide) (fun hc => ?_) (fun hc => ?_)
          · replace hf := ti_pos hc hf
            refine lv_iload_n hx hb d_R_worst_51 rfl (lv_at hl 2 rfl) ?_
            refine lv_istore_n (lv' := [(1, .int v2), (0, .ref (ad 0)), (2, .int v2)]) hx hb d_R_worst_52 rfl hl (by decide) rfl (fun ls hl => ?_)
            refine lv_iinc (v := (v2 + (1 : Int32))) (lv' := [(2, .int (v2 + (1 : Int32))), (1, .int v2), (0, .ref (ad 0))]) hx hb d_R_worst_53 hl (k := 2) rfl rfl (by decide) rfl (fun ls hl => ?_)
            refine lv_goto (tgt := 4) hx hb d_R_worst_56 (by decide) ?_
            exact ih _ _ _ _ hf _ _ hP hS _ (lv_sub hl [2, 1, 0] rfl)
          · replace hf := ti_neg hc hf
            refine lv_aload_n hx hb d_R_worst_37 rfl (lv_at hl 0 rfl) ?_
            refine lv_iload_n hx hb d_R_worst_38 rfl (lv_at hl 2 rfl) ?_
            obtain ⟨r_3, s_3, hq3, hf⟩ := tb2_of hf
            refine tr_calll (va_runV (C := R_R) (As := [.int v2]) (rest := []) ⟨hx, hb, hml, hown, ht⟩ (mc_R_offOf l hd hq3) ⟨(tw_cb (n := 1) ht wc_R_offOf wd_43 wd_934 ⟨rfl, rfl⟩ (by decide +kernel) ⟨(Nat.le_of_ble_eq_true rfl), (Nat.le_of_ble_eq_true rfl)⟩), ht _ wd_936, ht _ wd_32⟩ ⟨tP_blind, va_recv hK hP (ci := 8) (q0 := 0) rfl rfl, fun U hU hW => ⟨rfl, by rw [hU]; exact hP, va_K.moved hW.alike hK, tW_warm hW hN⟩⟩ rfl rfl hl.1 rfl (lv_room (Nat.le_of_ble_eq_true rfl)) d_R_worst_39 ⟨Nat.zero_le _, Nat.zero_le _⟩) hS (fun _ h => h.elim) (fun _ h => h.elim) (fun H locs hP hS => ?_)
            refine lv_aload_n hx hb d_R_worst_42 rfl (lv_at hl 0 rfl) ?_
            refine lv_iload_n hx hb d_R_worst_43 rfl (lv_at hl 1 rfl) ?_
            obtain ⟨r_4, s_4, hq4, hf⟩ := tb2_of hf
            refine tr_calll (va_runV (C := R_R) (As := [.int v1]) (rest := [.long r_3]) ⟨hx, hb, hml, hown, ht⟩ (mc_R_offOf l hd hq4) ⟨(tw_cb (n := 1) ht wc_R_offOf wd_43 wd_934 ⟨rfl, rfl⟩ (by decide +kernel) ⟨(Nat.le_of_ble_eq_true rfl), (Nat.le_of_ble_eq_true rfl)⟩), ht _ wd_936, ht _ wd_32⟩ ⟨tP_blind, va_recv hK hP (ci := 8) (q0 := 0) rfl rfl, fun U hU hW => ⟨rfl, by rw [hU]; exact hP, va_K.moved hW.alike hK, tW_warm hW hN⟩⟩ rfl rfl hl.1 rfl (lv_room (Nat.le_of_ble_eq_true rfl)) d_R_worst_44 ⟨Nat.zero_le _, Nat.zero_le _⟩) hS (fun _ h => h.elim) (fun _ h => h.elim) (fun H locs hP hS => ?_)
            refine W.lcmp hx hb d_R_worst_47 ?_
            refine lv_if_le (tgt := 53) hx hb d_R_worst_48 (by decide) (fun hc => ?_) (fun hc => ?_)
            · replace hf := ti_pos hc hf
              refine lv_iinc (v := (v2 + (1 : Int32))) (lv' := [(2, .int (v2 + (1 : Int32))), (0, .ref (ad 0)), (1, .int v1)]) hx hb d_R_worst_53 hl (k := 2) rfl rfl (by decide) rfl (fun ls hl => ?_)
              refine lv_goto (tgt := 4) hx hb d_R_worst_56 (by decide) ?_
              exact ih _ _ _ _ hf _ _ hP hS _ (lv_sub hl [1, 2, 0] rfl)
            · replace hf := ti_neg hc hf
              refine lv_iload_n hx hb d_R_worst_51 rfl (lv_at hl 2 rfl) ?_
              refine lv_istore_n (lv' := [(1, .int v2), (0, .ref (ad 0)), (2, .int v2)]) hx hb d_R_worst_52 rfl hl (by decide) rfl (fun ls hl => ?_)
              refine lv_iinc (v := (v2 + (1 : Int32))) (lv' := [(2, .int (v2 + (1 : Int32))), (1, .int v2), (0, .ref (ad 0))]) hx hb d_R_worst_53 hl (k := 2) rfl rfl (by decide) rfl (fun ls hl => ?_)
              refine lv_goto (tgt := 4) hx hb d_R_worst_56 (by decide) ?_
              exact ih _ _ _ _ hf _ _ hP hS _ (lv_sub hl [2, 1, 0] rfl)
set_option maxHeartbeats 4000000 in
set_option maxRecDepth 100000 in
theorem mc_R_worst (l : Launch) {D : va_G} {ad : Nat → Nat} {ta : Nat → ClassId} (hd : tD 26 ad) {σ σ' : tS}  {r : Int32} (hf : mf_R_worst  σ = some (r, σ')) : Met l y_R_worst (.code y_R_worst b_R_worst 3 (some .int) :: tw) rm_R_worst (tP D clS (tyR ta) (cwR ad ta σ) [.ref (ad 0)]) (tQ D clS (cwR ad ta σ') (some (.int r)) tNo) 0 0 tNo := by
  refine Met.ofW (cc := b_R_worst) (maxL := 3) (ret := (some .int)) (by decide) rfl ?_
  intro p e s m args below meth c s₁ B hml hv
  obtain ⟨rfl, hP, hK, hN⟩ := hv
  have hx := B.exec
  have hb := B.bytes
  have hr := B.returns
  have ht : ∀ w ∈ tw, w.before [.ref (ad 0)].toArray s = true := fun w h => atoms_spec (ws := (.code y_R_worst b_R_worst 3 (some .int) :: tw)) B.pre w (List.mem_cons_of_mem _ h)
  have hown : s.vm.findClass R_R = some m.cls := findClass_of_methodNamed B.named
  have hlocks := B.notSynchronized
  have CX : tC p s m [.ref (ad 0)].toArray meth c b_R_worst (some .int) 3 R_R D clS (tyR ta) := ⟨hx, hb, hr, hml, hown, ht, hlocks, hK, hN⟩
  have hS : va_S tNo s.heap s.heap [] := va_S.rf
  have hl := lv_entry ([.ref (ad 0)]) (n := 3) (Nat.le_of_ble_eq_true rfl)
  rw [lg_entry_eq]
  generalize (lg_sl ([.ref (ad 0)]) ++ List.replicate (3 - (lg_sl ([.ref (ad 0)])).length) Slot.unset).toArray = ls at hl ⊢
  replace hl : lv_has ls 3 [(0, .ref (ad 0))] := hl
  unfold mf_R_worst at hf
  refine lv_iconst (v := ((-1) : Int32)) hx hb d_R_worst_0 (by decide) ?_
  refine lv_istore_n (lv' := [(1, .int ((-1) : Int32)), (0, .ref (ad 0))]) hx hb d_R_worst_1 rfl hl (by decide) rfl (fun ls hl => ?_)
  refine lv_iconst (v := (0 : Int32)) hx hb d_R_worst_2 (by decide) ?_
  refine lv_istore_n (lv' := [(2, .int (0 : Int32)), (1, .int ((-1) : Int32)), (0, .ref (ad 0))]) hx hb d_R_worst_3 rfl hl (by decide) rfl (fun ls hl => ?_)
  exact mw_R_worst_4 CX hd _ _ _ _ _ hf _ _ hP hS _ (lv_sub hl [2, 1, 0] rfl)
abbrev rm_R_fit : Room := { frames := 4, cells := 0, slots := 0, locals := 108 }
set_option maxHeartbeats 4000000 in
set_option maxRecDepth 100000 in
theorem mw_R_fit_70 {p : Program} {l : Launch} {e : Env} {s : State} {m : MethodId} {args : Array Value} {below : List Frame} {meth : Method} {c : Code} {D : va_G} {ad : Nat → Nat} {ta : Nat → ClassId} {Q : State → Prop} (CX : tC p s m args meth c b_R_fit (some .int) 7 R_R D clS (tyR ta)) (hd : tD 26 ad) : ∀ (k : Nat) (v1 : Int32) (v2 : Int32) (v3 : Int32) (v4 : Int32) (σ : tS) (res : (Int32 × Int32 × Int32 × Int32 × tS)), ml_R_fit_70 k v1 v2 v3 v4 σ = some res → ∀ (H : Heap) (locs : List Loc), va_P D clS (cwR ad ta σ) H → va_S (tA 26 ad) s.heap H locs → ∀ (ls : Array Slot), lv_has ls 7 [(0, .ref (ad 0)), (1, .int v1), (2, .int v2), (3, .int v3), (4, .int v4)] → (∀ (H : Heap) (locs : List Loc), va_P D clS (cwR ad ta res.2.2.2.2) H → va_S (tA 26 ad) s.heap H locs → ∀ (ls : Array Slot), lv_has ls 7 [(0, .ref (ad 0)), (1, .int res.1), (2, .int res.2.1), (3, .int res.2.2.1), (4, .int res.2.2.2.1)] → W p l e rm_R_fit s m args below meth c H locs 0 0 Q (F0 m 147 ls [])) → W p l e rm_R_fit s m args below meth c H locs 0 0 Q (F0 m 70 ls []) := by
  obtain ⟨hx, hb, hr, hml, hown, ht, hlocks, hK, hN⟩ := id CX
  intro k
  induction k with
  | zero =>
    intro v1 v2 v3 v4 σ res hf
    exact tn_no hf
  | succ k ih =>
    intro v1 v2 v3 v4 σ res hf H locs hP hS ls hl kk
    replace hf : ms_R_fit_70 (ml_R_fit_70 k) v1 v2 v3 v4 σ = some res := hf
    unfold ms_R_fit_70 at hf
    refine lv_iload hx hb d_R_fit_70 (lv_at hl 4 rfl) ?_
    refine lv_bipush (v := (36 : Int32)) hx hb d_R_fit_72 (by decide) ?_
    refine lv_icmp_ge (tgt := 147) hx hb d_R_fit_74 (by decide) (fun hc => ?_) (fun hc => ?_)
    · replace hf := ti_pos hc hf
      obtain rfl := ts_of hf
      exact kk _ _ hP hS _ (lv_sub hl [0, 1, 2, 3, 4] rfl)
    · replace hf := ti_neg hc hf
      refine lv_aload_n hx hb d_R_fit_77 rfl (lv_at hl 0 rfl) ?_
      refine va_get (ci := 8) (v := .ref (ad 17)) (C := R_R) (T := F_R) (N := 32) hx hb ht iw_R hown hK hP 0 rfl rfl 20 (by decide) (ht _ wd_697) (fun _ h9 => h9) rfl d_R_fit_78 ?_
      refine lv_bipush (v := (36 : Int32)) hx hb d_R_fit_81 (by decide) ?_
      refine lv_iload_n hx hb d_R_fit_83 rfl (lv_at hl 3 rfl) ?_
      refine lv_imul hx hb d_R_fit_84 ?_
      refine lv_iload hx hb d_R_fit_85 (lv_at hl 4 rfl) ?_
      refine lv_iadd hx hb d_R_fit_87 ?_
      obtain ⟨hi4, hf⟩ := tg_of hf
      refine va_iald (f := σ.2.1 15) hx hb hK hP 17 16 rfl rfl hi4 d_R_fit_88 ?_
      refine lv_if_le (tgt := 141) hx hb d_R_fit_89 (by decide) (fun hc => ?_) (fun hc => ?_)
      · replace hf := ti_pos hc hf
        refine lv_iinc (v := (v4 + (1 : Int32))) (lv' := [(4, .int (v4 + (1 : Int32))), (0, .ref (ad 0)), (1, .int v1), (2, .int v2), (3, .int v3)]) hx hb d_R_fit_141 hl (k := 4) rfl rfl (by decide) rfl (fun ls hl => ?_)
        refine lv_goto (tgt := 70) hx hb d_R_fit_144 (by decide) ?_
        exact ih _ _ _ _ _ _ hf _ _ hP hS _ (lv_sub hl [1, 2, 3, 4, 0] rfl) kk
      · replace hf := ti_neg hc hf
        refine lv_aload_n hx hb d_R_fit_92 rfl (lv_at hl 0 rfl) ?_
        refine va_get (ci := 8) (v := .ref (ad 14)) (C := R_R) (T := F_R) (N := 32) hx hb ht iw_R hown hK hP 0 rfl rfl 17 (by decide) (ht _ wd_694) (fun _ h9 => h9) rfl d_R_fit_93 ?_
        refine lv_iload hx hb d_R_fit_96 (lv_at hl 4 rfl) ?_
        obtain ⟨hi5, hf⟩ := tg_of hf
        refine va_iald (f := σ.2.1 12) hx hb hK hP 14 13 rfl rfl hi5 d_R_fit_98 ?_
        refine lv_i2l hx hb d_R_fit_99 rfl ?_
        refine lv_aload_n hx hb d_R_fit_100 rfl (lv_at hl 0 rfl) ?_
        refine va_get (ci := 8) (v := .ref (ad 11)) (C := R_R) (T := F_R) (N := 32) hx hb ht iw_R hown hK hP 0 rfl rfl 14 (by decide) (ht _ wd_691) (fun _ h9 => h9) rfl d_R_fit_101 ?_
        refine lv_iload_n hx hb d_R_fit_104 rfl (lv_at hl 3 rfl) ?_
        obtain ⟨hi6, hf⟩ := tg_of hf
        refine va_iald (f := σ.2.1 10) hx hb hK hP 11 10 rfl rfl hi6 d_R_fit_105 ?_
        refine lv_i2l hx hb d_R_fit_106 rfl ?_
        refine lv_lmul hx hb d_R_fit_107 ?_
        refine lv_aload_n hx hb d_R_fit_108 rfl (lv_at hl 0 rfl) ?_
        refine va_get (ci := 8) (v := .ref (ad 12)) (C := R_R) (T := F_R) (N := 32) hx hb ht iw_R hown hK hP 0 rfl rfl 15 (by decide) (ht _ wd_692) (fun _ h9 => h9) rfl d_R_fit_109 ?_
        refine lv_iload_n hx hb d_R_fit_112 rfl (lv_at hl 3 rfl) ?_
        obtain ⟨hi7, hf⟩ := tg_of hf
        refine va_lald (f := σ.2.2 0) hx hb hK hP 12 11 rfl rfl hi7 d_R_fit_113 ?_
        obtain ⟨hz8, hf⟩ := tz_of hf
        refine lv_ldiv hx hb d_R_fit_114 hz8 ?_
        refine lv_lstore (lv' := [(5, .long ((((σ.2.1 12 v4.toNatClampNeg)).toInt64 * ((σ.2.1 10 v3.toNatClampNeg)).toInt64) / (σ.2.2 0 v3.toNatClampNeg))), (0, .ref (ad 0)), (1, .int v1), (2, .int v2), (3, .int v3), (4, .int v4)]) hx hb d_R_fit_115 hl (by decide) rfl (fun ls hl => ?_)
        refine lv_aload_n hx hb d_R_fit_117 rfl (lv_at hl 1 rfl) ?_
        refine va_get (ci := 8) (v := .ref (ad 14)) (C := R_R) (T := F_R) (N := 32) hx hb ht iw_R hown hK hP 0 rfl rfl 17 (by decide) (ht _ wd_694) (fun _ h9 => h9) rfl d_R_fit_118 ?_
        refine lv_iload hx hb d_R_fit_121 (lv_at hl 5 rfl) ?_
        refine lv_lload hx hb d_R_fit_123 (lv_at hl 0 rfl) ?_
        refine lv_ldc2 (v := (1000000 : Int64)) hx hb hown (ht _ wd_848) d_R_fit_125 ?_
        refine W.lcmp hx hb d_R_fit_128 ?_
        refine lv_if_le (tgt := 137) hx hb d_R_fit_129 (by decide) (fun hc => ?_) (fun hc => ?_)
        · replace hf := ti_pos hc hf
          refine lv_lload hx hb d_R_fit_137 (lv_at hl 0 rfl) ?_
          refine lv_l2i hx hb d_R_fit_139 rfl ?_
          obtain ⟨hi9, hf⟩ := tg_of hf
          refine va_iast (f := σ.2.1 12) hx hb hK hP (cwR_D hd) hS 14 13 rfl rfl hi9 d_R_fit_140 (fun H locs hP _ hS => ?_)
          replace hP : va_P D clS (cwR ad ta (tI σ 12 v4.toNatClampNeg ((((((σ.2.1 12 v4.toNatClampNeg)).toInt64 * ((σ.2.1 10 v3.toNatClampNeg)).toInt64) / (σ.2.2 0 v3.toNatClampNeg))).toInt32))) H := hP
          refine lv_iinc (v := (v4 + (1 : Int32))) (lv' := [(4, .int (v4 + (1 : Int32))), (5, .long ((((σ.2.1 12 v4.toNatClampNeg)).toInt64 * ((σ.2.1 10 v3.toNatClampNeg)).toInt64) / (σ.2.2 0 v3.toNatClampNeg))), (0, .ref (ad 0)), (1, .int v1), (2, .int v2), (3, .int v3)]) hx hb d_R_fit_141 hl (k := 5) rfl rfl (by decide) rfl (fun ls hl => ?_)
          refine lv_goto (tgt := 70) hx hb d_R_fit_144 (by decide) ?_
          exact ih _ _ _ _ _ _ hf _ _ hP hS _ (lv_sub hl [2, 3, 4, 5, 0] rfl) kk
        · replace hf := ti_neg hc hf
          refine lv_ldc (v := (1000000 : Int32)) hx hb hown (ht _ wd_798) d_R_fit_132 ?_
          refine lv_goto (tgt := 140) hx hb d_R_fit_134 (by decide) ?_
          obtain ⟨hi10, hf⟩ := tg_of hf
          refine va_iast (f := σ.2.1 12) hx hb hK hP (cwR_D hd) hS 14 13 rfl rfl hi10 d_R_fit_140 (fun H locs hP _ hS => ?_)
          replace hP : va_P D clS (cwR ad ta (tI σ 12 v4.toNatClampNeg (1000000 : Int32))) H := hP
          refine lv_iinc (v := (v4 + (1 : Int32))) (lv' := [(4, .int (v4 + (1 : Int32))), (5, .long ((((σ.2.1 12 v4.toNatClampNeg)).toInt64 * ((σ.2.1 10 v3.toNatClampNeg)).toInt64) / (σ.2.2 0 v3.toNatClampNeg))), (0, .ref (ad 0)), (1, .int v1), (2, .int v2), (3, .int v3)]) hx hb d_R_fit_141 hl (k := 5) rfl rfl (by decide) rfl (fun ls hl => ?_)
          refine lv_goto (tgt := 70) hx hb d_R_fit_144 (by decide) ?_
          exact ih _ _ _ _ _ _ hf _ _ hP hS _ (lv_sub hl [2, 3, 4, 5, 0] rfl) kk
set_option maxHeartbeats 4000000 in
set_option maxRecDepth 100000 in
theorem mw_R_fit_46 {p : Program} {l : Launch} {e : Env} {s : State} {m : MethodId} {args : Array Value} {below : List Frame} {meth : Method} {c : Code} {D : va_G} {ad : Nat → Nat} {ta : Nat → ClassId} (CX : tC p s m args meth c b_R_fit (some .int) 7 R_R D clS (tyR ta)) (hd : tD 26 ad) : ∀ (k : Nat) (v1 : Int32) (v2 : Int32) (v3 : Int32) (σ : tS) (res : (Int32 × tS)), ml_R_fit_46 k v1 v2 v3 σ = some res → ∀ (H : Heap) (locs : List Loc), va_P D clS (cwR ad ta σ) H → va_S (tA 26 ad) s.heap H locs → ∀ (ls : Array Slot), lv_has ls 7 [(0, .ref (ad 0)), (1, .int v1), (2, .int v2), (3, .int v3)] → W p l e rm_R_fit s m args below meth c H locs 0 0 (MQ below (tQ D clS (cwR ad ta res.2) (some (.int res.1)) (tA 26 ad)) args s 0 0 (tA 26 ad)) (F0 m 46 ls []) := by
  obtain ⟨hx, hb, hr, hml, hown, ht, hlocks, hK, hN⟩ := id CX
  intro k
  induction k with
  | zero =>
    intro v1 v2 v3 σ res hf
    exact tn_no hf
  | succ k ih =>
    intro v1 v2 v3 σ res hf H locs hP hS ls hl
    replace hf : ms_R_fit_46 (ml_R_fit_46 k) v1 v2 v3 σ = some res := hf
    unfold ms_R_fit_46 at hf
    refine lv_iload_n hx hb d_R_fit_46 rfl (lv_at hl 2 rfl) ?_
    refine lv_iload_n hx hb d_R_fit_47 rfl (lv_at hl 1 rfl) ?_
    refine lv_icmp_ge (tgt := 166) hx hb d_R_fit_48 (by decide) (fun hc => ?_) (fun hc => ?_)
    · replace hf := ti_pos hc hf
      refine lv_iload_n hx hb d_R_fit_166 rfl (lv_at hl 2 rfl) ?_
      obtain rfl := ts_of hf
      exact W.iret (v := v2) hx hb hr (fun t ht hW => ⟨rfl, by rw [ht]; exact hP, hS.F ht⟩) hS.2.2 d_R_fit_167
    · replace hf := ti_neg hc hf
      refine lv_iload_n hx hb d_R_fit_51 rfl (lv_at hl 3 rfl) ?_
      refine lv_iconst (v := ((-1) : Int32)) hx hb d_R_fit_52 (by decide) ?_
      refine lv_icmp_eq (tgt := 166) hx hb d_R_fit_53 (by decide) (fun hc => ?_) (fun hc => ?_)
      · replace hf := ti_pos hc hf
        refine lv_iload_n hx hb d_R_fit_166 rfl (lv_at hl 2 rfl) ?_
        obtain rfl := ts_of hf
        exact W.iret (v := v2) hx hb hr (fun t ht hW => ⟨rfl, by rw [ht]; exact hP, hS.F ht⟩) hS.2.2 d_R_fit_167
      · replace hf := ti_neg hc hf
        refine lv_aload_n hx hb d_R_fit_56 rfl (lv_at hl 0 rfl) ?_
        refine va_get (ci := 8) (v := .ref (ad 12)) (C := R_R) (T := F_R) (N := 32) hx hb ht iw_R hown hK hP 0 rfl rfl 15 (by decide) (ht _ wd_692) (fun _ h9 => h9) rfl d_R_fit_57 ?_
        refine lv_iload_n hx hb d_R_fit_60 rfl (lv_at hl 3 rfl) ?_
        obtain ⟨hi3, hf⟩ := tg_of hf
        refine va_lald (f := σ.2.2 0) hx hb hK hP 12 11 rfl rfl hi3 d_R_fit_61 ?_
        refine lv_lconst (v := (0 : Int64)) hx hb d_R_fit_62 (by decide) ?_
        refine W.lcmp hx hb d_R_fit_63 ?_
        refine lv_if_le (tgt := 166) hx hb d_R_fit_64 (by decide) (fun hc => ?_) (fun hc => ?_)
        · replace hf := ti_pos hc hf
          refine lv_iload_n hx hb d_R_fit_166 rfl (lv_at hl 2 rfl) ?_
          obtain rfl := ts_of hf
          exact W.iret (v := v2) hx hb hr (fun t ht hW => ⟨rfl, by rw [ht]; exact hP, hS.F ht⟩) hS.2.2 d_R_fit_167
        · replace hf := ti_neg hc hf
          refine lv_iconst (v := (0 : Int32)) hx hb d_R_fit_67 (by decide) ?_
          refine lv_istore (lv' := [(4, .int (0 : Int32)), (0, .ref (ad 0)), (1, .int v1), (2, .int v2), (3, .int v3)]) hx hb d_R_fit_68 hl (by decide) rfl (fun ls hl => ?_)
          obtain ⟨e_11, hq11, hf⟩ := tb1_of hf
          refine mw_R_fit_70 CX hd _ _ _ _ _ _ _ hq11 _ _ hP hS _ (lv_sub hl [1, 2, 3, 4, 0] rfl) (fun H locs hP hS ls hl => ?_)
          refine lv_aload_n hx hb d_R_fit_147 rfl (lv_at hl 0 rfl) ?_
          refine lv_aload_n hx hb d_R_fit_148 rfl (lv_at hl 0 rfl) ?_
          refine va_get (ci := 8) (v := .int (e_11.2.2.2.2.1 4)) (C := R_R) (T := F_R) (N := 32) hx hb ht iw_R hown hK hP 0 rfl rfl 22 (by decide) (ht _ wd_699) (fun _ h9 => h9) rfl d_R_fit_149 ?_
          obtain ⟨s_12, hq12, hf⟩ := tb1_of hf
          refine tr_callv (va_runV (C := R_R) (As := [.int (e_11.2.2.2.2.1 4)]) (rest := []) ⟨hx, hb, hml, hown, ht⟩ (mc_R_assignAll l hd hq12) ⟨(tw_cb (n := 1) ht wc_R_assignAll wd_43 wd_877 ⟨rfl, rfl⟩ (by decide +kernel) ⟨(Nat.le_of_ble_eq_true rfl), (Nat.le_of_ble_eq_true rfl)⟩), ht _ wd_879, ht _ wd_25⟩ ⟨tP_blind, va_recv hK hP (ci := 8) (q0 := 0) rfl rfl, fun U hU hW => ⟨rfl, by rw [hU]; exact hP, va_K.moved hW.alike hK, tW_warm hW hN⟩⟩ rfl rfl hl.1 rfl (lv_room (Nat.le_of_ble_eq_true rfl)) d_R_fit_152 ⟨Nat.zero_le _, Nat.zero_le _⟩) hS (fun _ h => h) (fun _ h => h) (fun H locs hP hS => ?_)
          refine lv_iinc (v := (e_11.2.1 + (1 : Int32))) (lv' := [(2, .int (e_11.2.1 + (1 : Int32))), (0, .ref (ad 0)), (1, .int e_11.1), (3, .int e_11.2.2.1), (4, .int e_11.2.2.2.1)]) hx hb d_R_fit_155 hl (k := 2) rfl rfl (by decide) rfl (fun ls hl => ?_)
          refine lv_aload_n hx hb d_R_fit_158 rfl (lv_at hl 1 rfl) ?_
          obtain ⟨r_13, s_13, hq13, hf⟩ := tb2_of hf
          refine tr_calli (va_runV (C := R_R) (As := []) (rest := []) ⟨hx, hb, hml, hown, ht⟩ (mc_R_worst l hd hq13) ⟨(tw_cb (n := 0) ht wc_R_worst wd_43 wd_930 ⟨rfl, rfl⟩ (by decide +kernel) ⟨(Nat.le_of_ble_eq_true rfl), (Nat.le_of_ble_eq_true rfl)⟩), ht _ wd_932, ht _ wd_31⟩ ⟨tP_blind, va_recv hK hP (ci := 8) (q0 := 0) rfl rfl, fun U hU hW => ⟨rfl, by rw [hU]; exact hP, va_K.moved hW.alike hK, tW_warm hW hN⟩⟩ rfl rfl hl.1 rfl (lv_room (Nat.le_of_ble_eq_true rfl)) d_R_fit_159 ⟨Nat.zero_le _, Nat.zero_le _⟩) hS (fun _ h => h.elim) (fun _ h => h.elim) (fun H locs hP hS => ?_)
          refine lv_istore_n (lv' := [(3, .int r_13), (2, .int (e_11.2.1 + (1 : Int32))), (0, .ref (ad 0)), (1, .int e_11.1), (4, .int e_11.2.2.2.1)]) hx hb d_R_fit_162 rfl hl (by decide) rfl (fun ls hl => ?_)
          refine lv_goto (tgt := 46) hx hb d_R_fit_163 (by decide) ?_
          exact ih _ _ _ _ _ hf _ _ hP hS _ (lv_sub hl [2, 3, 1, 0] rfl)
set_option maxHeartbeats 4000000 in
set_option maxRecDepth 100000 in
theorem mc_R_fit (l : Launch) {D : va_G} {ad : Nat → Nat} {ta : Nat → ClassId} (hd : tD 26 ad) {σ σ' : tS} {p0 : Int32} {r : Int32} (hf : mf_R_fit p0 σ = some (r, σ')) : Met l y_R_fit (.code y_R_fit b_R_fit 7 (some .int) :: tw) rm_R_fit (tP D clS (tyR ta) (cwR ad ta σ) [.ref (ad 0), .int p0]) (tQ D clS (cwR ad ta σ') (some (.int r)) (tA 26 ad)) 0 0 (tA 26 ad) := by
  refine Met.ofW (cc := b_R_fit) (maxL := 7) (ret := (some .int)) (by decide) rfl ?_
  intro p e s m args below meth c s₁ B hml hv
  obtain ⟨rfl, hP, hK, hN⟩ := hv
  have hx := B.exec
  have hb := B.bytes
  have hr := B.returns
  have ht : ∀ w ∈ tw, w.before [.ref (ad 0), .int p0].toArray s = true := fun w h => atoms_spec (ws := (.code y_R_fit b_R_fit 7 (some .int) :: tw)) B.pre w (List.mem_cons_of_mem _ h)
  have hown : s.vm.findClass R_R = some m.cls := findClass_of_methodNamed B.named
  have hlocks := B.notSynchronized
  have CX : tC p s m [.ref (ad 0), .int p0].toArray meth c b_R_fit (some .int) 7 R_R D clS (tyR ta) := ⟨hx, hb, hr, hml, hown, ht, hlocks, hK, hN⟩
  have hS : va_S (tA 26 ad) s.heap s.heap [] := va_S.rf
  have hl := lv_entry ([.ref (ad 0), .int p0]) (n := 7) (Nat.le_of_ble_eq_true rfl)
  rw [lg_entry_eq]
  generalize (lg_sl ([.ref (ad 0), .int p0]) ++ List.replicate (7 - (lg_sl ([.ref (ad 0), .int p0])).length) Slot.unset).toArray = ls at hl ⊢
  replace hl : lv_has ls 7 [(0, .ref (ad 0)), (1, .int p0)] := hl
  unfold mf_R_fit at hf
  refine lv_aload_n hx hb d_R_fit_0 rfl (lv_at hl 0 rfl) ?_
  refine lv_iload_n hx hb d_R_fit_1 rfl (lv_at hl 1 rfl) ?_
  refine lv_iconst (v := (1 : Int32)) hx hb d_R_fit_2 (by decide) ?_
  refine lv_bipush (v := (20 : Int32)) hx hb d_R_fit_3 (by decide) ?_
  obtain ⟨r_1, s_1, hq1, hf⟩ := tb2_of hf
  refine tr_calli (va_runS (As := [.int p0, .int (1 : Int32), .int (20 : Int32)]) (rest := [.ref (ad 0)]) ⟨hx, hb, hml, hown, ht⟩ (mc_R_isIn l hd hq1) ⟨(tw_cb (n := 3) ht wc_R_isIn wd_43 wd_790 ⟨rfl, rfl⟩ (by decide +kernel) ⟨(Nat.le_of_ble_eq_true rfl), (Nat.le_of_ble_eq_true rfl)⟩), ht _ wd_791⟩ ⟨tP_blind, fun U hU hW => ⟨rfl, by rw [hU]; exact hP, va_K.moved hW.alike hK, tW_warm hW hN⟩⟩ rfl rfl hl.1 rfl (lv_room (Nat.le_of_ble_eq_true rfl)) d_R_fit_5 ⟨Nat.zero_le _, Nat.zero_le _⟩) hS (fun _ h => h.elim) (fun _ h => h.elim) (fun H locs hP hS => ?_)
  refine lv_if_ne (tgt := 15) hx hb d_R_fit_8 (by decide) (fun hc => ?_) (fun hc => ?_)
  · replace hf := ti_neg hc hf
    refine lv_aload_n hx hb d_R_fit_15 rfl (lv_at hl 0 rfl) ?_
    refine va_get (ci := 8) (v := .int (s_1.1 4)) (C := R_R) (T := F_R) (N := 32) hx hb ht iw_R hown hK hP 0 rfl rfl 22 (by decide) (ht _ wd_699) (fun _ h9 => h9) rfl d_R_fit_16 ?_
    refine lv_if_ne (tgt := 26) hx hb d_R_fit_19 (by decide) (fun hc => ?_) (fun hc => ?_)
    · replace hf := ti_neg hc hf
      refine lv_iconst (v := (0 : Int32)) hx hb d_R_fit_26 (by decide) ?_
      refine va_put (ci := 8) (v := .int (0 : Int32)) (ty := .int) (C := R_R) (T := F_R) (N := 32) hx hb ht iw_R ft_R to_R nm_R hown hK hP (cwR_D hd) hS 0 rfl rfl 0 (by decide) (ht _ wd_677) (fun _ h9 => h9) rfl (by decide +kernel) rfl rfl (Nat.le_of_ble_eq_true rfl) d_R_fit_27 (fun H locs hP _ hS => ?_)
      replace hP : va_P D clS (cwR ad ta (tF s_1 0 (0 : Int32))) H := hP
      refine lv_aload_n hx hb d_R_fit_30 rfl (lv_at hl 0 rfl) ?_
      refine va_get (ci := 8) (v := .int (0 : Int32)) (C := R_R) (T := F_R) (N := 32) hx hb ht iw_R hown hK hP 0 rfl rfl 0 (by decide) (ht _ wd_677) (fun _ h9 => h9) rfl d_R_fit_31 ?_
      refine lv_if_le (tgt := 39) hx hb d_R_fit_34 (by decide) (fun hc => ?_) (fun hc => ?_)
      · replace hf := ti_pos hc hf
        refine lv_iconst (v := (0 : Int32)) hx hb d_R_fit_39 (by decide) ?_
        refine lv_istore_n (lv' := [(2, .int (0 : Int32)), (0, .ref (ad 0)), (1, .int p0)]) hx hb d_R_fit_40 rfl hl (by decide) rfl (fun ls hl => ?_)
        refine lv_aload_n hx hb d_R_fit_41 rfl (lv_at hl 1 rfl) ?_
        obtain ⟨r_2, s_2, hq2, hf⟩ := tb2_of hf
        refine tr_calli (va_runV (C := R_R) (As := []) (rest := []) ⟨hx, hb, hml, hown, ht⟩ (mc_R_worst l hd hq2) ⟨(tw_cb (n := 0) ht wc_R_worst wd_43 wd_930 ⟨rfl, rfl⟩ (by decide +kernel) ⟨(Nat.le_of_ble_eq_true rfl), (Nat.le_of_ble_eq_true rfl)⟩), ht _ wd_932, ht _ wd_31⟩ ⟨tP_blind, va_recv hK hP (ci := 8) (q0 := 0) rfl rfl, fun U hU hW => ⟨rfl, by rw [hU]; exact hP, va_K.moved hW.alike hK, tW_warm hW hN⟩⟩ rfl rfl hl.1 rfl (lv_room (Nat.le_of_ble_eq_true rfl)) d_R_fit_42 ⟨Nat.zero_le _, Nat.zero_le _⟩) hS (fun _ h => h.elim) (fun _ h => h.elim) (fun H locs hP hS => ?_)
        refine lv_istore_n (lv' := [(3, .int r_2), (2, .int (0 : Int32)), (0, .ref (ad 0)), (1, .int p0)]) hx hb d_R_fit_45 rfl hl (by decide) rfl (fun ls hl => ?_)
        exact mw_R_fit_46 CX hd _ _ _ _ _ _ hf _ _ hP hS _ (lv_sub hl [2, 3, 1, 0] rfl)
      · replace hf := ti_neg hc hf
        refine lv_iconst (v := (0 : Int32)) hx hb d_R_fit_37 (by decide) ?_
        obtain ⟨rfl, rfl⟩ := tp_of hf
        exact W.iret (v := (0 : Int32)) hx hb hr (fun t ht hW => ⟨rfl, by rw [ht]; exact hP, hS.F ht⟩) hS.2.2 d_R_fit_38
    · replace hf := ti_pos hc hf
      refine lv_iconst (v := (2 : Int32)) hx hb d_R_fit_22 (by decide) ?_
      refine lv_goto (tgt := 27) hx hb d_R_fit_23 (by decide) ?_
      refine va_put (ci := 8) (v := .int (2 : Int32)) (ty := .int) (C := R_R) (T := F_R) (N := 32) hx hb ht iw_R ft_R to_R nm_R hown hK hP (cwR_D hd) hS 0 rfl rfl 0 (by decide) (ht _ wd_677) (fun _ h9 => h9) rfl (by decide +kernel) rfl rfl (Nat.le_of_ble_eq_true rfl) d_R_fit_27 (fun H locs hP _ hS => ?_)
      replace hP : va_P D clS (cwR ad ta (tF s_1 0 (2 : Int32))) H := hP
      refine lv_aload_n hx hb d_R_fit_30 rfl (lv_at hl 0 rfl) ?_
      refine va_get (ci := 8) (v := .int (2 : Int32)) (C := R_R) (T := F_R) (N := 32) hx hb ht iw_R hown hK hP 0 rfl rfl 0 (by decide) (ht _ wd_677) (fun _ h9 => h9) rfl d_R_fit_31 ?_
      refine lv_if_le (tgt := 39) hx hb d_R_fit_34 (by decide) (fun hc => ?_) (fun hc => ?_)
      · replace hf := ti_pos hc hf
        refine lv_iconst (v := (0 : Int32)) hx hb d_R_fit_39 (by decide) ?_
        refine lv_istore_n (lv' := [(2, .int (0 : Int32)), (0, .ref (ad 0)), (1, .int p0)]) hx hb d_R_fit_40 rfl hl (by decide) rfl (fun ls hl => ?_)
        refine lv_aload_n hx hb d_R_fit_41 rfl (lv_at hl 1 rfl) ?_
        obtain ⟨r_14, s_14, hq14, hf⟩ := tb2_of hf
        refine tr_calli (va_runV (C := R_R) (As := []) (rest := []) ⟨hx, hb, hml, hown, ht⟩ (mc_R_worst l hd hq14) ⟨(tw_cb (n := 0) ht wc_R_worst wd_43 wd_930 ⟨rfl, rfl⟩ (by decide +kernel) ⟨(Nat.le_of_ble_eq_true rfl), (Nat.le_of_ble_eq_true rfl)⟩), ht _ wd_932, ht _ wd_31⟩ ⟨tP_blind, va_recv hK hP (ci := 8) (q0 := 0) rfl rfl, fun U hU hW => ⟨rfl, by rw [hU]; exact hP, va_K.moved hW.alike hK, tW_warm hW hN⟩⟩ rfl rfl hl.1 rfl (lv_room (Nat.le_of_ble_eq_true rfl)) d_R_fit_42 ⟨Nat.zero_le _, Nat.zero_le _⟩) hS (fun _ h => h.elim) (fun _ h => h.elim) (fun H locs hP hS => ?_)
        refine lv_istore_n (lv' := [(3, .int r_14), (2, .int (0 : Int32)), (0, .ref (ad 0)), (1, .int p0)]) hx hb d_R_fit_45 rfl hl (by decide) rfl (fun ls hl => ?_)
        exact mw_R_fit_46 CX hd _ _ _ _ _ _ hf _ _ hP hS _ (lv_sub hl [2, 3, 1, 0] rfl)
      · replace hf := ti_neg hc hf
        refine lv_iconst (v := (0 : Int32)) hx hb d_R_fit_37 (by decide) ?_
        obtain ⟨rfl, rfl⟩ := tp_of hf
        exact W.iret (v := (0 : Int32)) hx hb hr (fun t ht hW => ⟨rfl, by rw [ht]; exact hP, hS.F ht⟩) hS.2.2 d_R_fit_38
  · replace hf := ti_pos hc hf
    refine lv_iconst (v := (1 : Int32)) hx hb d_R_fit_11 (by decide) ?_
    refine lv_goto (tgt := 27) hx hb d_R_fit_12 (by decide) ?_
    refine va_put (ci := 8) (v := .int (1 : Int32)) (ty := .int) (C := R_R) (T := F_R) (N := 32) hx hb ht iw_R ft_R to_R nm_R hown hK hP (cwR_D hd) hS 0 rfl rfl 0 (by decide) (ht _ wd_677) (fun _ h9 => h9) rfl (by decide +kernel) rfl rfl (Nat.le_of_ble_eq_true rfl) d_R_fit_27 (fun H locs hP _ hS => ?_)
    replace hP : va_P D clS (cwR ad ta (tF s_1 0 (1 : Int32))) H := hP
    refine lv_aload_n hx hb d_R_fit_30 rfl (lv_at hl 0 rfl) ?_
    refine va_get (ci := 8) (v := .int (1 : Int32)) (C := R_R) (T := F_R) (N := 32) hx hb ht iw_R hown hK hP 0 rfl rfl 0 (by decide) (ht _ wd_677) (fun _ h9 => h9) rfl d_R_fit_31 ?_
    refine lv_if_le (tgt := 39) hx hb d_R_fit_34 (by decide) (fun hc => ?_) (fun hc => ?_)
    · replace hf := ti_pos hc hf
      refine lv_iconst (v := (0 : Int32)) hx hb d_R_fit_39 (by decide) ?_
      refine lv_istore_n (lv' := [(2, .int (0 : Int32)), (0, .ref (ad 0)), (1, .int p0)]) hx hb d_R_fit_40 rfl hl (by decide) rfl (fun ls hl => ?_)
      refine lv_aload_n hx hb d_R_fit_41 rfl (lv_at hl 1 rfl) ?_
      obtain ⟨r_15, s_15, hq15, hf⟩ := tb2_of hf
      refine tr_calli (va_runV (C := R_R) (As := []) (rest := []) ⟨hx, hb, hml, hown, ht⟩ (mc_R_worst l hd hq15) ⟨(tw_cb (n := 0) ht wc_R_worst wd_43 wd_930 ⟨rfl, rfl⟩ (by decide +kernel) ⟨(Nat.le_of_ble_eq_true rfl), (Nat.le_of_ble_eq_true rfl)⟩), ht _ wd_932, ht _ wd_31⟩ ⟨tP_blind, va_recv hK hP (ci := 8) (q0 := 0) rfl rfl, fun U hU hW => ⟨rfl, by rw [hU]; exact hP, va_K.moved hW.alike hK, tW_warm hW hN⟩⟩ rfl rfl hl.1 rfl (lv_room (Nat.le_of_ble_eq_true rfl)) d_R_fit_42 ⟨Nat.zero_le _, Nat.zero_le _⟩) hS (fun _ h => h.elim) (fun _ h => h.elim) (fun H locs hP hS => ?_)
      refine lv_istore_n (lv' := [(3, .int r_15), (2, .int (0 : Int32)), (0, .ref (ad 0)), (1, .int p0)]) hx hb d_R_fit_45 rfl hl (by decide) rfl (fun ls hl => ?_)
      exact mw_R_fit_46 CX hd _ _ _ _ _ _ hf _ _ hP hS _ (lv_sub hl [2, 3, 1, 0] rfl)
    · replace hf := ti_neg hc hf
      refine lv_iconst (v := (0 : Int32)) hx hb d_R_fit_37 (by decide) ?_
      obtain ⟨rfl, rfl⟩ := tp_of hf
      exact W.iret (v := (0 : Int32)) hx hb hr (fun t ht hW => ⟨rfl, by rw [ht]; exact hP, hS.F ht⟩) hS.2.2 d_R_fit_38
