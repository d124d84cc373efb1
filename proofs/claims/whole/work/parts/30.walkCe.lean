abbrev rm_T_scaleUsersOf : Room := { frames := 1, cells := 0, slots := 0, locals := 30 }
set_option maxHeartbeats 4000000 in
set_option maxRecDepth 100000 in
theorem mw_T_scaleUsersOf_21 {p : Program} {l : Launch} {e : Env} {s : State} {m : MethodId} {args : Array Value} {below : List Frame} {meth : Method} {c : Code} {D : va_G} {ad : Nat → Nat} {ta : Nat → ClassId} (CX : tC p s m args meth c b_T_scaleUsersOf none 7 R_T D clS (tyC ta)) (hd : tD 37 ad) : ∀ (k : Nat) (v1 : Int32) (v2 : Int64) (v4 : Int32) (σ : tS) (res : tS), ml_T_scaleUsersOf_21 k v1 v2 v4 σ = some res → ∀ (H : Heap) (locs : List Loc), va_P D clS (cwC ad ta σ) H → va_S (tA 37 ad) s.heap H locs → ∀ (ls : Array Slot), lv_has ls 7 [(0, .ref (ad 0)), (1, .int v1), (2, .long v2), (4, .int v4)] → W p l e rm_T_scaleUsersOf s m args below meth c H locs 0 0 (MQ below (tQ D clS (cwC ad ta res) none (tA 37 ad)) args s 0 0 (tA 37 ad)) (F0 m 21 ls []) := by
  obtain ⟨hx, hb, hr, hml, hown, ht, hlocks, hK, hN⟩ := id CX
  intro k
  induction k with
  | zero =>
    intro v1 v2 v4 σ res hf
    exact tn_no hf
  | succ k ih =>
    intro v1 v2 v4 σ res hf H locs hP hS ls hl
    replace hf : ms_T_scaleUsersOf_21 (ml_T_scaleUsersOf_21 k) v1 v2 v4 σ = some res := hf
    unfold ms_T_scaleUsersOf_21 at hf
    refine lv_iload hx hb d_T_scaleUsersOf_21 (lv_at hl 3 rfl) ?_
    refine lv_bipush (v := (36 : Int32)) hx hb d_T_scaleUsersOf_23 (by decide) ?_
    refine lv_icmp_ge (tgt := 96) hx hb d_T_scaleUsersOf_25 (by decide) (fun hc => ?_) (fun hc => ?_)
    · replace hf := ti_pos hc hf
      obtain rfl := ts_of hf
      exact W.vret hx hb hr (fun t ht hW => ⟨rfl, by rw [ht]; exact hP, hS.F ht⟩) hS.2.2 d_T_scaleUsersOf_96
    · replace hf := ti_neg hc hf
      refine lv_aload_n hx hb d_T_scaleUsersOf_28 rfl (lv_at hl 0 rfl) ?_
      refine va_get (ci := 0) (v := .ref (ad 6)) (C := R_T) (T := F_T) (N := 7) hx hb ht iw_T hown hK hP 0 rfl rfl 6 (by decide) (ht _ wd_251) (fun _ h9 => h9) rfl d_T_scaleUsersOf_29 ?_
      refine va_get (ci := 6) (v := .ref (ad 30)) (C := R_A) (T := F_A) (N := 5) hx hb ht iw_A hown hK hP 6 rfl rfl 4 (by decide) (ht _ wd_233) (fun _ h9 => h9) rfl d_T_scaleUsersOf_32 ?_
      refine lv_iload_n hx hb d_T_scaleUsersOf_35 rfl (lv_at hl 1 rfl) ?_
      refine lv_iload hx hb d_T_scaleUsersOf_36 (lv_at hl 3 rfl) ?_
      obtain ⟨r_2, s_2, hq2, hf⟩ := tb2_of hf
      refine tr_calli (va_runS (As := [.int v1, .int v4]) (rest := [.ref (ad 30)]) ⟨hx, hb, hml, hown, ht⟩ (mc_A_placeOf l hd hq2) ⟨(tw_cb (n := 2) ht wc_A_placeOf wd_42 wd_644 ⟨rfl, rfl⟩ (by decide +kernel) ⟨(Nat.le_of_ble_eq_true rfl), (Nat.le_of_ble_eq_true rfl)⟩), ht _ wd_608⟩ ⟨tP_blind, fun U hU hW => ⟨rfl, by rw [hU]; exact hP, va_K.moved hW.alike hK, tW_warm hW hN⟩⟩ rfl rfl hl.1 rfl (lv_room (Nat.le_of_ble_eq_true rfl)) d_T_scaleUsersOf_38 ⟨Nat.zero_le _, Nat.zero_le _⟩) hS (fun _ h => h.elim) (fun _ h => h.elim) (fun H locs hP hS => ?_)
      obtain ⟨hi3, hf⟩ := tg_of hf
      refine va_iald (f := s_2.2.1 20) hx hb hK hP 30 21 rfl rfl hi3 d_T_scaleUsersOf_41 ?_
      refine lv_if_le (tgt := 90) hx hb d_T_scaleUsersOf_42 (by decide) (fun hc => ?_) (fun hc => ?_)
      · replace hf := ti_pos hc hf
        refine lv_iinc (v := (v4 + (1 : Int32))) (lv' := [(4, .int (v4 + (1 : Int32))), (0, .ref (ad 0)), (1, .int v1), (2, .long v2)]) hx hb d_T_scaleUsersOf_90 hl (k := 3) rfl rfl (by decide) rfl (fun ls hl => ?_)
        refine lv_goto (tgt := 21) hx hb d_T_scaleUsersOf_93 (by decide) ?_
        exact ih _ _ _ _ _ hf _ _ hP hS _ (lv_sub hl [1, 2, 3, 0] rfl)
      · replace hf := ti_neg hc hf
        refine lv_aload_n hx hb d_T_scaleUsersOf_45 rfl (lv_at hl 0 rfl) ?_
        refine va_get (ci := 0) (v := .ref (ad 2)) (C := R_T) (T := F_T) (N := 7) hx hb ht iw_T hown hK hP 0 rfl rfl 2 (by decide) (ht _ wd_247) (fun _ h9 => h9) rfl d_T_scaleUsersOf_46 ?_
        refine va_get (ci := 2) (v := .ref (ad 13)) (C := R_B) (T := F_B) (N := 4) hx hb ht iw_B hown hK hP 2 rfl rfl 1 (by decide) (ht _ wd_118) (fun _ h9 => h9) rfl d_T_scaleUsersOf_49 ?_
        refine lv_iload hx hb d_T_scaleUsersOf_52 (lv_at hl 3 rfl) ?_
        obtain ⟨hi4, hf⟩ := tg_of hf
        refine va_iald (f := s_2.2.1 4) hx hb hK hP 13 4 rfl rfl hi4 d_T_scaleUsersOf_54 ?_
        refine lv_i2l hx hb d_T_scaleUsersOf_55 rfl ?_
        refine lv_aload_n hx hb d_T_scaleUsersOf_56 rfl (lv_at hl 0 rfl) ?_
        refine va_get (ci := 0) (v := .ref (ad 4)) (C := R_T) (T := F_T) (N := 7) hx hb ht iw_T hown hK hP 0 rfl rfl 4 (by decide) (ht _ wd_249) (fun _ h9 => h9) rfl d_T_scaleUsersOf_57 ?_
        refine va_get (ci := 4) (v := .ref (ad 23)) (C := R_S) (T := F_S) (N := 10) hx hb ht iw_S hown hK hP 4 rfl rfl 8 (by decide) (ht _ wd_174) (fun _ h9 => h9) rfl d_T_scaleUsersOf_60 ?_
        refine lv_iload_n hx hb d_T_scaleUsersOf_63 rfl (lv_at hl 1 rfl) ?_
        obtain ⟨hi5, hf⟩ := tg_of hf
        refine va_iald (f := s_2.2.1 14) hx hb hK hP 23 14 rfl rfl hi5 d_T_scaleUsersOf_64 ?_
        refine lv_i2l hx hb d_T_scaleUsersOf_65 rfl ?_
        refine lv_lmul hx hb d_T_scaleUsersOf_66 ?_
        refine lv_lload_n hx hb d_T_scaleUsersOf_67 rfl (lv_at hl 2 rfl) ?_
        obtain ⟨hz6, hf⟩ := tz_of hf
        refine lv_ldiv hx hb d_T_scaleUsersOf_68 hz6 ?_
        refine lv_lstore (lv' := [(5, .long ((((s_2.2.1 4 v4.toNatClampNeg)).toInt64 * ((s_2.2.1 14 v1.toNatClampNeg)).toInt64) / v2)), (0, .ref (ad 0)), (1, .int v1), (2, .long v2), (4, .int v4)]) hx hb d_T_scaleUsersOf_69 hl (by decide) rfl (fun ls hl => ?_)
        refine lv_aload_n hx hb d_T_scaleUsersOf_71 rfl (lv_at hl 1 rfl) ?_
        refine va_get (ci := 0) (v := .ref (ad 2)) (C := R_T) (T := F_T) (N := 7) hx hb ht iw_T hown hK hP 0 rfl rfl 2 (by decide) (ht _ wd_247) (fun _ h9 => h9) rfl d_T_scaleUsersOf_72 ?_
        refine va_get (ci := 2) (v := .ref (ad 13)) (C := R_B) (T := F_B) (N := 4) hx hb ht iw_B hown hK hP 2 rfl rfl 1 (by decide) (ht _ wd_118) (fun _ h9 => h9) rfl d_T_scaleUsersOf_75 ?_
        refine lv_iload hx hb d_T_scaleUsersOf_78 (lv_at hl 4 rfl) ?_
        refine lv_lload hx hb d_T_scaleUsersOf_80 (lv_at hl 0 rfl) ?_
        refine lv_ldc2 (v := (1000000 : Int64)) hx hb hown (ht _ wd_669) d_T_scaleUsersOf_82 ?_
        refine va_mmin_long hx hb (hml.trans hl.1.symm) hown (ht _ wd_670) (ht _ wd_281) (ht _ wd_49) (ht _ wm_min_long) (Nat.le_of_ble_eq_true rfl) (Nat.le_of_ble_eq_true rfl) (Nat.zero_le _) (Nat.zero_le _) d_T_scaleUsersOf_85 ?_
        refine lv_l2i hx hb d_T_scaleUsersOf_88 rfl ?_
        obtain ⟨hi7, hf⟩ := tg_of hf
        refine va_iast (f := s_2.2.1 4) hx hb hK hP (cwC_D hd) hS 13 4 rfl rfl hi7 d_T_scaleUsersOf_89 (fun H locs hP _ hS => ?_)
        replace hP : va_P D clS (cwC ad ta (tI s_2 4 v4.toNatClampNeg (((if (1000000 : Int64) < ((((s_2.2.1 4 v4.toNatClampNeg)).toInt64 * ((s_2.2.1 14 v1.toNatClampNeg)).toInt64) / v2) then (1000000 : Int64) else ((((s_2.2.1 4 v4.toNatClampNeg)).toInt64 * ((s_2.2.1 14 v1.toNatClampNeg)).toInt64) / v2))).toInt32))) H := hP
        refine lv_iinc (v := (v4 + (1 : Int32))) (lv' := [(4, .int (v4 + (1 : Int32))), (5, .long ((((s_2.2.1 4 v4.toNatClampNeg)).toInt64 * ((s_2.2.1 14 v1.toNatClampNeg)).toInt64) / v2)), (0, .ref (ad 0)), (1, .int v1), (2, .long v2)]) hx hb d_T_scaleUsersOf_90 hl (k := 4) rfl rfl (by decide) rfl (fun ls hl => ?_)
        refine lv_goto (tgt := 21) hx hb d_T_scaleUsersOf_93 (by decide) ?_
        exact ih _ _ _ _ _ hf _ _ hP hS _ (lv_sub hl [2, 3, 4, 0] rfl)
set_option maxHeartbeats 4000000 in
set_option maxRecDepth 100000 in
theorem mc_T_scaleUsersOf (l : Launch) {D : va_G} {ad : Nat → Nat} {ta : Nat → ClassId} (hd : tD 37 ad) {σ σ' : tS} {p0 : Int32} (hf : mf_T_scaleUsersOf p0 σ = some σ') : Met l y_T_scaleUsersOf (.code y_T_scaleUsersOf b_T_scaleUsersOf 7 none :: tw) rm_T_scaleUsersOf (tP D clS (tyC ta) (cwC ad ta σ) [.ref (ad 0), .int p0]) (tQ D clS (cwC ad ta σ') none (tA 37 ad)) 0 0 (tA 37 ad) := by
  refine Met.ofW (cc := b_T_scaleUsersOf) (maxL := 7) (ret := none) (by decide) rfl ?_
  intro p e s m args below meth c s₁ B hml hv
  obtain ⟨rfl, hP, hK, hN⟩ := hv
  have hx := B.exec
  have hb := B.bytes
  have hr := B.returns
  have ht : ∀ w ∈ tw, w.before [.ref (ad 0), .int p0].toArray s = true := fun w h => atoms_spec (ws := (.code y_T_scaleUsersOf b_T_scaleUsersOf 7 none :: tw)) B.pre w (List.mem_cons_of_mem _ h)
  have hown : s.vm.findClass R_T = some m.cls := findClass_of_methodNamed B.named
  have hlocks := B.notSynchronized
  have CX : tC p s m [.ref (ad 0), .int p0].toArray meth c b_T_scaleUsersOf none 7 R_T D clS (tyC ta) := ⟨hx, hb, hr, hml, hown, ht, hlocks, hK, hN⟩
  have hS : va_S (tA 37 ad) s.heap s.heap [] := va_S.rf
  have hl := lv_entry ([.ref (ad 0), .int p0]) (n := 7) (Nat.le_of_ble_eq_true rfl)
  rw [lg_entry_eq]
  generalize (lg_sl ([.ref (ad 0), .int p0]) ++ List.replicate (7 - (lg_sl ([.ref (ad 0), .int p0])).length) Slot.unset).toArray = ls at hl ⊢
  replace hl : lv_has ls 7 [(0, .ref (ad 0)), (1, .int p0)] := hl
  unfold mf_T_scaleUsersOf at hf
  refine lv_aload_n hx hb d_T_scaleUsersOf_0 rfl (lv_at hl 0 rfl) ?_
  refine va_get (ci := 0) (v := .ref (ad 4)) (C := R_T) (T := F_T) (N := 7) hx hb ht iw_T hown hK hP 0 rfl rfl 4 (by decide) (ht _ wd_249) (fun _ h9 => h9) rfl d_T_scaleUsersOf_1 ?_
  refine va_get (ci := 4) (v := .ref (ad 24)) (C := R_S) (T := F_S) (N := 10) hx hb ht iw_S hown hK hP 4 rfl rfl 9 (by decide) (ht _ wd_177) (fun _ h9 => h9) rfl d_T_scaleUsersOf_4 ?_
  refine lv_iload_n hx hb d_T_scaleUsersOf_7 rfl (lv_at hl 1 rfl) ?_
  obtain ⟨hi1, hf⟩ := tg_of hf
  refine va_iald (f := σ.2.1 15) hx hb hK hP 24 15 rfl rfl hi1 d_T_scaleUsersOf_8 ?_
  refine lv_i2l hx hb d_T_scaleUsersOf_9 rfl ?_
  refine lv_lstore_n (lv' := [(2, .long (((σ.2.1 15 p0.toNatClampNeg)).toInt64)), (0, .ref (ad 0)), (1, .int p0)]) hx hb d_T_scaleUsersOf_10 rfl hl (by decide) rfl (fun ls hl => ?_)
  refine lv_lload_n hx hb d_T_scaleUsersOf_11 rfl (lv_at hl 0 rfl) ?_
  refine lv_lconst (v := (0 : Int64)) hx hb d_T_scaleUsersOf_12 (by decide) ?_
  refine W.lcmp hx hb d_T_scaleUsersOf_13 ?_
  refine lv_if_ne (tgt := 18) hx hb d_T_scaleUsersOf_14 (by decide) (fun hc => ?_) (fun hc => ?_)
  · replace hf := ti_neg hc hf
    refine lv_iconst (v := (0 : Int32)) hx hb d_T_scaleUsersOf_18 (by decide) ?_
    refine lv_istore (lv' := [(4, .int (0 : Int32)), (2, .long (((σ.2.1 15 p0.toNatClampNeg)).toInt64)), (0, .ref (ad 0)), (1, .int p0)]) hx hb d_T_scaleUsersOf_19 hl (by decide) rfl (fun ls hl => ?_)
    exact mw_T_scaleUsersOf_21 CX hd _ _ _ _ _ _ hf _ _ hP hS _ (lv_sub hl [2, 3, 1, 0] rfl)
  · replace hf := ti_pos hc hf
    obtain rfl := ts_of hf
    exact W.vret hx hb hr (fun t ht hW => ⟨rfl, by rw [ht]; exact hP, hS.F ht⟩) hS.2.2 d_T_scaleUsersOf_17
abbrev rm_T_fit : Room := { frames := 5, cells := 0, slots := 0, locals := 121 }
set_option maxHeartbeats 4000000 in
set_option maxRecDepth 100000 in
theorem mw_T_fit_29 {p : Program} {l : Launch} {e : Env} {s : State} {m : MethodId} {args : Array Value} {below : List Frame} {meth : Method} {c : Code} {D : va_G} {ad : Nat → Nat} {ta : Nat → ClassId} (CX : tC p s m args meth c b_T_fit (some .int) 4 R_T D clS (tyC ta)) (hd : tD 37 ad) : ∀ (k : Nat) (v1 : Int32) (v2 : Int32) (σ : tS) (res : (Int32 × tS)), ml_T_fit_29 k v1 v2 σ = some res → ∀ (H : Heap) (locs : List Loc), va_P D clS (cwC ad ta σ) H → va_S (tA 37 ad) s.heap H locs → ∀ (ls : Array Slot), lv_has ls 4 [(0, .ref (ad 0)), (1, .int v1), (2, .int v2)] → W p l e rm_T_fit s m args below meth c H locs 0 0 (MQ below (tQ D clS (cwC ad ta res.2) (some (.int res.1)) (tA 37 ad)) args s 0 0 (tA 37 ad)) (F0 m 29 ls []) := by
  obtain ⟨hx, hb, hr, hml, hown, ht, hlocks, hK, hN⟩ := id CX
  intro k
  induction k with
  | zero =>
    intro v1 v2 σ res hf
    exact tn_no hf
  | succ k ih =>
    intro v1 v2 σ res hf H locs hP hS ls hl
    replace hf : ms_T_fit_29 (ml_T_fit_29 k) v1 v2 σ = some res := hf
    unfold ms_T_fit_29 at hf
    refine lv_iload_n hx hb d_T_fit_29 rfl (lv_at hl 2 rfl) ?_
    refine lv_iload_n hx hb d_T_fit_30 rfl (lv_at hl 1 rfl) ?_
    refine lv_icmp_ge (tgt := 83) hx hb d_T_fit_31 (by decide) (fun hc => ?_) (fun hc => ?_)
    · replace hf := ti_pos hc hf
      refine lv_iload_n hx hb d_T_fit_83 rfl (lv_at hl 1 rfl) ?_
      obtain rfl := ts_of hf
      exact W.iret (v := v1) hx hb hr (fun t ht hW => ⟨rfl, by rw [ht]; exact hP, hS.F ht⟩) hS.2.2 d_T_fit_84
    · replace hf := ti_neg hc hf
      refine lv_aload_n hx hb d_T_fit_34 rfl (lv_at hl 0 rfl) ?_
      refine va_get (ci := 0) (v := .ref (ad 4)) (C := R_T) (T := F_T) (N := 7) hx hb ht iw_T hown hK hP 0 rfl rfl 4 (by decide) (ht _ wd_249) (fun _ h9 => h9) rfl d_T_fit_35 ?_
      obtain ⟨r_2, s_2, hq2, hf⟩ := tb2_of hf
      refine tr_calli (va_runV (C := R_S) (As := []) (rest := []) ⟨hx, hb, hml, hown, ht⟩ (mc_S_farthestFromCount l hd hq2) ⟨(tw_cb (n := 0) ht wc_S_farthestFromCount wd_40 wd_660 ⟨rfl, rfl⟩ (by decide +kernel) ⟨(Nat.le_of_ble_eq_true rfl), (Nat.le_of_ble_eq_true rfl)⟩), ht _ wd_661, ht _ wd_662⟩ ⟨tP_blind, va_recv hK hP (ci := 4) (q0 := 4) rfl rfl, fun U hU hW => ⟨rfl, by rw [hU]; exact hP, va_K.moved hW.alike hK, tW_warm hW hN⟩⟩ rfl rfl hl.1 rfl (lv_room (Nat.le_of_ble_eq_true rfl)) d_T_fit_38 ⟨Nat.zero_le _, Nat.zero_le _⟩) hS (fun _ h => h.elim) (fun _ h => h.elim) (fun H locs hP hS => ?_)
      refine lv_istore_n (lv' := [(3, .int r_2), (0, .ref (ad 0)), (1, .int v1), (2, .int v2)]) hx hb d_T_fit_41 rfl hl (by decide) rfl (fun ls hl => ?_)
      refine lv_iload_n hx hb d_T_fit_42 rfl (lv_at hl 0 rfl) ?_
      refine lv_iconst (v := ((-1) : Int32)) hx hb d_T_fit_43 (by decide) ?_
      refine lv_icmp_eq (tgt := 59) hx hb d_T_fit_44 (by decide) (fun hc => ?_) (fun hc => ?_)
      · replace hf := ti_pos hc hf
        refine lv_iload_n hx hb d_T_fit_59 rfl (lv_at hl 3 rfl) ?_
        obtain rfl := ts_of hf
        exact W.iret (v := v2) hx hb hr (fun t ht hW => ⟨rfl, by rw [ht]; exact hP, hS.F ht⟩) hS.2.2 d_T_fit_60
      · replace hf := ti_neg hc hf
        refine lv_aload_n hx hb d_T_fit_47 rfl (lv_at hl 1 rfl) ?_
        refine va_get (ci := 0) (v := .ref (ad 4)) (C := R_T) (T := F_T) (N := 7) hx hb ht iw_T hown hK hP 0 rfl rfl 4 (by decide) (ht _ wd_249) (fun _ h9 => h9) rfl d_T_fit_48 ?_
        refine va_get (ci := 4) (v := .ref (ad 24)) (C := R_S) (T := F_S) (N := 10) hx hb ht iw_S hown hK hP 4 rfl rfl 9 (by decide) (ht _ wd_177) (fun _ h9 => h9) rfl d_T_fit_51 ?_
        refine lv_iload_n hx hb d_T_fit_54 rfl (lv_at hl 0 rfl) ?_
        obtain ⟨hi3, hf⟩ := tg_of hf
        refine va_iald (f := s_2.2.1 15) hx hb hK hP 24 15 rfl rfl hi3 d_T_fit_55 ?_
        refine lv_if_ne (tgt := 61) hx hb d_T_fit_56 (by decide) (fun hc => ?_) (fun hc => ?_)
        · replace hf := ti_neg hc hf
          refine lv_aload_n hx hb d_T_fit_61 rfl (lv_at hl 1 rfl) ?_
          refine lv_iload_n hx hb d_T_fit_62 rfl (lv_at hl 0 rfl) ?_
          obtain ⟨s_4, hq4, hf⟩ := tb1_of hf
          refine tr_callv (va_runV (C := R_T) (As := [.int r_2]) (rest := []) ⟨hx, hb, hml, hown, ht⟩ (mc_T_scaleUsersOf l hd hq4) ⟨(tw_cb (n := 1) ht wc_T_scaleUsersOf wd_34 wd_665 ⟨rfl, rfl⟩ (by decide +kernel) ⟨(Nat.le_of_ble_eq_true rfl), (Nat.le_of_ble_eq_true rfl)⟩), ht _ wd_667, ht _ wd_15⟩ ⟨tP_blind, va_recv hK hP (ci := 0) (q0 := 0) rfl rfl, fun U hU hW => ⟨rfl, by rw [hU]; exact hP, va_K.moved hW.alike hK, tW_warm hW hN⟩⟩ rfl rfl hl.1 rfl (lv_room (Nat.le_of_ble_eq_true rfl)) d_T_fit_63 ⟨Nat.zero_le _, Nat.zero_le _⟩) hS (fun _ h => h) (fun _ h => h) (fun H locs hP hS => ?_)
          refine lv_aload_n hx hb d_T_fit_66 rfl (lv_at hl 1 rfl) ?_
          refine lv_aload_n hx hb d_T_fit_67 rfl (lv_at hl 1 rfl) ?_
          refine va_get (ci := 0) (v := .ref (ad 6)) (C := R_T) (T := F_T) (N := 7) hx hb ht iw_T hown hK hP 0 rfl rfl 6 (by decide) (ht _ wd_251) (fun _ h9 => h9) rfl d_T_fit_68 ?_
          refine va_get (ci := 6) (v := .int (s_4.1 3)) (C := R_A) (T := F_A) (N := 5) hx hb ht iw_A hown hK hP 6 rfl rfl 0 (by decide) (ht _ wd_225) (fun _ h9 => h9) rfl d_T_fit_71 ?_
          obtain ⟨s_5, hq5, hf⟩ := tb1_of hf
          refine tr_callv (va_runV (C := R_T) (As := [.int (s_4.1 3)]) (rest := []) ⟨hx, hb, hml, hown, ht⟩ (mc_T_assignAll l hd hq5) ⟨(tw_cb (n := 1) ht wc_T_assignAll wd_34 wd_580 ⟨rfl, rfl⟩ (by decide +kernel) ⟨(Nat.le_of_ble_eq_true rfl), (Nat.le_of_ble_eq_true rfl)⟩), ht _ wd_582, ht _ wd_12⟩ ⟨tP_blind, va_recv hK hP (ci := 0) (q0 := 0) rfl rfl, fun U hU hW => ⟨rfl, by rw [hU]; exact hP, va_K.moved hW.alike hK, tW_warm hW hN⟩⟩ rfl rfl hl.1 rfl (lv_room (Nat.le_of_ble_eq_true rfl)) d_T_fit_74 ⟨Nat.zero_le _, Nat.zero_le _⟩) hS (fun _ h => h) (fun _ h => h) (fun H locs hP hS => ?_)
          refine lv_iinc (v := (v2 + (1 : Int32))) (lv' := [(2, .int (v2 + (1 : Int32))), (3, .int r_2), (0, .ref (ad 0)), (1, .int v1)]) hx hb d_T_fit_77 hl (k := 3) rfl rfl (by decide) rfl (fun ls hl => ?_)
          refine lv_goto (tgt := 29) hx hb d_T_fit_80 (by decide) ?_
          exact ih _ _ _ _ hf _ _ hP hS _ (lv_sub hl [2, 3, 0] rfl)
        · replace hf := ti_pos hc hf
          refine lv_iload_n hx hb d_T_fit_59 rfl (lv_at hl 3 rfl) ?_
          obtain rfl := ts_of hf
          exact W.iret (v := v2) hx hb hr (fun t ht hW => ⟨rfl, by rw [ht]; exact hP, hS.F ht⟩) hS.2.2 d_T_fit_60
set_option maxHeartbeats 4000000 in
set_option maxRecDepth 100000 in
theorem mc_T_fit (l : Launch) {D : va_G} {ad : Nat → Nat} {ta : Nat → ClassId} (hd : tD 37 ad) {σ σ' : tS} {p0 : Int32} {r : Int32} (hf : mf_T_fit p0 σ = some (r, σ')) : Met l y_T_fit (.code y_T_fit b_T_fit 4 (some .int) :: tw) rm_T_fit (tP D clS (tyC ta) (cwC ad ta σ) [.ref (ad 0), .int p0]) (tQ D clS (cwC ad ta σ') (some (.int r)) (tA 37 ad)) 0 0 (tA 37 ad) := by
  refine Met.ofW (cc := b_T_fit) (maxL := 4) (ret := (some .int)) (by decide) rfl ?_
  intro p e s m args below meth c s₁ B hml hv
  obtain ⟨rfl, hP, hK, hN⟩ := hv
  have hx := B.exec
  have hb := B.bytes
  have hr := B.returns
  have ht : ∀ w ∈ tw, w.before [.ref (ad 0), .int p0].toArray s = true := fun w h => atoms_spec (ws := (.code y_T_fit b_T_fit 4 (some .int) :: tw)) B.pre w (List.mem_cons_of_mem _ h)
  have hown : s.vm.findClass R_T = some m.cls := findClass_of_methodNamed B.named
  have hlocks := B.notSynchronized
  have CX : tC p s m [.ref (ad 0), .int p0].toArray meth c b_T_fit (some .int) 4 R_T D clS (tyC ta) := ⟨hx, hb, hr, hml, hown, ht, hlocks, hK, hN⟩
  have hS : va_S (tA 37 ad) s.heap s.heap [] := va_S.rf
  have hl := lv_entry ([.ref (ad 0), .int p0]) (n := 4) (Nat.le_of_ble_eq_true rfl)
  rw [lg_entry_eq]
  generalize (lg_sl ([.ref (ad 0), .int p0]) ++ List.replicate (4 - (lg_sl ([.ref (ad 0), .int p0])).length) Slot.unset).toArray = ls at hl ⊢
  replace hl : lv_has ls 4 [(0, .ref (ad 0)), (1, .int p0)] := hl
  unfold mf_T_fit at hf
  refine lv_iload_n hx hb d_T_fit_0 rfl (lv_at hl 1 rfl) ?_
  refine lv_iconst (v := (1 : Int32)) hx hb d_T_fit_1 (by decide) ?_
  refine lv_bipush (v := (20 : Int32)) hx hb d_T_fit_2 (by decide) ?_
  obtain ⟨s_1, hq1, hf⟩ := tb1_of hf
  refine tr_callv (va_runS (As := [.int p0, .int (1 : Int32), .int (20 : Int32)]) (rest := []) ⟨hx, hb, hml, hown, ht⟩ (mc_T_needWithin l hd hq1) ⟨(tw_cb (n := 3) ht wc_T_needWithin wd_34 wd_420 ⟨rfl, rfl⟩ (by decide +kernel) ⟨(Nat.le_of_ble_eq_true rfl), (Nat.le_of_ble_eq_true rfl)⟩), ht _ wd_421⟩ ⟨tP_blind, fun U hU hW => ⟨rfl, by rw [hU]; exact hP, va_K.moved hW.alike hK, tW_warm hW hN⟩⟩ rfl rfl hl.1 rfl (lv_room (Nat.le_of_ble_eq_true rfl)) d_T_fit_4 ⟨Nat.zero_le _, Nat.zero_le _⟩) hS (fun _ h => h.elim) (fun _ h => h.elim) (fun H locs hP hS => ?_)
  refine lv_aload_n hx hb d_T_fit_7 rfl (lv_at hl 0 rfl) ?_
  refine va_get (ci := 0) (v := .ref (ad 6)) (C := R_T) (T := F_T) (N := 7) hx hb ht iw_T hown hK hP 0 rfl rfl 6 (by decide) (ht _ wd_251) (fun _ h9 => h9) rfl d_T_fit_8 ?_
  refine va_get (ci := 6) (v := .int (s_1.1 3)) (C := R_A) (T := F_A) (N := 5) hx hb ht iw_A hown hK hP 6 rfl rfl 0 (by decide) (ht _ wd_225) (fun _ h9 => h9) rfl d_T_fit_11 ?_
  refine lv_if_ne (tgt := 27) hx hb d_T_fit_14 (by decide) (fun hc => ?_) (fun hc => ?_)
  · replace hf := ti_neg hc hf
    refine lv_iconst (v := (0 : Int32)) hx hb d_T_fit_27 (by decide) ?_
    refine lv_istore_n (lv' := [(2, .int (0 : Int32)), (0, .ref (ad 0)), (1, .int p0)]) hx hb d_T_fit_28 rfl hl (by decide) rfl (fun ls hl => ?_)
    exact mw_T_fit_29 CX hd _ _ _ _ _ hf _ _ hP hS _ (lv_sub hl [1, 2, 0] rfl)
  · replace hf := ti_pos hc hf
    exact tn_no hf
