abbrev rm_R_goPart : Room := { frames := 2, cells := 0, slots := 0, locals := 55 }
set_option maxHeartbeats 4000000 in
set_option maxRecDepth 100000 in
theorem mw_R_goPart_88 {p : Program} {l : Launch} {e : Env} {s : State} {m : MethodId} {args : Array Value} {below : List Frame} {meth : Method} {c : Code} {D : va_G} {ad : Nat → Nat} {ta : Nat → ClassId} (CX : tC p s m args meth c b_R_goPart none 10 R_R D clS (tyR ta)) (hd : tD 26 ad) : ∀ (k : Nat) (v1 : Int32) (v2 : Int32) (v3 : Int32) (v4 : Int32) (v5 : Int32) (v6 : Int64) (v8 : Int32) (v9 : Int32) (σ : tS) (res : tS), ml_R_goPart_88 k v1 v2 v3 v4 v5 v6 v8 v9 σ = some res → ∀ (H : Heap) (locs : List Loc), va_P D clS (cwR ad ta σ) H → va_S (tA 26 ad) s.heap H locs → ∀ (ls : Array Slot), lv_has ls 10 [(0, .ref (ad 0)), (1, .int v1), (2, .int v2), (3, .int v3), (4, .int v4), (5, .int v5), (6, .long v6), (8, .int v8), (9, .int v9)] → W p l e rm_R_goPart s m args below meth c H locs 0 0 (MQ below (tQ D clS (cwR ad ta res) none (tA 26 ad)) args s 0 0 (tA 26 ad)) (F0 m 88 ls []) := by
  obtain ⟨hx, hb, hr, hml, hown, ht, hlocks, hK, hN⟩ := id CX
  intro k
  induction k with
  | zero =>
    intro v1 v2 v3 v4 v5 v6 v8 v9 σ res hf
    exact tn_no hf
  | succ k ih =>
    intro v1 v2 v3 v4 v5 v6 v8 v9 σ res hf H locs hP hS ls hl
    replace hf : ms_R_goPart_88 (ml_R_goPart_88 k) v1 v2 v3 v4 v5 v6 v8 v9 σ = some res := hf
    unfold ms_R_goPart_88 at hf
    refine lv_iload hx hb d_R_goPart_88 (lv_at hl 8 rfl) ?_
    refine lv_aload_n hx hb d_R_goPart_90 rfl (lv_at hl 0 rfl) ?_
    refine va_get (ci := 8) (v := .int (σ.1 6)) (C := R_R) (T := F_R) (N := 32) hx hb ht iw_R hown hK hP 0 rfl rfl 31 (by decide) (ht _ wd_708) (fun _ h9 => h9) rfl d_R_goPart_91 ?_
    refine lv_icmp_ge (tgt := 144) hx hb d_R_goPart_94 (by decide) (fun hc => ?_) (fun hc => ?_)
    · replace hf := ti_pos hc hf
      obtain rfl := ts_of hf
      exact W.vret hx hb hr (fun t ht hW => ⟨rfl, by rw [ht]; exact hP, hS.F ht⟩) hS.2.2 d_R_goPart_144
    · replace hf := ti_neg hc hf
      refine lv_aload_n hx hb d_R_goPart_97 rfl (lv_at hl 0 rfl) ?_
      refine va_get (ci := 8) (v := .ref (ad 12)) (C := R_R) (T := F_R) (N := 32) hx hb ht iw_R hown hK hP 0 rfl rfl 15 (by decide) (ht _ wd_692) (fun _ h9 => h9) rfl d_R_goPart_98 ?_
      refine lv_aload_n hx hb d_R_goPart_101 rfl (lv_at hl 0 rfl) ?_
      refine va_get (ci := 8) (v := .ref (ad 25)) (C := R_R) (T := F_R) (N := 32) hx hb ht iw_R hown hK hP 0 rfl rfl 30 (by decide) (ht _ wd_707) (fun _ h9 => h9) rfl d_R_goPart_102 ?_
      refine lv_iload hx hb d_R_goPart_105 (lv_at hl 8 rfl) ?_
      obtain ⟨hi9, hf⟩ := tg_of hf
      refine va_iald (f := σ.2.1 19) hx hb hK hP 25 24 rfl rfl hi9 d_R_goPart_107 ?_
      refine lv_dup2_11 hx hb d_R_goPart_108 rfl rfl ?_
      obtain ⟨hi10, hf⟩ := tg_of hf
      refine va_lald (f := σ.2.2 0) hx hb hK hP 12 11 rfl rfl hi10 d_R_goPart_109 ?_
      refine lv_iload hx hb d_R_goPart_110 (lv_at hl 7 rfl) ?_
      refine lv_i2l hx hb d_R_goPart_112 rfl ?_
      refine lv_ladd hx hb d_R_goPart_113 ?_
      obtain ⟨hi11, hf⟩ := tg_of hf
      refine va_last (f := σ.2.2 0) hx hb hK hP (cwR_D hd) hS 12 11 rfl rfl hi11 d_R_goPart_114 (fun H locs hP _ hS => ?_)
      replace hP : va_P D clS (cwR ad ta (tJ σ 0 ((σ.2.1 19 v9.toNatClampNeg).toNatClampNeg) ((σ.2.2 0 (σ.2.1 19 v9.toNatClampNeg).toNatClampNeg) + (v8).toInt64))) H := hP
      refine lv_aload_n hx hb d_R_goPart_115 rfl (lv_at hl 0 rfl) ?_
      refine va_get (ci := 8) (v := .ref (ad 17)) (C := R_R) (T := F_R) (N := 32) hx hb ht iw_R hown hK hP 0 rfl rfl 20 (by decide) (ht _ wd_697) (fun _ h9 => h9) rfl d_R_goPart_116 ?_
      refine lv_bipush (v := (36 : Int32)) hx hb d_R_goPart_119 (by decide) ?_
      refine lv_aload_n hx hb d_R_goPart_121 rfl (lv_at hl 0 rfl) ?_
      refine va_get (ci := 8) (v := .ref (ad 25)) (C := R_R) (T := F_R) (N := 32) hx hb ht iw_R hown hK hP 0 rfl rfl 30 (by decide) (ht _ wd_707) (fun _ h9 => h9) rfl d_R_goPart_122 ?_
      refine lv_iload hx hb d_R_goPart_125 (lv_at hl 8 rfl) ?_
      obtain ⟨hi12, hf⟩ := tg_of hf
      refine va_iald (f := σ.2.1 19) hx hb hK hP 25 24 rfl rfl hi12 d_R_goPart_127 ?_
      refine lv_imul hx hb d_R_goPart_128 ?_
      refine lv_iload hx hb d_R_goPart_129 (lv_at hl 5 rfl) ?_
      refine lv_iadd hx hb d_R_goPart_131 ?_
      refine lv_dup2_11 hx hb d_R_goPart_132 rfl rfl ?_
      obtain ⟨hi13, hf⟩ := tg_of hf
      refine va_iald (f := σ.2.1 15) hx hb hK hP 17 16 rfl rfl hi13 d_R_goPart_133 ?_
      refine lv_iload hx hb d_R_goPart_134 (lv_at hl 7 rfl) ?_
      refine lv_iadd hx hb d_R_goPart_136 ?_
      obtain ⟨hi14, hf⟩ := tg_of hf
      refine va_iast (f := σ.2.1 15) hx hb hK hP (cwR_D hd) hS 17 16 rfl rfl hi14 d_R_goPart_137 (fun H locs hP _ hS => ?_)
      replace hP : va_P D clS (cwR ad ta (tI (tJ σ 0 ((σ.2.1 19 v9.toNatClampNeg).toNatClampNeg) ((σ.2.2 0 (σ.2.1 19 v9.toNatClampNeg).toNatClampNeg) + (v8).toInt64)) 15 ((((36 : Int32) * (σ.2.1 19 v9.toNatClampNeg)) + v5).toNatClampNeg) ((σ.2.1 15 (((36 : Int32) * (σ.2.1 19 v9.toNatClampNeg)) + v5).toNatClampNeg) + v8))) H := hP
      refine lv_iinc (v := (v9 + (1 : Int32))) (lv' := [(9, .int (v9 + (1 : Int32))), (0, .ref (ad 0)), (1, .int v1), (2, .int v2), (3, .int v3), (4, .int v4), (5, .int v5), (6, .long v6), (8, .int v8)]) hx hb d_R_goPart_138 hl (k := 8) rfl rfl (by decide) rfl (fun ls hl => ?_)
      refine lv_goto (tgt := 88) hx hb d_R_goPart_141 (by decide) ?_
      exact ih _ _ _ _ _ _ _ _ _ _ hf _ _ hP hS _ (lv_sub hl [1, 2, 3, 4, 5, 6, 7, 8, 0] rfl)
set_option maxHeartbeats 4000000 in
set_option maxRecDepth 100000 in
theorem mc_R_goPart (l : Launch) {D : va_G} {ad : Nat → Nat} {ta : Nat → ClassId} (hd : tD 26 ad) {σ σ' : tS} {p0 : Int32} {p1 : Int32} {p2 : Int32} {p3 : Int32} (hf : mf_R_goPart p0 p1 p2 p3 σ = some σ') : Met l y_R_goPart (.code y_R_goPart b_R_goPart 10 none :: tw) rm_R_goPart (tP D clS (tyR ta) (cwR ad ta σ) [.ref (ad 0), .int p0, .int p1, .int p2, .int p3]) (tQ D clS (cwR ad ta σ') none (tA 26 ad)) 0 0 (tA 26 ad) := by
  refine Met.ofW (cc := b_R_goPart) (maxL := 10) (ret := none) (by decide) rfl ?_
  intro p e s m args below meth c s₁ B hml hv
  obtain ⟨rfl, hP, hK, hN⟩ := hv
  have hx := B.exec
  have hb := B.bytes
  have hr := B.returns
  have ht : ∀ w ∈ tw, w.before [.ref (ad 0), .int p0, .int p1, .int p2, .int p3].toArray s = true := fun w h => atoms_spec (ws := (.code y_R_goPart b_R_goPart 10 none :: tw)) B.pre w (List.mem_cons_of_mem _ h)
  have hown : s.vm.findClass R_R = some m.cls := findClass_of_methodNamed B.named
  have hlocks := B.notSynchronized
  have CX : tC p s m [.ref (ad 0), .int p0, .int p1, .int p2, .int p3].toArray meth c b_R_goPart none 10 R_R D clS (tyR ta) := ⟨hx, hb, hr, hml, hown, ht, hlocks, hK, hN⟩
  have hS : va_S (tA 26 ad) s.heap s.heap [] := va_S.rf
  have hl := lv_entry ([.ref (ad 0), .int p0, .int p1, .int p2, .int p3]) (n := 10) (Nat.le_of_ble_eq_true rfl)
  rw [lg_entry_eq]
  generalize (lg_sl ([.ref (ad 0), .int p0, .int p1, .int p2, .int p3]) ++ List.replicate (10 - (lg_sl ([.ref (ad 0), .int p0, .int p1, .int p2, .int p3])).length) Slot.unset).toArray = ls at hl ⊢
  replace hl : lv_has ls 10 [(0, .ref (ad 0)), (1, .int p0), (2, .int p1), (3, .int p2), (4, .int p3)] := hl
  unfold mf_R_goPart at hf
  refine lv_bipush (v := (6 : Int32)) hx hb d_R_goPart_0 (by decide) ?_
  refine lv_iload_n hx hb d_R_goPart_2 rfl (lv_at hl 1 rfl) ?_
  refine lv_imul hx hb d_R_goPart_3 ?_
  refine lv_iload_n hx hb d_R_goPart_4 rfl (lv_at hl 2 rfl) ?_
  refine lv_iadd hx hb d_R_goPart_5 ?_
  refine lv_istore (lv' := [(5, .int (((6 : Int32) * p0) + p1)), (0, .ref (ad 0)), (1, .int p0), (2, .int p1), (3, .int p2), (4, .int p3)]) hx hb d_R_goPart_6 hl (by decide) rfl (fun ls hl => ?_)
  refine lv_aload_n hx hb d_R_goPart_8 rfl (lv_at hl 1 rfl) ?_
  refine lv_iconst (v := (0 : Int32)) hx hb d_R_goPart_9 (by decide) ?_
  refine lv_iload hx hb d_R_goPart_10 (lv_at hl 0 rfl) ?_
  obtain ⟨r_1, s_1, hq1, hf⟩ := tb2_of hf
  refine tr_calli (va_runV (C := R_R) (As := [.int (0 : Int32), .int (((6 : Int32) * p0) + p1)]) (rest := []) ⟨hx, hb, hml, hown, ht⟩ (mc_R_byMode l hd hq1) ⟨(tw_cb (n := 2) ht wc_R_byMode wd_43 wd_869 ⟨rfl, rfl⟩ (by decide +kernel) ⟨(Nat.le_of_ble_eq_true rfl), (Nat.le_of_ble_eq_true rfl)⟩), ht _ wd_871, ht _ wd_24⟩ ⟨tP_blind, va_recv hK hP (ci := 8) (q0 := 0) rfl rfl, fun U hU hW => ⟨rfl, by rw [hU]; exact hP, va_K.moved hW.alike hK, tW_warm hW hN⟩⟩ rfl rfl hl.1 rfl (lv_room (Nat.le_of_ble_eq_true rfl)) d_R_goPart_12 ⟨Nat.zero_le _, Nat.zero_le _⟩) hS (fun _ h => h) (fun _ h => h) (fun H locs hP hS => ?_)
  refine lv_i2l hx hb d_R_goPart_15 rfl ?_
  refine lv_lstore (lv' := [(6, .long ((r_1).toInt64)), (5, .int (((6 : Int32) * p0) + p1)), (0, .ref (ad 0)), (1, .int p0), (2, .int p1), (3, .int p2), (4, .int p3)]) hx hb d_R_goPart_16 hl (by decide) rfl (fun ls hl => ?_)
  refine lv_lload hx hb d_R_goPart_18 (lv_at hl 0 rfl) ?_
  refine lv_iload_n hx hb d_R_goPart_20 rfl (lv_at hl 5 rfl) ?_
  refine lv_iconst (v := (1 : Int32)) hx hb d_R_goPart_21 (by decide) ?_
  refine lv_iadd hx hb d_R_goPart_22 ?_
  refine lv_i2l hx hb d_R_goPart_23 rfl ?_
  refine lv_lmul hx hb d_R_goPart_24 ?_
  refine lv_iload hx hb d_R_goPart_25 (lv_at hl 6 rfl) ?_
  refine lv_i2l hx hb d_R_goPart_27 rfl ?_
  obtain ⟨hz2, hf⟩ := tz_of hf
  refine lv_ldiv hx hb d_R_goPart_28 hz2 ?_
  refine lv_lload hx hb d_R_goPart_29 (lv_at hl 0 rfl) ?_
  refine lv_iload_n hx hb d_R_goPart_31 rfl (lv_at hl 5 rfl) ?_
  refine lv_i2l hx hb d_R_goPart_32 rfl ?_
  refine lv_lmul hx hb d_R_goPart_33 ?_
  refine lv_iload hx hb d_R_goPart_34 (lv_at hl 6 rfl) ?_
  refine lv_i2l hx hb d_R_goPart_36 rfl ?_
  obtain ⟨hz3, hf⟩ := tz_of hf
  refine lv_ldiv hx hb d_R_goPart_37 hz3 ?_
  refine lv_lsub hx hb d_R_goPart_38 ?_
  refine lv_l2i hx hb d_R_goPart_39 rfl ?_
  refine lv_istore (lv' := [(8, .int ((((((r_1).toInt64 * ((p2 + (1 : Int32))).toInt64) / (p3).toInt64) - (((r_1).toInt64 * (p2).toInt64) / (p3).toInt64))).toInt32)), (6, .long ((r_1).toInt64)), (5, .int (((6 : Int32) * p0) + p1)), (0, .ref (ad 0)), (1, .int p0), (2, .int p1), (3, .int p2), (4, .int p3)]) hx hb d_R_goPart_40 hl (by decide) rfl (fun ls hl => ?_)
  refine lv_aload_n hx hb d_R_goPart_42 rfl (lv_at hl 3 rfl) ?_
  refine lv_aload_n hx hb d_R_goPart_43 rfl (lv_at hl 3 rfl) ?_
  refine va_get (ci := 8) (v := .ref (ad 1)) (C := R_R) (T := F_R) (N := 32) hx hb ht iw_R hown hK hP 0 rfl rfl 4 (by decide) (ht _ wd_681) (fun _ h9 => h9) rfl d_R_goPart_44 ?_
  refine lv_iload_n hx hb d_R_goPart_47 rfl (lv_at hl 4 rfl) ?_
  obtain ⟨hi4, hf⟩ := tg_of hf
  refine va_iald (f := s_1.2.1 0) hx hb hK hP 1 0 rfl rfl hi4 d_R_goPart_48 ?_
  refine lv_aload_n hx hb d_R_goPart_49 rfl (lv_at hl 3 rfl) ?_
  refine va_get (ci := 8) (v := .ref (ad 1)) (C := R_R) (T := F_R) (N := 32) hx hb ht iw_R hown hK hP 0 rfl rfl 4 (by decide) (ht _ wd_681) (fun _ h9 => h9) rfl d_R_goPart_50 ?_
  refine lv_iload_n hx hb d_R_goPart_53 rfl (lv_at hl 5 rfl) ?_
  obtain ⟨hi5, hf⟩ := tg_of hf
  refine va_iald (f := s_1.2.1 0) hx hb hK hP 1 0 rfl rfl hi5 d_R_goPart_54 ?_
  obtain ⟨r_6, s_6, hq6, hf⟩ := tb2_of hf
  refine tr_calli (va_runV (C := R_R) (As := [.int (s_1.2.1 0 p0.toNatClampNeg), .int (s_1.2.1 0 p1.toNatClampNeg)]) (rest := []) ⟨hx, hb, hml, hown, ht⟩ (mc_R_findWay l hd hq6) ⟨(tw_cb (n := 2) ht wc_R_findWay wd_43 wd_893 ⟨rfl, rfl⟩ (by decide +kernel) ⟨(Nat.le_of_ble_eq_true rfl), (Nat.le_of_ble_eq_true rfl)⟩), ht _ wd_895, ht _ wd_29⟩ ⟨tP_blind, va_recv hK hP (ci := 8) (q0 := 0) rfl rfl, fun U hU hW => ⟨rfl, by rw [hU]; exact hP, va_K.moved hW.alike hK, tW_warm hW hN⟩⟩ rfl rfl hl.1 rfl (lv_room (Nat.le_of_ble_eq_true rfl)) d_R_goPart_55 ⟨Nat.zero_le _, Nat.zero_le _⟩) hS (fun _ h => h) (fun _ h => h) (fun H locs hP hS => ?_)
  refine lv_if_ne (tgt := 73) hx hb d_R_goPart_58 (by decide) (fun hc => ?_) (fun hc => ?_)
  · replace hf := ti_neg hc hf
    refine lv_aload_n hx hb d_R_goPart_73 rfl (lv_at hl 3 rfl) ?_
    refine va_get (ci := 8) (v := .ref (ad 16)) (C := R_R) (T := F_R) (N := 32) hx hb ht iw_R hown hK hP 0 rfl rfl 19 (by decide) (ht _ wd_696) (fun _ h9 => h9) rfl d_R_goPart_74 ?_
    refine lv_iload hx hb d_R_goPart_77 (lv_at hl 2 rfl) ?_
    refine lv_dup2_11 hx hb d_R_goPart_79 rfl rfl ?_
    obtain ⟨hi7, hf⟩ := tg_of hf
    refine va_iald (f := s_6.2.1 14) hx hb hK hP 16 15 rfl rfl hi7 d_R_goPart_80 ?_
    refine lv_iload hx hb d_R_goPart_81 (lv_at hl 0 rfl) ?_
    refine lv_iadd hx hb d_R_goPart_83 ?_
    obtain ⟨hi8, hf⟩ := tg_of hf
    refine va_iast (f := s_6.2.1 14) hx hb hK hP (cwR_D hd) hS 16 15 rfl rfl hi8 d_R_goPart_84 (fun H locs hP _ hS => ?_)
    replace hP : va_P D clS (cwR ad ta (tI s_6 14 ((((6 : Int32) * p0) + p1).toNatClampNeg) ((s_6.2.1 14 (((6 : Int32) * p0) + p1).toNatClampNeg) + (((((r_1).toInt64 * ((p2 + (1 : Int32))).toInt64) / (p3).toInt64) - (((r_1).toInt64 * (p2).toInt64) / (p3).toInt64))).toInt32))) H := hP
    refine lv_iconst (v := (0 : Int32)) hx hb d_R_goPart_85 (by decide) ?_
    refine lv_istore (lv' := [(9, .int (0 : Int32)), (8, .int ((((((r_1).toInt64 * ((p2 + (1 : Int32))).toInt64) / (p3).toInt64) - (((r_1).toInt64 * (p2).toInt64) / (p3).toInt64))).toInt32)), (6, .long ((r_1).toInt64)), (5, .int (((6 : Int32) * p0) + p1)), (0, .ref (ad 0)), (1, .int p0), (2, .int p1), (3, .int p2), (4, .int p3)]) hx hb d_R_goPart_86 hl (by decide) rfl (fun ls hl => ?_)
    exact mw_R_goPart_88 CX hd _ _ _ _ _ _ _ _ _ _ _ hf _ _ hP hS _ (lv_sub hl [4, 5, 6, 7, 8, 3, 2, 1, 0] rfl)
  · replace hf := ti_pos hc hf
    refine lv_aload_n hx hb d_R_goPart_61 rfl (lv_at hl 3 rfl) ?_
    refine lv_dup hx hb d_R_goPart_62 rfl ?_
    refine va_get (ci := 8) (v := .int (s_6.1 5)) (C := R_R) (T := F_R) (N := 32) hx hb ht iw_R hown hK hP 0 rfl rfl 23 (by decide) (ht _ wd_700) (fun _ h9 => h9) rfl d_R_goPart_63 ?_
    refine lv_iload hx hb d_R_goPart_66 (lv_at hl 0 rfl) ?_
    refine lv_iadd hx hb d_R_goPart_68 ?_
    refine va_put (ci := 8) (v := .int ((s_6.1 5) + (((((r_1).toInt64 * ((p2 + (1 : Int32))).toInt64) / (p3).toInt64) - (((r_1).toInt64 * (p2).toInt64) / (p3).toInt64))).toInt32)) (ty := .int) (C := R_R) (T := F_R) (N := 32) hx hb ht iw_R ft_R to_R nm_R hown hK hP (cwR_D hd) hS 0 rfl rfl 23 (by decide) (ht _ wd_700) (fun _ h9 => h9) rfl (by decide +kernel) rfl rfl (Nat.le_of_ble_eq_true rfl) d_R_goPart_69 (fun H locs hP _ hS => ?_)
    replace hP : va_P D clS (cwR ad ta (tF s_6 5 ((s_6.1 5) + (((((r_1).toInt64 * ((p2 + (1 : Int32))).toInt64) / (p3).toInt64) - (((r_1).toInt64 * (p2).toInt64) / (p3).toInt64))).toInt32))) H := hP
    obtain rfl := ts_of hf
    exact W.vret hx hb hr (fun t ht hW => ⟨rfl, by rw [ht]; exact hP, hS.F ht⟩) hS.2.2 d_R_goPart_72
abbrev rm_R_assignAll : Room := { frames := 3, cells := 0, slots := 0, locals := 84 }
set_option maxHeartbeats 4000000 in
set_option maxRecDepth 100000 in
theorem mw_R_assignAll_98 {p : Program} {l : Launch} {e : Env} {s : State} {m : MethodId} {args : Array Value} {below : List Frame} {meth : Method} {c : Code} {D : va_G} {ad : Nat → Nat} {ta : Nat → ClassId} {Q : State → Prop} (CX : tC p s m args meth c b_R_assignAll none 5 R_R D clS (tyR ta)) (hd : tD 26 ad) : ∀ (k : Nat) (v1 : Int32) (v2 : Int32) (v3 : Int32) (v4 : Int32) (σ : tS) (res : (Int32 × Int32 × Int32 × Int32 × tS)), ml_R_assignAll_98 k v1 v2 v3 v4 σ = some res → ∀ (H : Heap) (locs : List Loc), va_P D clS (cwR ad ta σ) H → va_S (tA 26 ad) s.heap H locs → ∀ (ls : Array Slot), lv_has ls 5 [(0, .ref (ad 0)), (1, .int v1), (2, .int v2), (3, .int v3), (4, .int v4)] → (∀ (H : Heap) (locs : List Loc), va_P D clS (cwR ad ta res.2.2.2.2) H → va_S (tA 26 ad) s.heap H locs → ∀ (ls : Array Slot), lv_has ls 5 [(0, .ref (ad 0)), (1, .int res.1), (2, .int res.2.1), (3, .int res.2.2.1), (4, .int res.2.2.2.1)] → W p l e rm_R_assignAll s m args below meth c H locs 0 0 Q (F0 m 128 ls [])) → W p l e rm_R_assignAll s m args below meth c H locs 0 0 Q (F0 m 98 ls []) := by
  obtain ⟨hx, hb, hr, hml, hown, ht, hlocks, hK, hN⟩ := id CX
  intro k
  induction k with
  | zero =>
    intro v1 v2 v3 v4 σ res hf
    exact tn_no hf
  | succ k ih =>
    intro v1 v2 v3 v4 σ res hf H locs hP hS ls hl kk
    replace hf : ms_R_assignAll_98 (ml_R_assignAll_98 k) v1 v2 v3 v4 σ = some res := hf
    unfold ms_R_assignAll_98 at hf
    refine lv_iload hx hb d_R_assignAll_98 (lv_at hl 4 rfl) ?_
    refine lv_aload_n hx hb d_R_assignAll_100 rfl (lv_at hl 0 rfl) ?_
    refine va_get (ci := 8) (v := .int (σ.1 2)) (C := R_R) (T := F_R) (N := 32) hx hb ht iw_R hown hK hP 0 rfl rfl 2 (by decide) (ht _ wd_679) (fun _ h9 => h9) rfl d_R_assignAll_101 ?_
    refine lv_icmp_ge (tgt := 128) hx hb d_R_assignAll_104 (by decide) (fun hc => ?_) (fun hc => ?_)
    · replace hf := ti_pos hc hf
      obtain rfl := ts_of hf
      exact kk _ _ hP hS _ (lv_sub hl [0, 1, 2, 3, 4] rfl)
    · replace hf := ti_neg hc hf
      refine lv_iload_n hx hb d_R_assignAll_107 rfl (lv_at hl 3 rfl) ?_
      refine lv_iload hx hb d_R_assignAll_108 (lv_at hl 4 rfl) ?_
      refine lv_icmp_eq (tgt := 122) hx hb d_R_assignAll_110 (by decide) (fun hc => ?_) (fun hc => ?_)
      · replace hf := ti_pos hc hf
        refine lv_iinc (v := (v4 + (1 : Int32))) (lv' := [(4, .int (v4 + (1 : Int32))), (0, .ref (ad 0)), (1, .int v1), (2, .int v2), (3, .int v3)]) hx hb d_R_assignAll_122 hl (k := 4) rfl rfl (by decide) rfl (fun ls hl => ?_)
        refine lv_goto (tgt := 98) hx hb d_R_assignAll_125 (by decide) ?_
        exact ih _ _ _ _ _ _ hf _ _ hP hS _ (lv_sub hl [1, 2, 3, 4, 0] rfl) kk
      · replace hf := ti_neg hc hf
        refine lv_aload_n hx hb d_R_assignAll_113 rfl (lv_at hl 0 rfl) ?_
        refine lv_iload_n hx hb d_R_assignAll_114 rfl (lv_at hl 3 rfl) ?_
        refine lv_iload hx hb d_R_assignAll_115 (lv_at hl 4 rfl) ?_
        refine lv_iload_n hx hb d_R_assignAll_117 rfl (lv_at hl 2 rfl) ?_
        refine lv_iload_n hx hb d_R_assignAll_118 rfl (lv_at hl 1 rfl) ?_
        obtain ⟨s_2, hq2, hf⟩ := tb1_of hf
        refine tr_callv (va_runV (C := R_R) (As := [.int v3, .int v4, .int v2, .int v1]) (rest := []) ⟨hx, hb, hml, hown, ht⟩ (mc_R_goPart l hd hq2) ⟨(tw_cb (n := 4) ht wc_R_goPart wd_43 wd_889 ⟨rfl, rfl⟩ (by decide +kernel) ⟨(Nat.le_of_ble_eq_true rfl), (Nat.le_of_ble_eq_true rfl)⟩), ht _ wd_891, ht _ wd_28⟩ ⟨tP_blind, va_recv hK hP (ci := 8) (q0 := 0) rfl rfl, fun U hU hW => ⟨rfl, by rw [hU]; exact hP, va_K.moved hW.alike hK, tW_warm hW hN⟩⟩ rfl rfl hl.1 rfl (lv_room (Nat.le_of_ble_eq_true rfl)) d_R_assignAll_119 ⟨Nat.zero_le _, Nat.zero_le _⟩) hS (fun _ h => h) (fun _ h => h) (fun H locs hP hS => ?_)
        refine lv_iinc (v := (v4 + (1 : Int32))) (lv' := [(4, .int (v4 + (1 : Int32))), (0, .ref (ad 0)), (1, .int v1), (2, .int v2), (3, .int v3)]) hx hb d_R_assignAll_122 hl (k := 4) rfl rfl (by decide) rfl (fun ls hl => ?_)
        refine lv_goto (tgt := 98) hx hb d_R_assignAll_125 (by decide) ?_
        exact ih _ _ _ _ _ _ hf _ _ hP hS _ (lv_sub hl [1, 2, 3, 4, 0] rfl) kk
set_option maxHeartbeats 4000000 in
set_option maxRecDepth 100000 in
theorem mw_R_assignAll_87 {p : Program} {l : Launch} {e : Env} {s : State} {m : MethodId} {args : Array Value} {below : List Frame} {meth : Method} {c : Code} {D : va_G} {ad : Nat → Nat} {ta : Nat → ClassId} {Q : State → Prop} (CX : tC p s m args meth c b_R_assignAll none 5 R_R D clS (tyR ta)) (hd : tD 26 ad) : ∀ (k : Nat) (v1 : Int32) (v2 : Int32) (v3 : Int32) (σ : tS) (res : (Int32 × Int32 × Int32 × tS)), ml_R_assignAll_87 k v1 v2 v3 σ = some res → ∀ (H : Heap) (locs : List Loc), va_P D clS (cwR ad ta σ) H → va_S (tA 26 ad) s.heap H locs → ∀ (ls : Array Slot), lv_has ls 5 [(0, .ref (ad 0)), (1, .int v1), (2, .int v2), (3, .int v3)] → (∀ (H : Heap) (locs : List Loc), va_P D clS (cwR ad ta res.2.2.2) H → va_S (tA 26 ad) s.heap H locs → ∀ (ls : Array Slot), lv_has ls 5 [(0, .ref (ad 0)), (1, .int res.1), (2, .int res.2.1), (3, .int res.2.2.1)] → W p l e rm_R_assignAll s m args below meth c H locs 0 0 Q (F0 m 134 ls [])) → W p l e rm_R_assignAll s m args below meth c H locs 0 0 Q (F0 m 87 ls []) := by
  obtain ⟨hx, hb, hr, hml, hown, ht, hlocks, hK, hN⟩ := id CX
  intro k
  induction k with
  | zero =>
    intro v1 v2 v3 σ res hf
    exact tn_no hf
  | succ k ih =>
    intro v1 v2 v3 σ res hf H locs hP hS ls hl kk
    replace hf : ms_R_assignAll_87 (ml_R_assignAll_87 k) v1 v2 v3 σ = some res := hf
    unfold ms_R_assignAll_87 at hf
    refine lv_iload_n hx hb d_R_assignAll_87 rfl (lv_at hl 3 rfl) ?_
    refine lv_aload_n hx hb d_R_assignAll_88 rfl (lv_at hl 0 rfl) ?_
    refine va_get (ci := 8) (v := .int (σ.1 2)) (C := R_R) (T := F_R) (N := 32) hx hb ht iw_R hown hK hP 0 rfl rfl 2 (by decide) (ht _ wd_679) (fun _ h9 => h9) rfl d_R_assignAll_89 ?_
    refine lv_icmp_ge (tgt := 134) hx hb d_R_assignAll_92 (by decide) (fun hc => ?_) (fun hc => ?_)
    · replace hf := ti_pos hc hf
      obtain rfl := ts_of hf
      exact kk _ _ hP hS _ (lv_sub hl [0, 1, 2, 3] rfl)
    · replace hf := ti_neg hc hf
      refine lv_iconst (v := (0 : Int32)) hx hb d_R_assignAll_95 (by decide) ?_
      refine lv_istore (lv' := [(4, .int (0 : Int32)), (0, .ref (ad 0)), (1, .int v1), (2, .int v2), (3, .int v3)]) hx hb d_R_assignAll_96 hl (by decide) rfl (fun ls hl => ?_)
      obtain ⟨e_3, hq3, hf⟩ := tb1_of hf
      refine mw_R_assignAll_98 CX hd _ _ _ _ _ _ _ hq3 _ _ hP hS _ (lv_sub hl [1, 2, 3, 4, 0] rfl) (fun H locs hP hS ls hl => ?_)
      refine lv_iinc (v := (e_3.2.2.1 + (1 : Int32))) (lv' := [(3, .int (e_3.2.2.1 + (1 : Int32))), (0, .ref (ad 0)), (1, .int e_3.1), (2, .int e_3.2.1), (4, .int e_3.2.2.2.1)]) hx hb d_R_assignAll_128 hl (k := 3) rfl rfl (by decide) rfl (fun ls hl => ?_)
      refine lv_goto (tgt := 87) hx hb d_R_assignAll_131 (by decide) ?_
      exact ih _ _ _ _ _ hf _ _ hP hS _ (lv_sub hl [1, 2, 3, 0] rfl) kk
set_option maxHeartbeats 4000000 in
set_option maxRecDepth 100000 in
theorem mw_R_assignAll_76 {p : Program} {l : Launch} {e : Env} {s : State} {m : MethodId} {args : Array Value} {below : List Frame} {meth : Method} {c : Code} {D : va_G} {ad : Nat → Nat} {ta : Nat → ClassId} (CX : tC p s m args meth c b_R_assignAll none 5 R_R D clS (tyR ta)) (hd : tD 26 ad) : ∀ (k : Nat) (v1 : Int32) (v2 : Int32) (σ : tS) (res : tS), ml_R_assignAll_76 k v1 v2 σ = some res → ∀ (H : Heap) (locs : List Loc), va_P D clS (cwR ad ta σ) H → va_S (tA 26 ad) s.heap H locs → ∀ (ls : Array Slot), lv_has ls 5 [(0, .ref (ad 0)), (1, .int v1), (2, .int v2)] → W p l e rm_R_assignAll s m args below meth c H locs 0 0 (MQ below (tQ D clS (cwR ad ta res) none (tA 26 ad)) args s 0 0 (tA 26 ad)) (F0 m 76 ls []) := by
  obtain ⟨hx, hb, hr, hml, hown, ht, hlocks, hK, hN⟩ := id CX
  intro k
  induction k with
  | zero =>
    intro v1 v2 σ res hf
    exact tn_no hf
  | succ k ih =>
    intro v1 v2 σ res hf H locs hP hS ls hl
    replace hf : ms_R_assignAll_76 (ml_R_assignAll_76 k) v1 v2 σ = some res := hf
    unfold ms_R_assignAll_76 at hf
    refine lv_iload_n hx hb d_R_assignAll_76 rfl (lv_at hl 2 rfl) ?_
    refine lv_iload_n hx hb d_R_assignAll_77 rfl (lv_at hl 1 rfl) ?_
    refine lv_icmp_ge (tgt := 140) hx hb d_R_assignAll_78 (by decide) (fun hc => ?_) (fun hc => ?_)
    · replace hf := ti_pos hc hf
      obtain rfl := ts_of hf
      exact W.vret hx hb hr (fun t ht hW => ⟨rfl, by rw [ht]; exact hP, hS.F ht⟩) hS.2.2 d_R_assignAll_140
    · replace hf := ti_neg hc hf
      refine lv_aload_n hx hb d_R_assignAll_81 rfl (lv_at hl 0 rfl) ?_
      obtain ⟨s_1, hq1, hf⟩ := tb1_of hf
      refine tr_callv (va_runV (C := R_R) (As := []) (rest := []) ⟨hx, hb, hml, hown, ht⟩ (mc_R_takeTimes l hd hq1) ⟨(tw_cb (n := 0) ht wc_R_takeTimes wd_43 wd_881 ⟨rfl, rfl⟩ (by decide +kernel) ⟨(Nat.le_of_ble_eq_true rfl), (Nat.le_of_ble_eq_true rfl)⟩), ht _ wd_883, ht _ wd_26⟩ ⟨tP_blind, va_recv hK hP (ci := 8) (q0 := 0) rfl rfl, fun U hU hW => ⟨rfl, by rw [hU]; exact hP, va_K.moved hW.alike hK, tW_warm hW hN⟩⟩ rfl rfl hl.1 rfl (lv_room (Nat.le_of_ble_eq_true rfl)) d_R_assignAll_82 ⟨Nat.zero_le _, Nat.zero_le _⟩) hS (fun _ h => h) (fun _ h => h) (fun H locs hP hS => ?_)
      refine lv_iconst (v := (0 : Int32)) hx hb d_R_assignAll_85 (by decide) ?_
      refine lv_istore_n (lv' := [(3, .int (0 : Int32)), (0, .ref (ad 0)), (1, .int v1), (2, .int v2)]) hx hb d_R_assignAll_86 rfl hl (by decide) rfl (fun ls hl => ?_)
      obtain ⟨e_4, hq4, hf⟩ := tb1_of hf
      refine mw_R_assignAll_87 CX hd _ _ _ _ _ _ hq4 _ _ hP hS _ (lv_sub hl [1, 2, 3, 0] rfl) (fun H locs hP hS ls hl => ?_)
      refine lv_iinc (v := (e_4.2.1 + (1 : Int32))) (lv' := [(2, .int (e_4.2.1 + (1 : Int32))), (0, .ref (ad 0)), (1, .int e_4.1), (3, .int e_4.2.2.1)]) hx hb d_R_assignAll_134 hl (k := 2) rfl rfl (by decide) rfl (fun ls hl => ?_)
      refine lv_goto (tgt := 76) hx hb d_R_assignAll_137 (by decide) ?_
      exact ih _ _ _ _ hf _ _ hP hS _ (lv_sub hl [1, 2, 0] rfl)
set_option maxHeartbeats 4000000 in
set_option maxRecDepth 100000 in
theorem mw_R_assignAll_55 {p : Program} {l : Launch} {e : Env} {s : State} {m : MethodId} {args : Array Value} {below : List Frame} {meth : Method} {c : Code} {D : va_G} {ad : Nat → Nat} {ta : Nat → ClassId} (CX : tC p s m args meth c b_R_assignAll none 5 R_R D clS (tyR ta)) (hd : tD 26 ad) : ∀ (k : Nat) (v1 : Int32) (v2 : Int32) (σ : tS) (res : tS), ml_R_assignAll_55 k v1 v2 σ = some res → ∀ (H : Heap) (locs : List Loc), va_P D clS (cwR ad ta σ) H → va_S (tA 26 ad) s.heap H locs → ∀ (ls : Array Slot), lv_has ls 5 [(0, .ref (ad 0)), (1, .int v1), (2, .int v2)] → W p l e rm_R_assignAll s m args below meth c H locs 0 0 (MQ below (tQ D clS (cwR ad ta res) none (tA 26 ad)) args s 0 0 (tA 26 ad)) (F0 m 55 ls []) := by
  obtain ⟨hx, hb, hr, hml, hown, ht, hlocks, hK, hN⟩ := id CX
  intro k
  induction k with
  | zero =>
    intro v1 v2 σ res hf
    exact tn_no hf
  | succ k ih =>
    intro v1 v2 σ res hf H locs hP hS ls hl
    replace hf : ms_R_assignAll_55 (ml_R_assignAll_55 k) v1 v2 σ = some res := hf
    unfold ms_R_assignAll_55 at hf
    refine lv_iload_n hx hb d_R_assignAll_55 rfl (lv_at hl 2 rfl) ?_
    refine lv_bipush (v := (36 : Int32)) hx hb d_R_assignAll_56 (by decide) ?_
    refine lv_icmp_ge (tgt := 74) hx hb d_R_assignAll_58 (by decide) (fun hc => ?_) (fun hc => ?_)
    · replace hf := ti_pos hc hf
      refine lv_iconst (v := (0 : Int32)) hx hb d_R_assignAll_74 (by decide) ?_
      refine lv_istore_n (lv' := [(2, .int (0 : Int32)), (0, .ref (ad 0)), (1, .int v1)]) hx hb d_R_assignAll_75 rfl hl (by decide) rfl (fun ls hl => ?_)
      exact mw_R_assignAll_76 CX hd _ _ _ _ _ hf _ _ hP hS _ (lv_sub hl [1, 2, 0] rfl)
    · replace hf := ti_neg hc hf
      refine lv_aload_n hx hb d_R_assignAll_61 rfl (lv_at hl 0 rfl) ?_
      refine va_get (ci := 8) (v := .ref (ad 16)) (C := R_R) (T := F_R) (N := 32) hx hb ht iw_R hown hK hP 0 rfl rfl 19 (by decide) (ht _ wd_696) (fun _ h9 => h9) rfl d_R_assignAll_62 ?_
      refine lv_iload_n hx hb d_R_assignAll_65 rfl (lv_at hl 2 rfl) ?_
      refine lv_iconst (v := (0 : Int32)) hx hb d_R_assignAll_66 (by decide) ?_
      obtain ⟨hi5, hf⟩ := tg_of hf
      refine va_iast (f := σ.2.1 14) hx hb hK hP (cwR_D hd) hS 16 15 rfl rfl hi5 d_R_assignAll_67 (fun H locs hP _ hS => ?_)
      replace hP : va_P D clS (cwR ad ta (tI σ 14 v2.toNatClampNeg (0 : Int32))) H := hP
      refine lv_iinc (v := (v2 + (1 : Int32))) (lv' := [(2, .int (v2 + (1 : Int32))), (0, .ref (ad 0)), (1, .int v1)]) hx hb d_R_assignAll_68 hl (k := 2) rfl rfl (by decide) rfl (fun ls hl => ?_)
      refine lv_goto (tgt := 55) hx hb d_R_assignAll_71 (by decide) ?_
      exact ih _ _ _ _ hf _ _ hP hS _ (lv_sub hl [1, 2, 0] rfl)
set_option maxHeartbeats 4000000 in
set_option maxRecDepth 100000 in
theorem mw_R_assignAll_33 {p : Program} {l : Launch} {e : Env} {s : State} {m : MethodId} {args : Array Value} {below : List Frame} {meth : Method} {c : Code} {D : va_G} {ad : Nat → Nat} {ta : Nat → ClassId} (CX : tC p s m args meth c b_R_assignAll none 5 R_R D clS (tyR ta)) (hd : tD 26 ad) : ∀ (k : Nat) (v1 : Int32) (v2 : Int32) (σ : tS) (res : tS), ml_R_assignAll_33 k v1 v2 σ = some res → ∀ (H : Heap) (locs : List Loc), va_P D clS (cwR ad ta σ) H → va_S (tA 26 ad) s.heap H locs → ∀ (ls : Array Slot), lv_has ls 5 [(0, .ref (ad 0)), (1, .int v1), (2, .int v2)] → W p l e rm_R_assignAll s m args below meth c H locs 0 0 (MQ below (tQ D clS (cwR ad ta res) none (tA 26 ad)) args s 0 0 (tA 26 ad)) (F0 m 33 ls []) := by
  obtain ⟨hx, hb, hr, hml, hown, ht, hlocks, hK, hN⟩ := id CX
  intro k
  induction k with
  | zero =>
    intro v1 v2 σ res hf
    exact tn_no hf
  | succ k ih =>
    intro v1 v2 σ res hf H locs hP hS ls hl
    replace hf : ms_R_assignAll_33 (ml_R_assignAll_33 k) v1 v2 σ = some res := hf
    unfold ms_R_assignAll_33 at hf
    refine lv_iload_n hx hb d_R_assignAll_33 rfl (lv_at hl 2 rfl) ?_
    refine lv_sipush (v := (1440 : Int32)) hx hb d_R_assignAll_34 (by decide) ?_
    refine lv_icmp_ge (tgt := 53) hx hb d_R_assignAll_37 (by decide) (fun hc => ?_) (fun hc => ?_)
    · replace hf := ti_pos hc hf
      refine lv_iconst (v := (0 : Int32)) hx hb d_R_assignAll_53 (by decide) ?_
      refine lv_istore_n (lv' := [(2, .int (0 : Int32)), (0, .ref (ad 0)), (1, .int v1)]) hx hb d_R_assignAll_54 rfl hl (by decide) rfl (fun ls hl => ?_)
      exact mw_R_assignAll_55 CX hd _ _ _ _ _ hf _ _ hP hS _ (lv_sub hl [1, 2, 0] rfl)
    · replace hf := ti_neg hc hf
      refine lv_aload_n hx hb d_R_assignAll_40 rfl (lv_at hl 0 rfl) ?_
      refine va_get (ci := 8) (v := .ref (ad 17)) (C := R_R) (T := F_R) (N := 32) hx hb ht iw_R hown hK hP 0 rfl rfl 20 (by decide) (ht _ wd_697) (fun _ h9 => h9) rfl d_R_assignAll_41 ?_
      refine lv_iload_n hx hb d_R_assignAll_44 rfl (lv_at hl 2 rfl) ?_
      refine lv_iconst (v := (0 : Int32)) hx hb d_R_assignAll_45 (by decide) ?_
      obtain ⟨hi6, hf⟩ := tg_of hf
      refine va_iast (f := σ.2.1 15) hx hb hK hP (cwR_D hd) hS 17 16 rfl rfl hi6 d_R_assignAll_46 (fun H locs hP _ hS => ?_)
      replace hP : va_P D clS (cwR ad ta (tI σ 15 v2.toNatClampNeg (0 : Int32))) H := hP
      refine lv_iinc (v := (v2 + (1 : Int32))) (lv' := [(2, .int (v2 + (1 : Int32))), (0, .ref (ad 0)), (1, .int v1)]) hx hb d_R_assignAll_47 hl (k := 2) rfl rfl (by decide) rfl (fun ls hl => ?_)
      refine lv_goto (tgt := 33) hx hb d_R_assignAll_50 (by decide) ?_
      exact ih _ _ _ _ hf _ _ hP hS _ (lv_sub hl [1, 2, 0] rfl)
set_option maxHeartbeats 4000000 in
set_option maxRecDepth 100000 in
theorem mw_R_assignAll_12 {p : Program} {l : Launch} {e : Env} {s : State} {m : MethodId} {args : Array Value} {below : List Frame} {meth : Method} {c : Code} {D : va_G} {ad : Nat → Nat} {ta : Nat → ClassId} (CX : tC p s m args meth c b_R_assignAll none 5 R_R D clS (tyR ta)) (hd : tD 26 ad) : ∀ (k : Nat) (v1 : Int32) (v2 : Int32) (σ : tS) (res : tS), ml_R_assignAll_12 k v1 v2 σ = some res → ∀ (H : Heap) (locs : List Loc), va_P D clS (cwR ad ta σ) H → va_S (tA 26 ad) s.heap H locs → ∀ (ls : Array Slot), lv_has ls 5 [(0, .ref (ad 0)), (1, .int v1), (2, .int v2)] → W p l e rm_R_assignAll s m args below meth c H locs 0 0 (MQ below (tQ D clS (cwR ad ta res) none (tA 26 ad)) args s 0 0 (tA 26 ad)) (F0 m 12 ls []) := by
  obtain ⟨hx, hb, hr, hml, hown, ht, hlocks, hK, hN⟩ := id CX
  intro k
  induction k with
  | zero =>
    intro v1 v2 σ res hf
    exact tn_no hf
  | succ k ih =>
    intro v1 v2 σ res hf H locs hP hS ls hl
    replace hf : ms_R_assignAll_12 (ml_R_assignAll_12 k) v1 v2 σ = some res := hf
    unfold ms_R_assignAll_12 at hf
    refine lv_iload_n hx hb d_R_assignAll_12 rfl (lv_at hl 2 rfl) ?_
    refine lv_bipush (v := (40 : Int32)) hx hb d_R_assignAll_13 (by decide) ?_
    refine lv_icmp_ge (tgt := 31) hx hb d_R_assignAll_15 (by decide) (fun hc => ?_) (fun hc => ?_)
    · replace hf := ti_pos hc hf
      refine lv_iconst (v := (0 : Int32)) hx hb d_R_assignAll_31 (by decide) ?_
      refine lv_istore_n (lv' := [(2, .int (0 : Int32)), (0, .ref (ad 0)), (1, .int v1)]) hx hb d_R_assignAll_32 rfl hl (by decide) rfl (fun ls hl => ?_)
      exact mw_R_assignAll_33 CX hd _ _ _ _ _ hf _ _ hP hS _ (lv_sub hl [1, 2, 0] rfl)
    · replace hf := ti_neg hc hf
      refine lv_aload_n hx hb d_R_assignAll_18 rfl (lv_at hl 0 rfl) ?_
      refine va_get (ci := 8) (v := .ref (ad 12)) (C := R_R) (T := F_R) (N := 32) hx hb ht iw_R hown hK hP 0 rfl rfl 15 (by decide) (ht _ wd_692) (fun _ h9 => h9) rfl d_R_assignAll_19 ?_
      refine lv_iload_n hx hb d_R_assignAll_22 rfl (lv_at hl 2 rfl) ?_
      refine lv_lconst (v := (0 : Int64)) hx hb d_R_assignAll_23 (by decide) ?_
      obtain ⟨hi7, hf⟩ := tg_of hf
      refine va_last (f := σ.2.2 0) hx hb hK hP (cwR_D hd) hS 12 11 rfl rfl hi7 d_R_assignAll_24 (fun H locs hP _ hS => ?_)
      replace hP : va_P D clS (cwR ad ta (tJ σ 0 v2.toNatClampNeg (0 : Int64))) H := hP
      refine lv_iinc (v := (v2 + (1 : Int32))) (lv' := [(2, .int (v2 + (1 : Int32))), (0, .ref (ad 0)), (1, .int v1)]) hx hb d_R_assignAll_25 hl (k := 2) rfl rfl (by decide) rfl (fun ls hl => ?_)
      refine lv_goto (tgt := 12) hx hb d_R_assignAll_28 (by decide) ?_
      exact ih _ _ _ _ hf _ _ hP hS _ (lv_sub hl [1, 2, 0] rfl)
set_option maxHeartbeats 4000000 in
set_option maxRecDepth 100000 in
theorem mc_R_assignAll (l : Launch) {D : va_G} {ad : Nat → Nat} {ta : Nat → ClassId} (hd : tD 26 ad) {σ σ' : tS} {p0 : Int32} (hf : mf_R_assignAll p0 σ = some σ') : Met l y_R_assignAll (.code y_R_assignAll b_R_assignAll 5 none :: tw) rm_R_assignAll (tP D clS (tyR ta) (cwR ad ta σ) [.ref (ad 0), .int p0]) (tQ D clS (cwR ad ta σ') none (tA 26 ad)) 0 0 (tA 26 ad) := by
  refine Met.ofW (cc := b_R_assignAll) (maxL := 5) (ret := none) (by decide) rfl ?_
  intro p e s m args below meth c s₁ B hml hv
  obtain ⟨rfl, hP, hK, hN⟩ := hv
  have hx := B.exec
  have hb := B.bytes
  have hr := B.returns
  have ht : ∀ w ∈ tw, w.before [.ref (ad 0), .int p0].toArray s = true := fun w h => atoms_spec (ws := (.code y_R_assignAll b_R_assignAll 5 none :: tw)) B.pre w (List.mem_cons_of_mem _ h)
  have hown : s.vm.findClass R_R = some m.cls := findClass_of_methodNamed B.named
  have hlocks := B.notSynchronized
  have CX : tC p s m [.ref (ad 0), .int p0].toArray meth c b_R_assignAll none 5 R_R D clS (tyR ta) := ⟨hx, hb, hr, hml, hown, ht, hlocks, hK, hN⟩
  have hS : va_S (tA 26 ad) s.heap s.heap [] := va_S.rf
  have hl := lv_entry ([.ref (ad 0), .int p0]) (n := 5) (Nat.le_of_ble_eq_true rfl)
  rw [lg_entry_eq]
  generalize (lg_sl ([.ref (ad 0), .int p0]) ++ List.replicate (5 - (lg_sl ([.ref (ad 0), .int p0])).length) Slot.unset).toArray = ls at hl ⊢
  replace hl : lv_has ls 5 [(0, .ref (ad 0)), (1, .int p0)] := hl
  unfold mf_R_assignAll at hf
  refine lv_aload_n hx hb d_R_assignAll_0 rfl (lv_at hl 0 rfl) ?_
  refine lv_iload_n hx hb d_R_assignAll_1 rfl (lv_at hl 1 rfl) ?_
  refine va_put (ci := 8) (v := .int p0) (ty := .int) (C := R_R) (T := F_R) (N := 32) hx hb ht iw_R ft_R to_R nm_R hown hK hP (cwR_D hd) hS 0 rfl rfl 22 (by decide) (ht _ wd_699) (fun _ h9 => h9) rfl (by decide +kernel) rfl rfl (Nat.le_of_ble_eq_true rfl) d_R_assignAll_2 (fun H locs hP _ hS => ?_)
  replace hP : va_P D clS (cwR ad ta (tF σ 4 p0)) H := hP
  refine lv_aload_n hx hb d_R_assignAll_5 rfl (lv_at hl 0 rfl) ?_
  refine lv_iconst (v := (0 : Int32)) hx hb d_R_assignAll_6 (by decide) ?_
  refine va_put (ci := 8) (v := .int (0 : Int32)) (ty := .int) (C := R_R) (T := F_R) (N := 32) hx hb ht iw_R ft_R to_R nm_R hown hK hP (cwR_D hd) hS 0 rfl rfl 23 (by decide) (ht _ wd_700) (fun _ h9 => h9) rfl (by decide +kernel) rfl rfl (Nat.le_of_ble_eq_true rfl) d_R_assignAll_7 (fun H locs hP _ hS => ?_)
  replace hP : va_P D clS (cwR ad ta (tF (tF σ 4 p0) 5 (0 : Int32))) H := hP
  refine lv_iconst (v := (0 : Int32)) hx hb d_R_assignAll_10 (by decide) ?_
  refine lv_istore_n (lv' := [(2, .int (0 : Int32)), (0, .ref (ad 0)), (1, .int p0)]) hx hb d_R_assignAll_11 rfl hl (by decide) rfl (fun ls hl => ?_)
  exact mw_R_assignAll_12 CX hd _ _ _ _ _ hf _ _ hP hS _ (lv_sub hl [1, 2, 0] rfl)
abbrev rm_R_assign : Room := { frames := 4, cells := 0, slots := 0, locals := 108 }
set_option maxHeartbeats 4000000 in
set_option maxRecDepth 100000 in
theorem mc_R_assign (l : Launch) {D : va_G} {ad : Nat → Nat} {ta : Nat → ClassId} (hd : tD 26 ad) {σ σ' : tS} {p0 : Int32} {r : Int32} (hf : mf_R_assign p0 σ = some (r, σ')) : Met l y_R_assign (.code y_R_assign b_R_assign 2 (some .int) :: tw) rm_R_assign (tP D clS (tyR ta) (cwR ad ta σ) [.ref (ad 0), .int p0]) (tQ D clS (cwR ad ta σ') (some (.int r)) (tA 26 ad)) 0 0 (tA 26 ad) := by
  refine Met.ofW (cc := b_R_assign) (maxL := 2) (ret := (some .int)) (by decide) rfl ?_
  intro p e s m args below meth c s₁ B hml hv
  obtain ⟨rfl, hP, hK, hN⟩ := hv
  have hx := B.exec
  have hb := B.bytes
  have hr := B.returns
  have ht : ∀ w ∈ tw, w.before [.ref (ad 0), .int p0].toArray s = true := fun w h => atoms_spec (ws := (.code y_R_assign b_R_assign 2 (some .int) :: tw)) B.pre w (List.mem_cons_of_mem _ h)
  have hown : s.vm.findClass R_R = some m.cls := findClass_of_methodNamed B.named
  have hlocks := B.notSynchronized
  have CX : tC p s m [.ref (ad 0), .int p0].toArray meth c b_R_assign (some .int) 2 R_R D clS (tyR ta) := ⟨hx, hb, hr, hml, hown, ht, hlocks, hK, hN⟩
  have hS : va_S (tA 26 ad) s.heap s.heap [] := va_S.rf
  have hl := lv_entry ([.ref (ad 0), .int p0]) (n := 2) (Nat.le_of_ble_eq_true rfl)
  rw [lg_entry_eq]
  generalize (lg_sl ([.ref (ad 0), .int p0]) ++ List.replicate (2 - (lg_sl ([.ref (ad 0), .int p0])).length) Slot.unset).toArray = ls at hl ⊢
  replace hl : lv_has ls 2 [(0, .ref (ad 0)), (1, .int p0)] := hl
  unfold mf_R_assign at hf
  refine lv_aload_n hx hb d_R_assign_0 rfl (lv_at hl 0 rfl) ?_
  refine lv_iload_n hx hb d_R_assign_1 rfl (lv_at hl 1 rfl) ?_
  refine lv_iconst (v := (1 : Int32)) hx hb d_R_assign_2 (by decide) ?_
  refine lv_bipush (v := (8 : Int32)) hx hb d_R_assign_3 (by decide) ?_
  obtain ⟨r_1, s_1, hq1, hf⟩ := tb2_of hf
  refine tr_calli (va_runS (As := [.int p0, .int (1 : Int32), .int (8 : Int32)]) (rest := [.ref (ad 0)]) ⟨hx, hb, hml, hown, ht⟩ (mc_R_isIn l hd hq1) ⟨(tw_cb (n := 3) ht wc_R_isIn wd_43 wd_790 ⟨rfl, rfl⟩ (by decide +kernel) ⟨(Nat.le_of_ble_eq_true rfl), (Nat.le_of_ble_eq_true rfl)⟩), ht _ wd_791⟩ ⟨tP_blind, fun U hU hW => ⟨rfl, by rw [hU]; exact hP, va_K.moved hW.alike hK, tW_warm hW hN⟩⟩ rfl rfl hl.1 rfl (lv_room (Nat.le_of_ble_eq_true rfl)) d_R_assign_5 ⟨Nat.zero_le _, Nat.zero_le _⟩) hS (fun _ h => h.elim) (fun _ h => h.elim) (fun H locs hP hS => ?_)
  refine lv_if_eq (tgt := 15) hx hb d_R_assign_8 (by decide) (fun hc => ?_) (fun hc => ?_)
  · replace hf := ti_pos hc hf
    refine lv_iconst (v := (1 : Int32)) hx hb d_R_assign_15 (by decide) ?_
    refine va_put (ci := 8) (v := .int (1 : Int32)) (ty := .int) (C := R_R) (T := F_R) (N := 32) hx hb ht iw_R ft_R to_R nm_R hown hK hP (cwR_D hd) hS 0 rfl rfl 0 (by decide) (ht _ wd_677) (fun _ h9 => h9) rfl (by decide +kernel) rfl rfl (Nat.le_of_ble_eq_true rfl) d_R_assign_16 (fun H locs hP _ hS => ?_)
    replace hP : va_P D clS (cwR ad ta (tF s_1 0 (1 : Int32))) H := hP
    refine lv_aload_n hx hb d_R_assign_19 rfl (lv_at hl 0 rfl) ?_
    refine va_get (ci := 8) (v := .int (1 : Int32)) (C := R_R) (T := F_R) (N := 32) hx hb ht iw_R hown hK hP 0 rfl rfl 0 (by decide) (ht _ wd_677) (fun _ h9 => h9) rfl d_R_assign_20 ?_
    refine lv_if_le (tgt := 28) hx hb d_R_assign_23 (by decide) (fun hc => ?_) (fun hc => ?_)
    · replace hf := ti_pos hc hf
      refine lv_aload_n hx hb d_R_assign_28 rfl (lv_at hl 0 rfl) ?_
      refine lv_iload_n hx hb d_R_assign_29 rfl (lv_at hl 1 rfl) ?_
      obtain ⟨s_2, hq2, hf⟩ := tb1_of hf
      refine tr_callv (va_runV (C := R_R) (As := [.int p0]) (rest := []) ⟨hx, hb, hml, hown, ht⟩ (mc_R_assignAll l hd hq2) ⟨(tw_cb (n := 1) ht wc_R_assignAll wd_43 wd_877 ⟨rfl, rfl⟩ (by decide +kernel) ⟨(Nat.le_of_ble_eq_true rfl), (Nat.le_of_ble_eq_true rfl)⟩), ht _ wd_879, ht _ wd_25⟩ ⟨tP_blind, va_recv hK hP (ci := 8) (q0 := 0) rfl rfl, fun U hU hW => ⟨rfl, by rw [hU]; exact hP, va_K.moved hW.alike hK, tW_warm hW hN⟩⟩ rfl rfl hl.1 rfl (lv_room (Nat.le_of_ble_eq_true rfl)) d_R_assign_30 ⟨Nat.zero_le _, Nat.zero_le _⟩) hS (fun _ h => h) (fun _ h => h) (fun H locs hP hS => ?_)
      refine lv_aload_n hx hb d_R_assign_33 rfl (lv_at hl 0 rfl) ?_
      refine va_get (ci := 8) (v := .int (s_2.1 5)) (C := R_R) (T := F_R) (N := 32) hx hb ht iw_R hown hK hP 0 rfl rfl 23 (by decide) (ht _ wd_700) (fun _ h9 => h9) rfl d_R_assign_34 ?_
      obtain ⟨rfl, rfl⟩ := tp_of hf
      exact W.iret (v := (s_2.1 5)) hx hb hr (fun t ht hW => ⟨rfl, by rw [ht]; exact hP, hS.F ht⟩) hS.2.2 d_R_assign_37
    · replace hf := ti_neg hc hf
      refine lv_iconst (v := (0 : Int32)) hx hb d_R_assign_26 (by decide) ?_
      obtain ⟨rfl, rfl⟩ := tp_of hf
      exact W.iret (v := (0 : Int32)) hx hb hr (fun t ht hW => ⟨rfl, by rw [ht]; exact hP, hS.F ht⟩) hS.2.2 d_R_assign_27
  · replace hf := ti_neg hc hf
    refine lv_iconst (v := (0 : Int32)) hx hb d_R_assign_11 (by decide) ?_
    refine lv_goto (tgt := 16) hx hb d_R_assign_12 (by decide) ?_
    refine va_put (ci := 8) (v := .int (0 : Int32)) (ty := .int) (C := R_R) (T := F_R) (N := 32) hx hb ht iw_R ft_R to_R nm_R hown hK hP (cwR_D hd) hS 0 rfl rfl 0 (by decide) (ht _ wd_677) (fun _ h9 => h9) rfl (by decide +kernel) rfl rfl (Nat.le_of_ble_eq_true rfl) d_R_assign_16 (fun H locs hP _ hS => ?_)
    replace hP : va_P D clS (cwR ad ta (tF s_1 0 (0 : Int32))) H := hP
    refine lv_aload_n hx hb d_R_assign_19 rfl (lv_at hl 0 rfl) ?_
    refine va_get (ci := 8) (v := .int (0 : Int32)) (C := R_R) (T := F_R) (N := 32) hx hb ht iw_R hown hK hP 0 rfl rfl 0 (by decide) (ht _ wd_677) (fun _ h9 => h9) rfl d_R_assign_20 ?_
    refine lv_if_le (tgt := 28) hx hb d_R_assign_23 (by decide) (fun hc => ?_) (fun hc => ?_)
    · replace hf := ti_pos hc hf
      refine lv_aload_n hx hb d_R_assign_28 rfl (lv_at hl 0 rfl) ?_
      refine lv_iload_n hx hb d_R_assign_29 rfl (lv_at hl 1 rfl) ?_
      obtain ⟨s_3, hq3, hf⟩ := tb1_of hf
      refine tr_callv (va_runV (C := R_R) (As := [.int p0]) (rest := []) ⟨hx, hb, hml, hown, ht⟩ (mc_R_assignAll l hd hq3) ⟨(tw_cb (n := 1) ht wc_R_assignAll wd_43 wd_877 ⟨rfl, rfl⟩ (by decide +kernel) ⟨(Nat.le_of_ble_eq_true rfl), (Nat.le_of_ble_eq_true rfl)⟩), ht _ wd_879, ht _ wd_25⟩ ⟨tP_blind, va_recv hK hP (ci := 8) (q0 := 0) rfl rfl, fun U hU hW => ⟨rfl, by rw [hU]; exact hP, va_K.moved hW.alike hK, tW_warm hW hN⟩⟩ rfl rfl hl.1 rfl (lv_room (Nat.le_of_ble_eq_true rfl)) d_R_assign_30 ⟨Nat.zero_le _, Nat.zero_le _⟩) hS (fun _ h => h) (fun _ h => h) (fun H locs hP hS => ?_)
      refine lv_aload_n hx hb d_R_assign_33 rfl (lv_at hl 0 rfl) ?_
      refine va_get (ci := 8) (v := .int (s_3.1 5)) (C := R_R) (T := F_R) (N := 32) hx hb ht iw_R hown hK hP 0 rfl rfl 23 (by decide) (ht _ wd_700) (fun _ h9 => h9) rfl d_R_assign_34 ?_
      obtain ⟨rfl, rfl⟩ := tp_of hf
      exact W.iret (v := (s_3.1 5)) hx hb hr (fun t ht hW => ⟨rfl, by rw [ht]; exact hP, hS.F ht⟩) hS.2.2 d_R_assign_37
    · replace hf := ti_neg hc hf
      refine lv_iconst (v := (0 : Int32)) hx hb d_R_assign_26 (by decide) ?_
      obtain ⟨rfl, rfl⟩ := tp_of hf
      exact W.iret (v := (0 : Int32)) hx hb hr (fun t ht hW => ⟨rfl, by rw [ht]; exact hP, hS.F ht⟩) hS.2.2 d_R_assign_27
abbrev rm_R_flow : Room := { frames := 2, cells := 0, slots := 0, locals := 43 }
set_option maxHeartbeats 4000000 in
set_option maxRecDepth 100000 in
theorem mc_R_flow (l : Launch) {D : va_G} {ad : Nat → Nat} {ta : Nat → ClassId} (hd : tD 26 ad) {σ σ' : tS} {p0 : Int32} {p1 : Int32} {r : Int32} (hf : mf_R_flow p0 p1 σ = some (r, σ')) : Met l y_R_flow (.code y_R_flow b_R_flow 3 (some .int) :: tw) rm_R_flow (tP D clS (tyR ta) (cwR ad ta σ) [.ref (ad 0), .int p0, .int p1]) (tQ D clS (cwR ad ta σ') (some (.int r)) (tA 26 ad)) 0 0 (tA 26 ad) := by
  refine Met.ofW (cc := b_R_flow) (maxL := 3) (ret := (some .int)) (by decide) rfl ?_
  intro p e s m args below meth c s₁ B hml hv
  obtain ⟨rfl, hP, hK, hN⟩ := hv
  have hx := B.exec
  have hb := B.bytes
  have hr := B.returns
  have ht : ∀ w ∈ tw, w.before [.ref (ad 0), .int p0, .int p1].toArray s = true := fun w h => atoms_spec (ws := (.code y_R_flow b_R_flow 3 (some .int) :: tw)) B.pre w (List.mem_cons_of_mem _ h)
  have hown : s.vm.findClass R_R = some m.cls := findClass_of_methodNamed B.named
  have hlocks := B.notSynchronized
  have CX : tC p s m [.ref (ad 0), .int p0, .int p1].toArray meth c b_R_flow (some .int) 3 R_R D clS (tyR ta) := ⟨hx, hb, hr, hml, hown, ht, hlocks, hK, hN⟩
  have hS : va_S (tA 26 ad) s.heap s.heap [] := va_S.rf
  have hl := lv_entry ([.ref (ad 0), .int p0, .int p1]) (n := 3) (Nat.le_of_ble_eq_true rfl)
  rw [lg_entry_eq]
  generalize (lg_sl ([.ref (ad 0), .int p0, .int p1]) ++ List.replicate (3 - (lg_sl ([.ref (ad 0), .int p0, .int p1])).length) Slot.unset).toArray = ls at hl ⊢
  replace hl : lv_has ls 3 [(0, .ref (ad 0)), (1, .int p0), (2, .int p1)] := hl
  unfold mf_R_flow at hf
  refine lv_aload_n hx hb d_R_flow_0 rfl (lv_at hl 0 rfl) ?_
  refine lv_aload_n hx hb d_R_flow_1 rfl (lv_at hl 0 rfl) ?_
  refine lv_iload_n hx hb d_R_flow_2 rfl (lv_at hl 1 rfl) ?_
  obtain ⟨r_1, s_1, hq1, hf⟩ := tb2_of hf
  refine tr_calli (va_runV (C := R_R) (As := [.int p0]) (rest := [.ref (ad 0)]) ⟨hx, hb, hml, hown, ht⟩ (mc_R_isStreet l hd hq1) ⟨(tw_cb (n := 1) ht wc_R_isStreet wd_43 wd_803 ⟨rfl, rfl⟩ (by decide +kernel) ⟨(Nat.le_of_ble_eq_true rfl), (Nat.le_of_ble_eq_true rfl)⟩), ht _ wd_805, ht _ wd_17⟩ ⟨tP_blind, va_recv hK hP (ci := 8) (q0 := 0) rfl rfl, fun U hU hW => ⟨rfl, by rw [hU]; exact hP, va_K.moved hW.alike hK, tW_warm hW hN⟩⟩ rfl rfl hl.1 rfl (lv_room (Nat.le_of_ble_eq_true rfl)) d_R_flow_3 ⟨Nat.zero_le _, Nat.zero_le _⟩) hS (fun _ h => h.elim) (fun _ h => h.elim) (fun H locs hP hS => ?_)
  refine lv_if_eq (tgt := 22) hx hb d_R_flow_6 (by decide) (fun hc => ?_) (fun hc => ?_)
  · replace hf := ti_pos hc hf
    refine lv_iconst (v := (1 : Int32)) hx hb d_R_flow_22 (by decide) ?_
    refine va_put (ci := 8) (v := .int (1 : Int32)) (ty := .int) (C := R_R) (T := F_R) (N := 32) hx hb ht iw_R ft_R to_R nm_R hown hK hP (cwR_D hd) hS 0 rfl rfl 0 (by decide) (ht _ wd_677) (fun _ h9 => h9) rfl (by decide +kernel) rfl rfl (Nat.le_of_ble_eq_true rfl) d_R_flow_23 (fun H locs hP _ hS => ?_)
    replace hP : va_P D clS (cwR ad ta (tF s_1 0 (1 : Int32))) H := hP
    refine lv_aload_n hx hb d_R_flow_26 rfl (lv_at hl 0 rfl) ?_
    refine va_get (ci := 8) (v := .int (1 : Int32)) (C := R_R) (T := F_R) (N := 32) hx hb ht iw_R hown hK hP 0 rfl rfl 0 (by decide) (ht _ wd_677) (fun _ h9 => h9) rfl d_R_flow_27 ?_
    refine lv_if_le (tgt := 37) hx hb d_R_flow_30 (by decide) (fun hc => ?_) (fun hc => ?_)
    · replace hf := ti_pos hc hf
      refine lv_iload_n hx hb d_R_flow_37 rfl (lv_at hl 2 rfl) ?_
      refine lv_if_ne (tgt := 50) hx hb d_R_flow_38 (by decide) (fun hc => ?_) (fun hc => ?_)
      · replace hf := ti_neg hc hf
        refine lv_aload_n hx hb d_R_flow_50 rfl (lv_at hl 0 rfl) ?_
        refine lv_iload_n hx hb d_R_flow_51 rfl (lv_at hl 1 rfl) ?_
        obtain ⟨r_2, s_2, hq2, hf⟩ := tb2_of hf
        refine tr_calll (va_runV (C := R_R) (As := [.int p0]) (rest := []) ⟨hx, hb, hml, hown, ht⟩ (mc_R_timeOf l hd hq2) ⟨(tw_cb (n := 1) ht wc_R_timeOf wd_43 wd_885 ⟨rfl, rfl⟩ (by decide +kernel) ⟨(Nat.le_of_ble_eq_true rfl), (Nat.le_of_ble_eq_true rfl)⟩), ht _ wd_887, ht _ wd_27⟩ ⟨tP_blind, va_recv hK hP (ci := 8) (q0 := 0) rfl rfl, fun U hU hW => ⟨rfl, by rw [hU]; exact hP, va_K.moved hW.alike hK, tW_warm hW hN⟩⟩ rfl rfl hl.1 rfl (lv_room (Nat.le_of_ble_eq_true rfl)) d_R_flow_52 ⟨Nat.zero_le _, Nat.zero_le _⟩) hS (fun _ h => h.elim) (fun _ h => h.elim) (fun H locs hP hS => ?_)
        refine lv_l2i hx hb d_R_flow_55 rfl ?_
        obtain ⟨rfl, rfl⟩ := tp_of hf
        exact W.iret (v := (r_2).toInt32) hx hb hr (fun t ht hW => ⟨rfl, by rw [ht]; exact hP, hS.F ht⟩) hS.2.2 d_R_flow_56
      · replace hf := ti_pos hc hf
        refine lv_aload_n hx hb d_R_flow_41 rfl (lv_at hl 0 rfl) ?_
        refine va_get (ci := 8) (v := .ref (ad 12)) (C := R_R) (T := F_R) (N := 32) hx hb ht iw_R hown hK hP 0 rfl rfl 15 (by decide) (ht _ wd_692) (fun _ h9 => h9) rfl d_R_flow_42 ?_
        refine lv_iload_n hx hb d_R_flow_45 rfl (lv_at hl 1 rfl) ?_
        obtain ⟨hi3, hf⟩ := tg_of hf
        refine va_lald (f := s_1.2.2 0) hx hb hK hP 12 11 rfl rfl hi3 d_R_flow_46 ?_
        refine lv_goto (tgt := 55) hx hb d_R_flow_47 (by decide) ?_
        refine lv_l2i hx hb d_R_flow_55 rfl ?_
        obtain ⟨rfl, rfl⟩ := tp_of hf
        exact W.iret (v := ((s_1.2.2 0 p0.toNatClampNeg)).toInt32) hx hb hr (fun t ht hW => ⟨rfl, by rw [ht]; exact hP, hS.F ht⟩) hS.2.2 d_R_flow_56
    · replace hf := ti_neg hc hf
      refine lv_iconst (v := (0 : Int32)) hx hb d_R_flow_33 (by decide) ?_
      refine lv_goto (tgt := 56) hx hb d_R_flow_34 (by decide) ?_
      obtain ⟨rfl, rfl⟩ := tp_of hf
      exact W.iret (v := (0 : Int32)) hx hb hr (fun t ht hW => ⟨rfl, by rw [ht]; exact hP, hS.F ht⟩) hS.2.2 d_R_flow_56
  · replace hf := ti_neg hc hf
    refine lv_iload_n hx hb d_R_flow_9 rfl (lv_at hl 2 rfl) ?_
    refine lv_iconst (v := (0 : Int32)) hx hb d_R_flow_10 (by decide) ?_
    refine lv_iconst (v := (1 : Int32)) hx hb d_R_flow_11 (by decide) ?_
    obtain ⟨r_4, s_4, hq4, hf⟩ := tb2_of hf
    refine tr_calli (va_runS (As := [.int p1, .int (0 : Int32), .int (1 : Int32)]) (rest := [.ref (ad 0)]) ⟨hx, hb, hml, hown, ht⟩ (mc_R_isIn l hd hq4) ⟨(tw_cb (n := 3) ht wc_R_isIn wd_43 wd_790 ⟨rfl, rfl⟩ (by decide +kernel) ⟨(Nat.le_of_ble_eq_true rfl), (Nat.le_of_ble_eq_true rfl)⟩), ht _ wd_791⟩ ⟨tP_blind, fun U hU hW => ⟨rfl, by rw [hU]; exact hP, va_K.moved hW.alike hK, tW_warm hW hN⟩⟩ rfl rfl hl.1 rfl (lv_room (Nat.le_of_ble_eq_true rfl)) d_R_flow_12 ⟨Nat.zero_le _, Nat.zero_le _⟩) hS (fun _ h => h.elim) (fun _ h => h.elim) (fun H locs hP hS => ?_)
    refine lv_if_eq (tgt := 22) hx hb d_R_flow_15 (by decide) (fun hc => ?_) (fun hc => ?_)
    · replace hf := ti_pos hc hf
      refine lv_iconst (v := (1 : Int32)) hx hb d_R_flow_22 (by decide) ?_
      refine va_put (ci := 8) (v := .int (1 : Int32)) (ty := .int) (C := R_R) (T := F_R) (N := 32) hx hb ht iw_R ft_R to_R nm_R hown hK hP (cwR_D hd) hS 0 rfl rfl 0 (by decide) (ht _ wd_677) (fun _ h9 => h9) rfl (by decide +kernel) rfl rfl (Nat.le_of_ble_eq_true rfl) d_R_flow_23 (fun H locs hP _ hS => ?_)
      replace hP : va_P D clS (cwR ad ta (tF s_4 0 (1 : Int32))) H := hP
      refine lv_aload_n hx hb d_R_flow_26 rfl (lv_at hl 0 rfl) ?_
      refine va_get (ci := 8) (v := .int (1 : Int32)) (C := R_R) (T := F_R) (N := 32) hx hb ht iw_R hown hK hP 0 rfl rfl 0 (by decide) (ht _ wd_677) (fun _ h9 => h9) rfl d_R_flow_27 ?_
      refine lv_if_le (tgt := 37) hx hb d_R_flow_30 (by decide) (fun hc => ?_) (fun hc => ?_)
      · replace hf := ti_pos hc hf
        refine lv_iload_n hx hb d_R_flow_37 rfl (lv_at hl 2 rfl) ?_
        refine lv_if_ne (tgt := 50) hx hb d_R_flow_38 (by decide) (fun hc => ?_) (fun hc => ?_)
        · replace hf := ti_neg hc hf
          refine lv_aload_n hx hb d_R_flow_50 rfl (lv_at hl 0 rfl) ?_
          refine lv_iload_n hx hb d_R_flow_51 rfl (lv_at hl 1 rfl) ?_
          obtain ⟨r_5, s_5, hq5, hf⟩ := tb2_of hf
          refine tr_calll (va_runV (C := R_R) (As := [.int p0]) (rest := []) ⟨hx, hb, hml, hown, ht⟩ (mc_R_timeOf l hd hq5) ⟨(tw_cb (n := 1) ht wc_R_timeOf wd_43 wd_885 ⟨rfl, rfl⟩ (by decide +kernel) ⟨(Nat.le_of_ble_eq_true rfl), (Nat.le_of_ble_eq_true rfl)⟩), ht _ wd_887, ht _ wd_27⟩ ⟨tP_blind, va_recv hK hP (ci := 8) (q0 := 0) rfl rfl, fun U hU hW => ⟨rfl, by rw [hU]; exact hP, va_K.moved hW.alike hK, tW_warm hW hN⟩⟩ rfl rfl hl.1 rfl (lv_room (Nat.le_of_ble_eq_true rfl)) d_R_flow_52 ⟨Nat.zero_le _, Nat.zero_le _⟩) hS (fun _ h => h.elim) (fun _ h => h.elim) (fun H locs hP hS => ?_)
          refine lv_l2i hx hb d_R_flow_55 rfl ?_
          obtain ⟨rfl, rfl⟩ := tp_of hf
          exact W.iret (v := (r_5).toInt32) hx hb hr (fun t ht hW => ⟨rfl, by rw [ht]; exact hP, hS.F ht⟩) hS.2.2 d_R_flow_56
        · replace hf := ti_pos hc hf
          refine lv_aload_n hx hb d_R_flow_41 rfl (lv_at hl 0 rfl) ?_
          refine va_get (ci := 8) (v := .ref (ad 12)) (C := R_R) (T := F_R) (N := 32) hx hb ht iw_R hown hK hP 0 rfl rfl 15 (by decide) (ht _ wd_692) (fun _ h9 => h9) rfl d_R_flow_42 ?_
          refine lv_iload_n hx hb d_R_flow_45 rfl (lv_at hl 1 rfl) ?_
          obtain ⟨hi6, hf⟩ := tg_of hf
          refine va_lald (f := s_4.2.2 0) hx hb hK hP 12 11 rfl rfl hi6 d_R_flow_46 ?_
          refine lv_goto (tgt := 55) hx hb d_R_flow_47 (by decide) ?_
          refine lv_l2i hx hb d_R_flow_55 rfl ?_
          obtain ⟨rfl, rfl⟩ := tp_of hf
          exact W.iret (v := ((s_4.2.2 0 p0.toNatClampNeg)).toInt32) hx hb hr (fun t ht hW => ⟨rfl, by rw [ht]; exact hP, hS.F ht⟩) hS.2.2 d_R_flow_56
      · replace hf := ti_neg hc hf
        refine lv_iconst (v := (0 : Int32)) hx hb d_R_flow_33 (by decide) ?_
        refine lv_goto (tgt := 56) hx hb d_R_flow_34 (by decide) ?_
        obtain ⟨rfl, rfl⟩ := tp_of hf
        exact W.iret (v := (0 : Int32)) hx hb hr (fun t ht hW => ⟨rfl, by rw [ht]; exact hP, hS.F ht⟩) hS.2.2 d_R_flow_56
    · replace hf := ti_neg hc hf
      refine lv_iconst (v := (0 : Int32)) hx hb d_R_flow_18 (by decide) ?_
      refine lv_goto (tgt := 23) hx hb d_R_flow_19 (by decide) ?_
      refine va_put (ci := 8) (v := .int (0 : Int32)) (ty := .int) (C := R_R) (T := F_R) (N := 32) hx hb ht iw_R ft_R to_R nm_R hown hK hP (cwR_D hd) hS 0 rfl rfl 0 (by decide) (ht _ wd_677) (fun _ h9 => h9) rfl (by decide +kernel) rfl rfl (Nat.le_of_ble_eq_true rfl) d_R_flow_23 (fun H locs hP _ hS => ?_)
      replace hP : va_P D clS (cwR ad ta (tF s_4 0 (0 : Int32))) H := hP
      refine lv_aload_n hx hb d_R_flow_26 rfl (lv_at hl 0 rfl) ?_
      refine va_get (ci := 8) (v := .int (0 : Int32)) (C := R_R) (T := F_R) (N := 32) hx hb ht iw_R hown hK hP 0 rfl rfl 0 (by decide) (ht _ wd_677) (fun _ h9 => h9) rfl d_R_flow_27 ?_
      refine lv_if_le (tgt := 37) hx hb d_R_flow_30 (by decide) (fun hc => ?_) (fun hc => ?_)
      · replace hf := ti_pos hc hf
        refine lv_iload_n hx hb d_R_flow_37 rfl (lv_at hl 2 rfl) ?_
        refine lv_if_ne (tgt := 50) hx hb d_R_flow_38 (by decide) (fun hc => ?_) (fun hc => ?_)
        · replace hf := ti_neg hc hf
          refine lv_aload_n hx hb d_R_flow_50 rfl (lv_at hl 0 rfl) ?_
          refine lv_iload_n hx hb d_R_flow_51 rfl (lv_at hl 1 rfl) ?_
          obtain ⟨r_7, s_7, hq7, hf⟩ := tb2_of hf
          refine tr_calll (va_runV (C := R_R) (As := [.int p0]) (rest := []) ⟨hx, hb, hml, hown, ht⟩ (mc_R_timeOf l hd hq7) ⟨(tw_cb (n := 1) ht wc_R_timeOf wd_43 wd_885 ⟨rfl, rfl⟩ (by decide +kernel) ⟨(Nat.le_of_ble_eq_true rfl), (Nat.le_of_ble_eq_true rfl)⟩), ht _ wd_887, ht _ wd_27⟩ ⟨tP_blind, va_recv hK hP (ci := 8) (q0 := 0) rfl rfl, fun U hU hW => ⟨rfl, by rw [hU]; exact hP, va_K.moved hW.alike hK, tW_warm hW hN⟩⟩ rfl rfl hl.1 rfl (lv_room (Nat.le_of_ble_eq_true rfl)) d_R_flow_52 ⟨Nat.zero_le _, Nat.zero_le _⟩) hS (fun _ h => h.elim) (fun _ h => h.elim) (fun H locs hP hS => ?_)
          refine lv_l2i hx hb d_R_flow_55 rfl ?_
          obtain ⟨rfl, rfl⟩ := tp_of hf
          exact W.iret (v := (r_7).toInt32) hx hb hr (fun t ht hW => ⟨rfl, by rw [ht]; exact hP, hS.F ht⟩) hS.2.2 d_R_flow_56
        · replace hf := ti_pos hc hf
          refine lv_aload_n hx hb d_R_flow_41 rfl (lv_at hl 0 rfl) ?_
          refine va_get (ci := 8) (v := .ref (ad 12)) (C := R_R) (T := F_R) (N := 32) hx hb ht iw_R hown hK hP 0 rfl rfl 15 (by decide) (ht _ wd_692) (fun _ h9 => h9) rfl d_R_flow_42 ?_
          refine lv_iload_n hx hb d_R_flow_45 rfl (lv_at hl 1 rfl) ?_
          obtain ⟨hi8, hf⟩ := tg_of hf
          refine va_lald (f := s_4.2.2 0) hx hb hK hP 12 11 rfl rfl hi8 d_R_flow_46 ?_
          refine lv_goto (tgt := 55) hx hb d_R_flow_47 (by decide) ?_
          refine lv_l2i hx hb d_R_flow_55 rfl ?_
          obtain ⟨rfl, rfl⟩ := tp_of hf
          exact W.iret (v := ((s_4.2.2 0 p0.toNatClampNeg)).toInt32) hx hb hr (fun t ht hW => ⟨rfl, by rw [ht]; exact hP, hS.F ht⟩) hS.2.2 d_R_flow_56
      · replace hf := ti_neg hc hf
        refine lv_iconst (v := (0 : Int32)) hx hb d_R_flow_33 (by decide) ?_
        refine lv_goto (tgt := 56) hx hb d_R_flow_34 (by decide) ?_
        obtain ⟨rfl, rfl⟩ := tp_of hf
        exact W.iret (v := (0 : Int32)) hx hb hr (fun t ht hW => ⟨rfl, by rw [ht]; exact hP, hS.F ht⟩) hS.2.2 d_R_flow_56
abbrev rm_R_way : Room := { frames := 2, cells := 0, slots := 0, locals := 55 }
set_option maxHeartbeats 4000000 in
set_option maxRecDepth 100000 in
theorem mc_R_way (l : Launch) {D : va_G} {ad : Nat → Nat} {ta : Nat → ClassId} (hd : tD 26 ad) {σ σ' : tS} {p0 : Int32} {p1 : Int32} {p2 : Int32} {r : Int32} (hf : mf_R_way p0 p1 p2 σ = some (r, σ')) : Met l y_R_way (.code y_R_way b_R_way 4 (some .int) :: tw) rm_R_way (tP D clS (tyR ta) (cwR ad ta σ) [.ref (ad 0), .int p0, .int p1, .int p2]) (tQ D clS (cwR ad ta σ') (some (.int r)) (tA 26 ad)) 0 0 (tA 26 ad) := by
  refine Met.ofW (cc := b_R_way) (maxL := 4) (ret := (some .int)) (by decide) rfl ?_
  intro p e s m args below meth c s₁ B hml hv
  obtain ⟨rfl, hP, hK, hN⟩ := hv
  have hx := B.exec
  have hb := B.bytes
  have hr := B.returns
  have ht : ∀ w ∈ tw, w.before [.ref (ad 0), .int p0, .int p1, .int p2].toArray s = true := fun w h => atoms_spec (ws := (.code y_R_way b_R_way 4 (some .int) :: tw)) B.pre w (List.mem_cons_of_mem _ h)
  have hown : s.vm.findClass R_R = some m.cls := findClass_of_methodNamed B.named
  have hlocks := B.notSynchronized
  have CX : tC p s m [.ref (ad 0), .int p0, .int p1, .int p2].toArray meth c b_R_way (some .int) 4 R_R D clS (tyR ta) := ⟨hx, hb, hr, hml, hown, ht, hlocks, hK, hN⟩
  have hS : va_S (tA 26 ad) s.heap s.heap [] := va_S.rf
  have hl := lv_entry ([.ref (ad 0), .int p0, .int p1, .int p2]) (n := 4) (Nat.le_of_ble_eq_true rfl)
  rw [lg_entry_eq]
  generalize (lg_sl ([.ref (ad 0), .int p0, .int p1, .int p2]) ++ List.replicate (4 - (lg_sl ([.ref (ad 0), .int p0, .int p1, .int p2])).length) Slot.unset).toArray = ls at hl ⊢
  replace hl : lv_has ls 4 [(0, .ref (ad 0)), (1, .int p0), (2, .int p1), (3, .int p2)] := hl
  unfold mf_R_way at hf
  refine lv_aload_n hx hb d_R_way_0 rfl (lv_at hl 0 rfl) ?_
  refine lv_aload_n hx hb d_R_way_1 rfl (lv_at hl 0 rfl) ?_
  refine lv_iload_n hx hb d_R_way_2 rfl (lv_at hl 1 rfl) ?_
  obtain ⟨r_1, s_1, hq1, hf⟩ := tb2_of hf
  refine tr_calli (va_runV (C := R_R) (As := [.int p0]) (rest := [.ref (ad 0)]) ⟨hx, hb, hml, hown, ht⟩ (mc_R_isNode l hd hq1) ⟨(tw_cb (n := 1) ht wc_R_isNode wd_43 wd_786 ⟨rfl, rfl⟩ (by decide +kernel) ⟨(Nat.le_of_ble_eq_true rfl), (Nat.le_of_ble_eq_true rfl)⟩), ht _ wd_788, ht _ wd_16⟩ ⟨tP_blind, va_recv hK hP (ci := 8) (q0 := 0) rfl rfl, fun U hU hW => ⟨rfl, by rw [hU]; exact hP, va_K.moved hW.alike hK, tW_warm hW hN⟩⟩ rfl rfl hl.1 rfl (lv_room (Nat.le_of_ble_eq_true rfl)) d_R_way_3 ⟨Nat.zero_le _, Nat.zero_le _⟩) hS (fun _ h => h.elim) (fun _ h => h.elim) (fun H locs hP hS => ?_)
  refine lv_if_eq (tgt := 25) hx hb d_R_way_6 (by decide) (fun hc => ?_) (fun hc => ?_)
  · replace hf := ti_pos hc hf
    refine lv_iconst (v := (1 : Int32)) hx hb d_R_way_25 (by decide) ?_
    refine va_put (ci := 8) (v := .int (1 : Int32)) (ty := .int) (C := R_R) (T := F_R) (N := 32) hx hb ht iw_R ft_R to_R nm_R hown hK hP (cwR_D hd) hS 0 rfl rfl 0 (by decide) (ht _ wd_677) (fun _ h9 => h9) rfl (by decide +kernel) rfl rfl (Nat.le_of_ble_eq_true rfl) d_R_way_26 (fun H locs hP _ hS => ?_)
    replace hP : va_P D clS (cwR ad ta (tF s_1 0 (1 : Int32))) H := hP
    refine lv_aload_n hx hb d_R_way_29 rfl (lv_at hl 0 rfl) ?_
    refine va_get (ci := 8) (v := .int (1 : Int32)) (C := R_R) (T := F_R) (N := 32) hx hb ht iw_R hown hK hP 0 rfl rfl 0 (by decide) (ht _ wd_677) (fun _ h9 => h9) rfl d_R_way_30 ?_
    refine lv_if_le (tgt := 38) hx hb d_R_way_33 (by decide) (fun hc => ?_) (fun hc => ?_)
    · replace hf := ti_pos hc hf
      refine lv_aload_n hx hb d_R_way_38 rfl (lv_at hl 0 rfl) ?_
      obtain ⟨s_2, hq2, hf⟩ := tb1_of hf
      refine tr_callv (va_runV (C := R_R) (As := []) (rest := []) ⟨hx, hb, hml, hown, ht⟩ (mc_R_takeTimes l hd hq2) ⟨(tw_cb (n := 0) ht wc_R_takeTimes wd_43 wd_881 ⟨rfl, rfl⟩ (by decide +kernel) ⟨(Nat.le_of_ble_eq_true rfl), (Nat.le_of_ble_eq_true rfl)⟩), ht _ wd_883, ht _ wd_26⟩ ⟨tP_blind, va_recv hK hP (ci := 8) (q0 := 0) rfl rfl, fun U hU hW => ⟨rfl, by rw [hU]; exact hP, va_K.moved hW.alike hK, tW_warm hW hN⟩⟩ rfl rfl hl.1 rfl (lv_room (Nat.le_of_ble_eq_true rfl)) d_R_way_39 ⟨Nat.zero_le _, Nat.zero_le _⟩) hS (fun _ h => h) (fun _ h => h) (fun H locs hP hS => ?_)
      refine lv_aload_n hx hb d_R_way_42 rfl (lv_at hl 0 rfl) ?_
      refine lv_iload_n hx hb d_R_way_43 rfl (lv_at hl 1 rfl) ?_
      refine lv_iload_n hx hb d_R_way_44 rfl (lv_at hl 2 rfl) ?_
      obtain ⟨r_3, s_3, hq3, hf⟩ := tb2_of hf
      refine tr_calli (va_runV (C := R_R) (As := [.int p0, .int p1]) (rest := []) ⟨hx, hb, hml, hown, ht⟩ (mc_R_findWay l hd hq3) ⟨(tw_cb (n := 2) ht wc_R_findWay wd_43 wd_893 ⟨rfl, rfl⟩ (by decide +kernel) ⟨(Nat.le_of_ble_eq_true rfl), (Nat.le_of_ble_eq_true rfl)⟩), ht _ wd_895, ht _ wd_29⟩ ⟨tP_blind, va_recv hK hP (ci := 8) (q0 := 0) rfl rfl, fun U hU hW => ⟨rfl, by rw [hU]; exact hP, va_K.moved hW.alike hK, tW_warm hW hN⟩⟩ rfl rfl hl.1 rfl (lv_room (Nat.le_of_ble_eq_true rfl)) d_R_way_45 ⟨Nat.zero_le _, Nat.zero_le _⟩) hS (fun _ h => h) (fun _ h => h) (fun H locs hP hS => ?_)
      refine lv_if_eq (tgt := 68) hx hb d_R_way_48 (by decide) (fun hc => ?_) (fun hc => ?_)
      · replace hf := ti_pos hc hf
        refine lv_iconst (v := ((-1) : Int32)) hx hb d_R_way_68 (by decide) ?_
        obtain ⟨rfl, rfl⟩ := tp_of hf
        exact W.iret (v := ((-1) : Int32)) hx hb hr (fun t ht hW => ⟨rfl, by rw [ht]; exact hP, hS.F ht⟩) hS.2.2 d_R_way_69
      · replace hf := ti_neg hc hf
        refine lv_iload_n hx hb d_R_way_51 rfl (lv_at hl 3 rfl) ?_
        refine lv_aload_n hx hb d_R_way_52 rfl (lv_at hl 0 rfl) ?_
        refine va_get (ci := 8) (v := .int (s_3.1 6)) (C := R_R) (T := F_R) (N := 32) hx hb ht iw_R hown hK hP 0 rfl rfl 31 (by decide) (ht _ wd_708) (fun _ h9 => h9) rfl d_R_way_53 ?_
        refine lv_icmp_ge (tgt := 68) hx hb d_R_way_56 (by decide) (fun hc => ?_) (fun hc => ?_)
        · replace hf := ti_pos hc hf
          refine lv_iconst (v := ((-1) : Int32)) hx hb d_R_way_68 (by decide) ?_
          obtain ⟨rfl, rfl⟩ := tp_of hf
          exact W.iret (v := ((-1) : Int32)) hx hb hr (fun t ht hW => ⟨rfl, by rw [ht]; exact hP, hS.F ht⟩) hS.2.2 d_R_way_69
        · replace hf := ti_neg hc hf
          refine lv_aload_n hx hb d_R_way_59 rfl (lv_at hl 0 rfl) ?_
          refine va_get (ci := 8) (v := .ref (ad 25)) (C := R_R) (T := F_R) (N := 32) hx hb ht iw_R hown hK hP 0 rfl rfl 30 (by decide) (ht _ wd_707) (fun _ h9 => h9) rfl d_R_way_60 ?_
          refine lv_iload_n hx hb d_R_way_63 rfl (lv_at hl 3 rfl) ?_
          obtain ⟨hi4, hf⟩ := tg_of hf
          refine va_iald (f := s_3.2.1 19) hx hb hK hP 25 24 rfl rfl hi4 d_R_way_64 ?_
          refine lv_goto (tgt := 69) hx hb d_R_way_65 (by decide) ?_
          obtain ⟨rfl, rfl⟩ := tp_of hf
          exact W.iret (v := (s_3.2.1 19 p2.toNatClampNeg)) hx hb hr (fun t ht hW => ⟨rfl, by rw [ht]; exact hP, hS.F ht⟩) hS.2.2 d_R_way_69
    · replace hf := ti_neg hc hf
      refine lv_iconst (v := (0 : Int32)) hx hb d_R_way_36 (by decide) ?_
      obtain ⟨rfl, rfl⟩ := tp_of hf
      exact W.iret (v := (0 : Int32)) hx hb hr (fun t ht hW => ⟨rfl, by rw [ht]; exact hP, hS.F ht⟩) hS.2.2 d_R_way_37
  · replace hf := ti_neg hc hf
    refine lv_aload_n hx hb d_R_way_9 rfl (lv_at hl 0 rfl) ?_
    refine lv_iload_n hx hb d_R_way_10 rfl (lv_at hl 2 rfl) ?_
    obtain ⟨r_5, s_5, hq5, hf⟩ := tb2_of hf
    refine tr_calli (va_runV (C := R_R) (As := [.int p1]) (rest := [.ref (ad 0)]) ⟨hx, hb, hml, hown, ht⟩ (mc_R_isNode l hd hq5) ⟨(tw_cb (n := 1) ht wc_R_isNode wd_43 wd_786 ⟨rfl, rfl⟩ (by decide +kernel) ⟨(Nat.le_of_ble_eq_true rfl), (Nat.le_of_ble_eq_true rfl)⟩), ht _ wd_788, ht _ wd_16⟩ ⟨tP_blind, va_recv hK hP (ci := 8) (q0 := 0) rfl rfl, fun U hU hW => ⟨rfl, by rw [hU]; exact hP, va_K.moved hW.alike hK, tW_warm hW hN⟩⟩ rfl rfl hl.1 rfl (lv_room (Nat.le_of_ble_eq_true rfl)) d_R_way_11 ⟨Nat.zero_le _, Nat.zero_le _⟩) hS (fun _ h => h.elim) (fun _ h => h.elim) (fun H locs hP hS => ?_)
    refine lv_if_eq (tgt := 25) hx hb d_R_way_14 (by decide) (fun hc => ?_) (fun hc => ?_)
    · replace hf := ti_pos hc hf
      refine lv_iconst (v := (1 : Int32)) hx hb d_R_way_25 (by decide) ?_
      refine va_put (ci := 8) (v := .int (1 : Int32)) (ty := .int) (C := R_R) (T := F_R) (N := 32) hx hb ht iw_R ft_R to_R nm_R hown hK hP (cwR_D hd) hS 0 rfl rfl 0 (by decide) (ht _ wd_677) (fun _ h9 => h9) rfl (by decide +kernel) rfl rfl (Nat.le_of_ble_eq_true rfl) d_R_way_26 (fun H locs hP _ hS => ?_)
      replace hP : va_P D clS (cwR ad ta (tF s_5 0 (1 : Int32))) H := hP
      refine lv_aload_n hx hb d_R_way_29 rfl (lv_at hl 0 rfl) ?_
      refine va_get (ci := 8) (v := .int (1 : Int32)) (C := R_R) (T := F_R) (N := 32) hx hb ht iw_R hown hK hP 0 rfl rfl 0 (by decide) (ht _ wd_677) (fun _ h9 => h9) rfl d_R_way_30 ?_
      refine lv_if_le (tgt := 38) hx hb d_R_way_33 (by decide) (fun hc => ?_) (fun hc => ?_)
      · replace hf := ti_pos hc hf
        refine lv_aload_n hx hb d_R_way_38 rfl (lv_at hl 0 rfl) ?_
        obtain ⟨s_6, hq6, hf⟩ := tb1_of hf
        refine tr_callv (va_runV (C := R_R) (As := []) (rest := []) ⟨hx, hb, hml, hown, ht⟩ (mc_R_takeTimes l hd hq6) ⟨(tw_cb (n := 0) ht wc_R_takeTimes wd_43 wd_881 ⟨rfl, rfl⟩ (by decide +kernel) ⟨(Nat.le_of_ble_eq_true rfl), (Nat.le_of_ble_eq_true rfl)⟩), ht _ wd_883, ht _ wd_26⟩ ⟨tP_blind, va_recv hK hP (ci := 8) (q0 := 0) rfl rfl, fun U hU hW => ⟨rfl, by rw [hU]; exact hP, va_K.moved hW.alike hK, tW_warm hW hN⟩⟩ rfl rfl hl.1 rfl (lv_room (Nat.le_of_ble_eq_true rfl)) d_R_way_39 ⟨Nat.zero_le _, Nat.zero_le _⟩) hS (fun _ h => h) (fun _ h => h) (fun H locs hP hS => ?_)
        refine lv_aload_n hx hb d_R_way_42 rfl (lv_at hl 0 rfl) ?_
        refine lv_iload_n hx hb d_R_way_43 rfl (lv_at hl 1 rfl) ?_
        refine lv_iload_n hx hb d_R_way_44 rfl (lv_at hl 2 rfl) ?_
        obtain ⟨r_7, s_7, hq7, hf⟩ := tb2_of hf
        refine tr_calli (va_runV (C := R_R) (As := [.int p0, .int p1]) (rest := []) ⟨hx, hb, hml, hown, ht⟩ (mc_R_findWay l hd hq7) ⟨(tw_cb (n := 2) ht wc_R_findWay wd_43 wd_893 ⟨rfl, rfl⟩ (by decide +kernel) ⟨(Nat.le_of_ble_eq_true rfl), (Nat.le_of_ble_eq_true rfl)⟩), ht _ wd_895, ht _ wd_29⟩ ⟨tP_blind, va_recv hK hP (ci := 8) (q0 := 0) rfl rfl, fun U hU hW => ⟨rfl, by rw [hU]; exact hP, va_K.moved hW.alike hK, tW_warm hW hN⟩⟩ rfl rfl hl.1 rfl (lv_room (Nat.le_of_ble_eq_true rfl)) d_R_way_45 ⟨Nat.zero_le _, Nat.zero_le _⟩) hS (fun _ h => h) (fun _ h => h) (fun H locs hP hS => ?_)
        refine lv_if_eq (tgt := 68) hx hb d_R_way_48 (by decide) (fun hc => ?_) (fun hc => ?_)
        · replace hf := ti_pos hc hf
          refine lv_iconst (v := ((-1) : Int32)) hx hb d_R_way_68 (by decide) ?_
          obtain ⟨rfl, rfl⟩ := tp_of hf
          exact W.iret (v := ((-1) : Int32)) hx hb hr (fun t ht hW => ⟨rfl, by rw [ht]; exact hP, hS.F ht⟩) hS.2.2 d_R_way_69
        · replace hf := ti_neg hc hf
          refine lv_iload_n hx hb d_R_way_51 rfl (lv_at hl 3 rfl) ?_
          refine lv_aload_n hx hb d_R_way_52 rfl (lv_at hl 0 rfl) ?_
          refine va_get (ci := 8) (v := .int (s_7.1 6)) (C := R_R) (T := F_R) (N := 32) hx hb ht iw_R hown hK hP 0 rfl rfl 31 (by decide) (ht _ wd_708) (fun _ h9 => h9) rfl d_R_way_53 ?_
          refine lv_icmp_ge (tgt := 68) hx hb d_R_way_56 (by decide) (fun hc => ?_) (fun hc => ?_)
          · replace hf := ti_pos hc hf
            refine lv_iconst (v := ((-1) : Int32)) hx hb d_R_way_68 (by decide) ?_
            obtain ⟨rfl, rfl⟩ := tp_of hf
            exact W.iret (v := ((-1) : Int32)) hx hb hr (fun t ht hW => ⟨rfl, by rw [ht]; exact hP, hS.F ht⟩) hS.2.2 d_R_way_69
          · replace hf := ti_neg hc hf
            refine lv_aload_n hx hb d_R_way_59 rfl (lv_at hl 0 rfl) ?_
            refine va_get (ci := 8) (v := .ref (ad 25)) (C := R_R) (T := F_R) (N := 32) hx hb ht iw_R hown hK hP 0 rfl rfl 30 (by decide) (ht _ wd_707) (fun _ h9 => h9) rfl d_R_way_60 ?_
            refine lv_iload_n hx hb d_R_way_63 rfl (lv_at hl 3 rfl) ?_
            obtain ⟨hi8, hf⟩ := tg_of hf
            refine va_iald (f := s_7.2.1 19) hx hb hK hP 25 24 rfl rfl hi8 d_R_way_64 ?_
            refine lv_goto (tgt := 69) hx hb d_R_way_65 (by decide) ?_
            obtain ⟨rfl, rfl⟩ := tp_of hf
            exact W.iret (v := (s_7.2.1 19 p2.toNatClampNeg)) hx hb hr (fun t ht hW => ⟨rfl, by rw [ht]; exact hP, hS.F ht⟩) hS.2.2 d_R_way_69
      · replace hf := ti_neg hc hf
        refine lv_iconst (v := (0 : Int32)) hx hb d_R_way_36 (by decide) ?_
        obtain ⟨rfl, rfl⟩ := tp_of hf
        exact W.iret (v := (0 : Int32)) hx hb hr (fun t ht hW => ⟨rfl, by rw [ht]; exact hP, hS.F ht⟩) hS.2.2 d_R_way_37
    · replace hf := ti_neg hc hf
      refine lv_iload_n hx hb d_R_way_17 rfl (lv_at hl 3 rfl) ?_
      refine lv_if_lt (tgt := 25) hx hb d_R_way_18 (by decide) (fun hc => ?_) (fun hc => ?_)
      · replace hf := ti_pos hc hf
        refine lv_iconst (v := (1 : Int32)) hx hb d_R_way_25 (by decide) ?_
        refine va_put (ci := 8) (v := .int (1 : Int32)) (ty := .int) (C := R_R) (T := F_R) (N := 32) hx hb ht iw_R ft_R to_R nm_R hown hK hP (cwR_D hd) hS 0 rfl rfl 0 (by decide) (ht _ wd_677) (fun _ h9 => h9) rfl (by decide +kernel) rfl rfl (Nat.le_of_ble_eq_true rfl) d_R_way_26 (fun H locs hP _ hS => ?_)
        replace hP : va_P D clS (cwR ad ta (tF s_5 0 (1 : Int32))) H := hP
        refine lv_aload_n hx hb d_R_way_29 rfl (lv_at hl 0 rfl) ?_
        refine va_get (ci := 8) (v := .int (1 : Int32)) (C := R_R) (T := F_R) (N := 32) hx hb ht iw_R hown hK hP 0 rfl rfl 0 (by decide) (ht _ wd_677) (fun _ h9 => h9) rfl d_R_way_30 ?_
        refine lv_if_le (tgt := 38) hx hb d_R_way_33 (by decide) (fun hc => ?_) (fun hc => ?_)
        · replace hf := ti_pos hc hf
          refine lv_aload_n hx hb d_R_way_38 rfl (lv_at hl 0 rfl) ?_
          obtain ⟨s_9, hq9, hf⟩ := tb1_of hf
          refine tr_callv (va_runV (C := R_R) (As := []) (rest := []) ⟨hx, hb, hml, hown, ht⟩ (mc_R_takeTimes l hd hq9) ⟨(tw_cb (n := 0) ht wc_R_takeTimes wd_43 wd_881 ⟨rfl, rfl⟩ (by decide +kernel) ⟨(Nat.le_of_ble_eq_true rfl), (Nat.le_of_ble_eq_true rfl)⟩), ht _ wd_883, ht _ wd_26⟩ ⟨tP_blind, va_recv hK hP (ci := 8) (q0 := 0) rfl rfl, fun U hU hW => ⟨rfl, by rw [hU]; exact hP, va_K.moved hW.alike hK, tW_warm hW hN⟩⟩ rfl rfl hl.1 rfl (lv_room (Nat.le_of_ble_eq_true rfl)) d_R_way_39 ⟨Nat.zero_le _, Nat.zero_le _⟩) hS (fun _ h => h) (fun _ h => h) (fun H locs hP hS => ?_)
          refine lv_aload_n hx hb d_R_way_42 rfl (lv_at hl 0 rfl) ?_
          refine lv_iload_n hx hb d_R_way_43 rfl (lv_at hl 1 rfl) ?_
          refine lv_iload_n hx hb d_R_way_44 rfl (lv_at hl 2 rfl) ?_
          obtain ⟨r_10, s_10, hq10, hf⟩ := tb2_of hf
          refine tr_calli (va_runV (C := R_R) (As := [.int p0, .int p1]) (rest := []) ⟨hx, hb, hml, hown, ht⟩ (mc_R_findWay l hd hq10) ⟨(tw_cb (n := 2) ht wc_R_findWay wd_43 wd_893 ⟨rfl, rfl⟩ (by decide +kernel) ⟨(Nat.le_of_ble_eq_true rfl), (Nat.le_of_ble_eq_true rfl)⟩), ht _ wd_895, ht _ wd_29⟩ ⟨tP_blind, va_recv hK hP (ci := 8) (q0 := 0) rfl rfl, fun U hU hW => ⟨rfl, by rw [hU]; exact hP, va_K.moved hW.alike hK, tW_warm hW hN⟩⟩ rfl rfl hl.1 rfl (lv_room (Nat.le_of_ble_eq_true rfl)) d_R_way_45 ⟨Nat.zero_le _, Nat.zero_le _⟩) hS (fun _ h => h) (fun _ h => h) (fun H locs hP hS => ?_)
          refine lv_if_eq (tgt := 68) hx hb d_R_way_48 (by decide) (fun hc => ?_) (fun hc => ?_)
          · replace hf := ti_pos hc hf
            refine lv_iconst (v := ((-1) : Int32)) hx hb d_R_way_68 (by decide) ?_
            obtain ⟨rfl, rfl⟩ := tp_of hf
            exact W.iret (v := ((-1) : Int32)) hx hb hr (fun t ht hW => ⟨rfl, by rw [ht]; exact hP, hS.F ht⟩) hS.2.2 d_R_way_69
          · replace hf := ti_neg hc hf
            refine lv_iload_n hx hb d_R_way_51 rfl (lv_at hl 3 rfl) ?_
            refine lv_aload_n hx hb d_R_way_52 rfl (lv_at hl 0 rfl) ?_
            refine va_get (ci := 8) (v := .int (s_10.1 6)) (C := R_R) (T := F_R) (N := 32) hx hb ht iw_R hown hK hP 0 rfl rfl 31 (by decide) (ht _ wd_708) (fun _ h9 => h9) rfl d_R_way_53 ?_
            refine lv_icmp_ge (tgt := 68) hx hb d_R_way_56 (by decide) (fun hc => ?_) (fun hc => ?_)
            · replace hf := ti_pos hc hf
              refine lv_iconst (v := ((-1) : Int32)) hx hb d_R_way_68 (by decide) ?_
              obtain ⟨rfl, rfl⟩ := tp_of hf
              exact W.iret (v := ((-1) : Int32)) hx hb hr (fun t ht hW => ⟨rfl, by rw [ht]; exact hP, hS.F ht⟩) hS.2.2 d_R_way_69
            · replace hf := ti_neg hc hf
              refine lv_aload_n hx hb d_R_way_59 rfl (lv_at hl 0 rfl) ?_
              refine va_get (ci := 8) (v := .ref (ad 25)) (C := R_R) (T := F_R) (N := 32) hx hb ht iw_R hown hK hP 0 rfl rfl 30 (by decide) (ht _ wd_707) (fun _ h9 => h9) rfl d_R_way_60 ?_
              refine lv_iload_n hx hb d_R_way_63 rfl (lv_at hl 3 rfl) ?_
              obtain ⟨hi11, hf⟩ := tg_of hf
              refine va_iald (f := s_10.2.1 19) hx hb hK hP 25 24 rfl rfl hi11 d_R_way_64 ?_
              refine lv_goto (tgt := 69) hx hb d_R_way_65 (by decide) ?_
              obtain ⟨rfl, rfl⟩ := tp_of hf
              exact W.iret (v := (s_10.2.1 19 p2.toNatClampNeg)) hx hb hr (fun t ht hW => ⟨rfl, by rw [ht]; exact hP, hS.F ht⟩) hS.2.2 d_R_way_69
        · replace hf := ti_neg hc hf
          refine lv_iconst (v := (0 : Int32)) hx hb d_R_way_36 (by decide) ?_
          obtain ⟨rfl, rfl⟩ := tp_of hf
          exact W.iret (v := (0 : Int32)) hx hb hr (fun t ht hW => ⟨rfl, by rw [ht]; exact hP, hS.F ht⟩) hS.2.2 d_R_way_37
      · replace hf := ti_neg hc hf
        refine lv_iconst (v := (0 : Int32)) hx hb d_R_way_21 (by decide) ?_
        refine lv_goto (tgt := 26) hx hb d_R_way_22 (by decide) ?_
        refine va_put (ci := 8) (v := .int (0 : Int32)) (ty := .int) (C := R_R) (T := F_R) (N := 32) hx hb ht iw_R ft_R to_R nm_R hown hK hP (cwR_D hd) hS 0 rfl rfl 0 (by decide) (ht _ wd_677) (fun _ h9 => h9) rfl (by decide +kernel) rfl rfl (Nat.le_of_ble_eq_true rfl) d_R_way_26 (fun H locs hP _ hS => ?_)
        replace hP : va_P D clS (cwR ad ta (tF s_5 0 (0 : Int32))) H := hP
        refine lv_aload_n hx hb d_R_way_29 rfl (lv_at hl 0 rfl) ?_
        refine va_get (ci := 8) (v := .int (0 : Int32)) (C := R_R) (T := F_R) (N := 32) hx hb ht iw_R hown hK hP 0 rfl rfl 0 (by decide) (ht _ wd_677) (fun _ h9 => h9) rfl d_R_way_30 ?_
        refine lv_if_le (tgt := 38) hx hb d_R_way_33 (by decide) (fun hc => ?_) (fun hc => ?_)
        · replace hf := ti_pos hc hf
          refine lv_aload_n hx hb d_R_way_38 rfl (lv_at hl 0 rfl) ?_
          obtain ⟨s_12, hq12, hf⟩ := tb1_of hf
          refine tr_callv (va_runV (C := R_R) (As := []) (rest := []) ⟨hx, hb, hml, hown, ht⟩ (mc_R_takeTimes l hd hq12) ⟨(tw_cb (n := 0) ht wc_R_takeTimes wd_43 wd_881 ⟨rfl, rfl⟩ (by decide +kernel) ⟨(Nat.le_of_ble_eq_true rfl), (Nat.le_of_ble_eq_true rfl)⟩), ht _ wd_883, ht _ wd_26⟩ ⟨tP_blind, va_recv hK hP (ci := 8) (q0 := 0) rfl rfl, fun U hU hW => ⟨rfl, by rw [hU]; exact hP, va_K.moved hW.alike hK, tW_warm hW hN⟩⟩ rfl rfl hl.1 rfl (lv_room (Nat.le_of_ble_eq_true rfl)) d_R_way_39 ⟨Nat.zero_le _, Nat.zero_le _⟩) hS (fun _ h => h) (fun _ h => h) (fun H locs hP hS => ?_)
          refine lv_aload_n hx hb d_R_way_42 rfl (lv_at hl 0 rfl) ?_
          refine lv_iload_n hx hb d_R_way_43 rfl (lv_at hl 1 rfl) ?_
          refine lv_iload_n hx hb d_R_way_44 rfl (lv_at hl 2 rfl) ?_
          obtain ⟨r_13, s_13, hq13, hf⟩ := tb2_of hf
          refine tr_calli (va_runV (C := R_R) (As := [.int p0, .int p1]) (rest := []) ⟨hx, hb, hml, hown, ht⟩ (mc_R_findWay l hd hq13) ⟨(tw_cb (n := 2) ht wc_R_findWay wd_43 wd_893 ⟨rfl, rfl⟩ (by decide +kernel) ⟨(Nat.le_of_ble_eq_true rfl), (Nat.le_of_ble_eq_true rfl)⟩), ht _ wd_895, ht _ wd_29⟩ ⟨tP_blind, va_recv hK hP (ci := 8) (q0 := 0) rfl rfl, fun U hU hW => ⟨rfl, by rw [hU]; exact hP, va_K.moved hW.alike hK, tW_warm hW hN⟩⟩ rfl rfl hl.1 rfl (lv_room (Nat.le_of_ble_eq_true rfl)) d_R_way_45 ⟨Nat.zero_le _, Nat.zero_le _⟩) hS (fun _ h => h) (fun _ h => h) (fun H locs hP hS => ?_)
          refine lv_if_eq (tgt := 68) hx hb d_R_way_48 (by decide) (fun hc => ?_) (fun hc => ?_)
          · replace hf := ti_pos hc hf
            refine lv_iconst (v := ((-1) : Int32)) hx hb d_R_way_68 (by decide) ?_
            obtain ⟨rfl, rfl⟩ := tp_of hf
            exact W.iret (v := ((-1) : Int32)) hx hb hr (fun t ht hW => ⟨rfl, by rw [ht]; exact hP, hS.F ht⟩) hS.2.2 d_R_way_69
          · replace hf := ti_neg hc hf
            refine lv_iload_n hx hb d_R_way_51 rfl (lv_at hl 3 rfl) ?_
            refine lv_aload_n hx hb d_R_way_52 rfl (lv_at hl 0 rfl) ?_
            refine va_get (ci := 8) (v := .int (s_13.1 6)) (C := R_R) (T := F_R) (N := 32) hx hb ht iw_R hown hK hP 0 rfl rfl 31 (by decide) (ht _ wd_708) (fun _ h9 => h9) rfl d_R_way_53 ?_
            refine lv_icmp_ge (tgt := 68) hx hb d_R_way_56 (by decide) (fun hc => ?_) (fun hc => ?_)
            · replace hf := ti_pos hc hf
              refine lv_iconst (v := ((-1) : Int32)) hx hb d_R_way_68 (by decide) ?_
              obtain ⟨rfl, rfl⟩ := tp_of hf
              exact W.iret (v := ((-1) : Int32)) hx hb hr (fun t ht hW => ⟨rfl, by rw [ht]; exact hP, hS.F ht⟩) hS.2.2 d_R_way_69
            · replace hf := ti_neg hc hf
              refine lv_aload_n hx hb d_R_way_59 rfl (lv_at hl 0 rfl) ?_
              refine va_get (ci := 8) (v := .ref (ad 25)) (C := R_R) (T := F_R) (N := 32) hx hb ht iw_R hown hK hP 0 rfl rfl 30 (by decide) (ht _ wd_707) (fun _ h9 => h9) rfl d_R_way_60 ?_
              refine lv_iload_n hx hb d_R_way_63 rfl (lv_at hl 3 rfl) ?_
              obtain ⟨hi14, hf⟩ := tg_of hf
              refine va_iald (f := s_13.2.1 19) hx hb hK hP 25 24 rfl rfl hi14 d_R_way_64 ?_
              refine lv_goto (tgt := 69) hx hb d_R_way_65 (by decide) ?_
              obtain ⟨rfl, rfl⟩ := tp_of hf
              exact W.iret (v := (s_13.2.1 19 p2.toNatClampNeg)) hx hb hr (fun t ht hW => ⟨rfl, by rw [ht]; exact hP, hS.F ht⟩) hS.2.2 d_R_way_69
        · replace hf := ti_neg hc hf
          refine lv_iconst (v := (0 : Int32)) hx hb d_R_way_36 (by decide) ?_
          obtain ⟨rfl, rfl⟩ := tp_of hf
          exact W.iret (v := (0 : Int32)) hx hb hr (fun t ht hW => ⟨rfl, by rw [ht]; exact hP, hS.F ht⟩) hS.2.2 d_R_way_37
abbrev rm_R_least : Room := { frames := 2, cells := 0, slots := 0, locals := 44 }
set_option maxHeartbeats 4000000 in
set_option maxRecDepth 100000 in
theorem mc_R_least (l : Launch) {D : va_G} {ad : Nat → Nat} {ta : Nat → ClassId} (hd : tD 26 ad) {σ σ' : tS} {p0 : Int32} {p1 : Int32} {r : Int32} (hf : mf_R_least p0 p1 σ = some (r, σ')) : Met l y_R_least (.code y_R_least b_R_least 3 (some .int) :: tw) rm_R_least (tP D clS (tyR ta) (cwR ad ta σ) [.ref (ad 0), .int p0, .int p1]) (tQ D clS (cwR ad ta σ') (some (.int r)) (tA 26 ad)) 0 0 (tA 26 ad) := by
  refine Met.ofW (cc := b_R_least) (maxL := 3) (ret := (some .int)) (by decide) rfl ?_
  intro p e s m args below meth c s₁ B hml hv
  obtain ⟨rfl, hP, hK, hN⟩ := hv
  have hx := B.exec
  have hb := B.bytes
  have hr := B.returns
  have ht : ∀ w ∈ tw, w.before [.ref (ad 0), .int p0, .int p1].toArray s = true := fun w h => atoms_spec (ws := (.code y_R_least b_R_least 3 (some .int) :: tw)) B.pre w (List.mem_cons_of_mem _ h)
  have hown : s.vm.findClass R_R = some m.cls := findClass_of_methodNamed B.named
  have hlocks := B.notSynchronized
  have CX : tC p s m [.ref (ad 0), .int p0, .int p1].toArray meth c b_R_least (some .int) 3 R_R D clS (tyR ta) := ⟨hx, hb, hr, hml, hown, ht, hlocks, hK, hN⟩
  have hS : va_S (tA 26 ad) s.heap s.heap [] := va_S.rf
  have hl := lv_entry ([.ref (ad 0), .int p0, .int p1]) (n := 3) (Nat.le_of_ble_eq_true rfl)
  rw [lg_entry_eq]
  generalize (lg_sl ([.ref (ad 0), .int p0, .int p1]) ++ List.replicate (3 - (lg_sl ([.ref (ad 0), .int p0, .int p1])).length) Slot.unset).toArray = ls at hl ⊢
  replace hl : lv_has ls 3 [(0, .ref (ad 0)), (1, .int p0), (2, .int p1)] := hl
  unfold mf_R_least at hf
  refine lv_aload_n hx hb d_R_least_0 rfl (lv_at hl 0 rfl) ?_
  refine lv_aload_n hx hb d_R_least_1 rfl (lv_at hl 0 rfl) ?_
  refine lv_iload_n hx hb d_R_least_2 rfl (lv_at hl 1 rfl) ?_
  obtain ⟨r_1, s_1, hq1, hf⟩ := tb2_of hf
  refine tr_calli (va_runV (C := R_R) (As := [.int p0]) (rest := [.ref (ad 0)]) ⟨hx, hb, hml, hown, ht⟩ (mc_R_isNode l hd hq1) ⟨(tw_cb (n := 1) ht wc_R_isNode wd_43 wd_786 ⟨rfl, rfl⟩ (by decide +kernel) ⟨(Nat.le_of_ble_eq_true rfl), (Nat.le_of_ble_eq_true rfl)⟩), ht _ wd_788, ht _ wd_16⟩ ⟨tP_blind, va_recv hK hP (ci := 8) (q0 := 0) rfl rfl, fun U hU hW => ⟨rfl, by rw [hU]; exact hP, va_K.moved hW.alike hK, tW_warm hW hN⟩⟩ rfl rfl hl.1 rfl (lv_room (Nat.le_of_ble_eq_true rfl)) d_R_least_3 ⟨Nat.zero_le _, Nat.zero_le _⟩) hS (fun _ h => h.elim) (fun _ h => h.elim) (fun H locs hP hS => ?_)
  refine lv_if_eq (tgt := 21) hx hb d_R_least_6 (by decide) (fun hc => ?_) (fun hc => ?_)
  · replace hf := ti_pos hc hf
    refine lv_iconst (v := (1 : Int32)) hx hb d_R_least_21 (by decide) ?_
    refine va_put (ci := 8) (v := .int (1 : Int32)) (ty := .int) (C := R_R) (T := F_R) (N := 32) hx hb ht iw_R ft_R to_R nm_R hown hK hP (cwR_D hd) hS 0 rfl rfl 0 (by decide) (ht _ wd_677) (fun _ h9 => h9) rfl (by decide +kernel) rfl rfl (Nat.le_of_ble_eq_true rfl) d_R_least_22 (fun H locs hP _ hS => ?_)
    replace hP : va_P D clS (cwR ad ta (tF s_1 0 (1 : Int32))) H := hP
    refine lv_aload_n hx hb d_R_least_25 rfl (lv_at hl 0 rfl) ?_
    refine va_get (ci := 8) (v := .int (1 : Int32)) (C := R_R) (T := F_R) (N := 32) hx hb ht iw_R hown hK hP 0 rfl rfl 0 (by decide) (ht _ wd_677) (fun _ h9 => h9) rfl d_R_least_26 ?_
    refine lv_if_le (tgt := 34) hx hb d_R_least_29 (by decide) (fun hc => ?_) (fun hc => ?_)
    · replace hf := ti_pos hc hf
      refine lv_aload_n hx hb d_R_least_34 rfl (lv_at hl 0 rfl) ?_
      obtain ⟨s_2, hq2, hf⟩ := tb1_of hf
      refine tr_callv (va_runV (C := R_R) (As := []) (rest := []) ⟨hx, hb, hml, hown, ht⟩ (mc_R_takeTimes l hd hq2) ⟨(tw_cb (n := 0) ht wc_R_takeTimes wd_43 wd_881 ⟨rfl, rfl⟩ (by decide +kernel) ⟨(Nat.le_of_ble_eq_true rfl), (Nat.le_of_ble_eq_true rfl)⟩), ht _ wd_883, ht _ wd_26⟩ ⟨tP_blind, va_recv hK hP (ci := 8) (q0 := 0) rfl rfl, fun U hU hW => ⟨rfl, by rw [hU]; exact hP, va_K.moved hW.alike hK, tW_warm hW hN⟩⟩ rfl rfl hl.1 rfl (lv_room (Nat.le_of_ble_eq_true rfl)) d_R_least_35 ⟨Nat.zero_le _, Nat.zero_le _⟩) hS (fun _ h => h) (fun _ h => h) (fun H locs hP hS => ?_)
      refine lv_aload_n hx hb d_R_least_38 rfl (lv_at hl 0 rfl) ?_
      refine lv_iload_n hx hb d_R_least_39 rfl (lv_at hl 2 rfl) ?_
      obtain ⟨s_3, hq3, hf⟩ := tb1_of hf
      refine tr_callv (va_runV (C := R_R) (As := [.int p1]) (rest := []) ⟨hx, hb, hml, hown, ht⟩ (mc_R_findNear l hd hq3) ⟨(tw_cb (n := 1) ht wc_R_findNear wd_43 wd_897 ⟨rfl, rfl⟩ (by decide +kernel) ⟨(Nat.le_of_ble_eq_true rfl), (Nat.le_of_ble_eq_true rfl)⟩), ht _ wd_899, ht _ wd_30⟩ ⟨tP_blind, va_recv hK hP (ci := 8) (q0 := 0) rfl rfl, fun U hU hW => ⟨rfl, by rw [hU]; exact hP, va_K.moved hW.alike hK, tW_warm hW hN⟩⟩ rfl rfl hl.1 rfl (lv_room (Nat.le_of_ble_eq_true rfl)) d_R_least_40 ⟨Nat.zero_le _, Nat.zero_le _⟩) hS (fun _ h => h) (fun _ h => h) (fun H locs hP hS => ?_)
      refine lv_aload_n hx hb d_R_least_43 rfl (lv_at hl 0 rfl) ?_
      refine va_get (ci := 8) (v := .ref (ad 23)) (C := R_R) (T := F_R) (N := 32) hx hb ht iw_R hown hK hP 0 rfl rfl 28 (by decide) (ht _ wd_705) (fun _ h9 => h9) rfl d_R_least_44 ?_
      refine lv_iload_n hx hb d_R_least_47 rfl (lv_at hl 1 rfl) ?_
      obtain ⟨hi4, hf⟩ := tg_of hf
      refine va_lald (f := s_3.2.2 4) hx hb hK hP 23 22 rfl rfl hi4 d_R_least_48 ?_
      refine lv_ldc2 (v := (1000000000000 : Int64)) hx hb hown (ht _ wd_901) d_R_least_49 ?_
      refine W.lcmp hx hb d_R_least_52 ?_
      refine lv_if_ne (tgt := 60) hx hb d_R_least_53 (by decide) (fun hc => ?_) (fun hc => ?_)
      · replace hf := ti_neg hc hf
        refine lv_aload_n hx hb d_R_least_60 rfl (lv_at hl 0 rfl) ?_
        refine va_get (ci := 8) (v := .ref (ad 23)) (C := R_R) (T := F_R) (N := 32) hx hb ht iw_R hown hK hP 0 rfl rfl 28 (by decide) (ht _ wd_705) (fun _ h9 => h9) rfl d_R_least_61 ?_
        refine lv_iload_n hx hb d_R_least_64 rfl (lv_at hl 1 rfl) ?_
        obtain ⟨hi5, hf⟩ := tg_of hf
        refine va_lald (f := s_3.2.2 4) hx hb hK hP 23 22 rfl rfl hi5 d_R_least_65 ?_
        refine lv_l2i hx hb d_R_least_66 rfl ?_
        obtain ⟨rfl, rfl⟩ := tp_of hf
        exact W.iret (v := ((s_3.2.2 4 p0.toNatClampNeg)).toInt32) hx hb hr (fun t ht hW => ⟨rfl, by rw [ht]; exact hP, hS.F ht⟩) hS.2.2 d_R_least_67
      · replace hf := ti_pos hc hf
        refine lv_iconst (v := ((-1) : Int32)) hx hb d_R_least_56 (by decide) ?_
        refine lv_goto (tgt := 67) hx hb d_R_least_57 (by decide) ?_
        obtain ⟨rfl, rfl⟩ := tp_of hf
        exact W.iret (v := ((-1) : Int32)) hx hb hr (fun t ht hW => ⟨rfl, by rw [ht]; exact hP, hS.F ht⟩) hS.2.2 d_R_least_67
    · replace hf := ti_neg hc hf
      refine lv_iconst (v := (0 : Int32)) hx hb d_R_least_32 (by decide) ?_
      obtain ⟨rfl, rfl⟩ := tp_of hf
      exact W.iret (v := (0 : Int32)) hx hb hr (fun t ht hW => ⟨rfl, by rw [ht]; exact hP, hS.F ht⟩) hS.2.2 d_R_least_33
  · replace hf := ti_neg hc hf
    refine lv_aload_n hx hb d_R_least_9 rfl (lv_at hl 0 rfl) ?_
    refine lv_iload_n hx hb d_R_least_10 rfl (lv_at hl 2 rfl) ?_
    obtain ⟨r_6, s_6, hq6, hf⟩ := tb2_of hf
    refine tr_calli (va_runV (C := R_R) (As := [.int p1]) (rest := [.ref (ad 0)]) ⟨hx, hb, hml, hown, ht⟩ (mc_R_isNode l hd hq6) ⟨(tw_cb (n := 1) ht wc_R_isNode wd_43 wd_786 ⟨rfl, rfl⟩ (by decide +kernel) ⟨(Nat.le_of_ble_eq_true rfl), (Nat.le_of_ble_eq_true rfl)⟩), ht _ wd_788, ht _ wd_16⟩ ⟨tP_blind, va_recv hK hP (ci := 8) (q0 := 0) rfl rfl, fun U hU hW => ⟨rfl, by rw [hU]; exact hP, va_K.moved hW.alike hK, tW_warm hW hN⟩⟩ rfl rfl hl.1 rfl (lv_room (Nat.le_of_ble_eq_true rfl)) d_R_least_11 ⟨Nat.zero_le _, Nat.zero_le _⟩) hS (fun _ h => h.elim) (fun _ h => h.elim) (fun H locs hP hS => ?_)
    refine lv_if_eq (tgt := 21) hx hb d_R_least_14 (by decide) (fun hc => ?_) (fun hc => ?_)
    · replace hf := ti_pos hc hf
      refine lv_iconst (v := (1 : Int32)) hx hb d_R_least_21 (by decide) ?_
      refine va_put (ci := 8) (v := .int (1 : Int32)) (ty := .int) (C := R_R) (T := F_R) (N := 32) hx hb ht iw_R ft_R to_R nm_R hown hK hP (cwR_D hd) hS 0 rfl rfl 0 (by decide) (ht _ wd_677) (fun _ h9 => h9) rfl (by decide +kernel) rfl rfl (Nat.le_of_ble_eq_true rfl) d_R_least_22 (fun H locs hP _ hS => ?_)
      replace hP : va_P D clS (cwR ad ta (tF s_6 0 (1 : Int32))) H := hP
      refine lv_aload_n hx hb d_R_least_25 rfl (lv_at hl 0 rfl) ?_
      refine va_get (ci := 8) (v := .int (1 : Int32)) (C := R_R) (T := F_R) (N := 32) hx hb ht iw_R hown hK hP 0 rfl rfl 0 (by decide) (ht _ wd_677) (fun _ h9 => h9) rfl d_R_least_26 ?_
      refine lv_if_le (tgt := 34) hx hb d_R_least_29 (by decide) (fun hc => ?_) (fun hc => ?_)
      · replace hf := ti_pos hc hf
        refine lv_aload_n hx hb d_R_least_34 rfl (lv_at hl 0 rfl) ?_
        obtain ⟨s_7, hq7, hf⟩ := tb1_of hf
        refine tr_callv (va_runV (C := R_R) (As := []) (rest := []) ⟨hx, hb, hml, hown, ht⟩ (mc_R_takeTimes l hd hq7) ⟨(tw_cb (n := 0) ht wc_R_takeTimes wd_43 wd_881 ⟨rfl, rfl⟩ (by decide +kernel) ⟨(Nat.le_of_ble_eq_true rfl), (Nat.le_of_ble_eq_true rfl)⟩), ht _ wd_883, ht _ wd_26⟩ ⟨tP_blind, va_recv hK hP (ci := 8) (q0 := 0) rfl rfl, fun U hU hW => ⟨rfl, by rw [hU]; exact hP, va_K.moved hW.alike hK, tW_warm hW hN⟩⟩ rfl rfl hl.1 rfl (lv_room (Nat.le_of_ble_eq_true rfl)) d_R_least_35 ⟨Nat.zero_le _, Nat.zero_le _⟩) hS (fun _ h => h) (fun _ h => h) (fun H locs hP hS => ?_)
        refine lv_aload_n hx hb d_R_least_38 rfl (lv_at hl 0 rfl) ?_
        refine lv_iload_n hx hb d_R_least_39 rfl (lv_at hl 2 rfl) ?_
        obtain ⟨s_8, hq8, hf⟩ := tb1_of hf
        refine tr_callv (va_runV (C := R_R) (As := [.int p1]) (rest := []) ⟨hx, hb, hml, hown, ht⟩ (mc_R_findNear l hd hq8) ⟨(tw_cb (n := 1) ht wc_R_findNear wd_43 wd_897 ⟨rfl, rfl⟩ (by decide +kernel) ⟨(Nat.le_of_ble_eq_true rfl), (Nat.le_of_ble_eq_true rfl)⟩), ht _ wd_899, ht _ wd_30⟩ ⟨tP_blind, va_recv hK hP (ci := 8) (q0 := 0) rfl rfl, fun U hU hW => ⟨rfl, by rw [hU]; exact hP, va_K.moved hW.alike hK, tW_warm hW hN⟩⟩ rfl rfl hl.1 rfl (lv_room (Nat.le_of_ble_eq_true rfl)) d_R_least_40 ⟨Nat.zero_le _, Nat.zero_le _⟩) hS (fun _ h => h) (fun _ h => h) (fun H locs hP hS => ?_)
        refine lv_aload_n hx hb d_R_least_43 rfl (lv_at hl 0 rfl) ?_
        refine va_get (ci := 8) (v := .ref (ad 23)) (C := R_R) (T := F_R) (N := 32) hx hb ht iw_R hown hK hP 0 rfl rfl 28 (by decide) (ht _ wd_705) (fun _ h9 => h9) rfl d_R_least_44 ?_
        refine lv_iload_n hx hb d_R_least_47 rfl (lv_at hl 1 rfl) ?_
        obtain ⟨hi9, hf⟩ := tg_of hf
        refine va_lald (f := s_8.2.2 4) hx hb hK hP 23 22 rfl rfl hi9 d_R_least_48 ?_
        refine lv_ldc2 (v := (1000000000000 : Int64)) hx hb hown (ht _ wd_901) d_R_least_49 ?_
        refine W.lcmp hx hb d_R_least_52 ?_
        refine lv_if_ne (tgt := 60) hx hb d_R_least_53 (by decide) (fun hc => ?_) (fun hc => ?_)
        · replace hf := ti_neg hc hf
          refine lv_aload_n hx hb d_R_least_60 rfl (lv_at hl 0 rfl) ?_
          refine va_get (ci := 8) (v := .ref (ad 23)) (C := R_R) (T := F_R) (N := 32) hx hb ht iw_R hown hK hP 0 rfl rfl 28 (by decide) (ht _ wd_705) (fun _ h9 => h9) rfl d_R_least_61 ?_
          refine lv_iload_n hx hb d_R_least_64 rfl (lv_at hl 1 rfl) ?_
          obtain ⟨hi10, hf⟩ := tg_of hf
          refine va_lald (f := s_8.2.2 4) hx hb hK hP 23 22 rfl rfl hi10 d_R_least_65 ?_
          refine lv_l2i hx hb d_R_least_66 rfl ?_
          obtain ⟨rfl, rfl⟩ := tp_of hf
          exact W.iret (v := ((s_8.2.2 4 p0.toNatClampNeg)).toInt32) hx hb hr (fun t ht hW => ⟨rfl, by rw [ht]; exact hP, hS.F ht⟩) hS.2.2 d_R_least_67
        · replace hf := ti_pos hc hf
          refine lv_iconst (v := ((-1) : Int32)) hx hb d_R_least_56 (by decide) ?_
          refine lv_goto (tgt := 67) hx hb d_R_least_57 (by decide) ?_
          obtain ⟨rfl, rfl⟩ := tp_of hf
          exact W.iret (v := ((-1) : Int32)) hx hb hr (fun t ht hW => ⟨rfl, by rw [ht]; exact hP, hS.F ht⟩) hS.2.2 d_R_least_67
      · replace hf := ti_neg hc hf
        refine lv_iconst (v := (0 : Int32)) hx hb d_R_least_32 (by decide) ?_
        obtain ⟨rfl, rfl⟩ := tp_of hf
        exact W.iret (v := (0 : Int32)) hx hb hr (fun t ht hW => ⟨rfl, by rw [ht]; exact hP, hS.F ht⟩) hS.2.2 d_R_least_33
    · replace hf := ti_neg hc hf
      refine lv_iconst (v := (0 : Int32)) hx hb d_R_least_17 (by decide) ?_
      refine lv_goto (tgt := 22) hx hb d_R_least_18 (by decide) ?_
      refine va_put (ci := 8) (v := .int (0 : Int32)) (ty := .int) (C := R_R) (T := F_R) (N := 32) hx hb ht iw_R ft_R to_R nm_R hown hK hP (cwR_D hd) hS 0 rfl rfl 0 (by decide) (ht _ wd_677) (fun _ h9 => h9) rfl (by decide +kernel) rfl rfl (Nat.le_of_ble_eq_true rfl) d_R_least_22 (fun H locs hP _ hS => ?_)
      replace hP : va_P D clS (cwR ad ta (tF s_6 0 (0 : Int32))) H := hP
      refine lv_aload_n hx hb d_R_least_25 rfl (lv_at hl 0 rfl) ?_
      refine va_get (ci := 8) (v := .int (0 : Int32)) (C := R_R) (T := F_R) (N := 32) hx hb ht iw_R hown hK hP 0 rfl rfl 0 (by decide) (ht _ wd_677) (fun _ h9 => h9) rfl d_R_least_26 ?_
      refine lv_if_le (tgt := 34) hx hb d_R_least_29 (by decide) (fun hc => ?_) (fun hc => ?_)
      · replace hf := ti_pos hc hf
        refine lv_aload_n hx hb d_R_least_34 rfl (lv_at hl 0 rfl) ?_
        obtain ⟨s_11, hq11, hf⟩ := tb1_of hf
        refine tr_callv (va_runV (C := R_R) (As := []) (rest := []) ⟨hx, hb, hml, hown, ht⟩ (mc_R_takeTimes l hd hq11) ⟨(tw_cb (n := 0) ht wc_R_takeTimes wd_43 wd_881 ⟨rfl, rfl⟩ (by decide +kernel) ⟨(Nat.le_of_ble_eq_true rfl), (Nat.le_of_ble_eq_true rfl)⟩), ht _ wd_883, ht _ wd_26⟩ ⟨tP_blind, va_recv hK hP (ci := 8) (q0 := 0) rfl rfl, fun U hU hW => ⟨rfl, by rw [hU]; exact hP, va_K.moved hW.alike hK, tW_warm hW hN⟩⟩ rfl rfl hl.1 rfl (lv_room (Nat.le_of_ble_eq_true rfl)) d_R_least_35 ⟨Nat.zero_le _, Nat.zero_le _⟩) hS (fun _ h => h) (fun _ h => h) (fun H locs hP hS => ?_)
        refine lv_aload_n hx hb d_R_least_38 rfl (lv_at hl 0 rfl) ?_
        refine lv_iload_n hx hb d_R_least_39 rfl (lv_at hl 2 rfl) ?_
        obtain ⟨s_12, hq12, hf⟩ := tb1_of hf
        refine tr_callv (va_runV (C := R_R) (As := [.int p1]) (rest := []) ⟨hx, hb, hml, hown, ht⟩ (mc_R_findNear l hd hq12) ⟨(tw_cb (n := 1) ht wc_R_findNear wd_43 wd_897 ⟨rfl, rfl⟩ (by decide +kernel) ⟨(Nat.le_of_ble_eq_true rfl), (Nat.le_of_ble_eq_true rfl)⟩), ht _ wd_899, ht _ wd_30⟩ ⟨tP_blind, va_recv hK hP (ci := 8) (q0 := 0) rfl rfl, fun U hU hW => ⟨rfl, by rw [hU]; exact hP, va_K.moved hW.alike hK, tW_warm hW hN⟩⟩ rfl rfl hl.1 rfl (lv_room (Nat.le_of_ble_eq_true rfl)) d_R_least_40 ⟨Nat.zero_le _, Nat.zero_le _⟩) hS (fun _ h => h) (fun _ h => h) (fun H locs hP hS => ?_)
        refine lv_aload_n hx hb d_R_least_43 rfl (lv_at hl 0 rfl) ?_
        refine va_get (ci := 8) (v := .ref (ad 23)) (C := R_R) (T := F_R) (N := 32) hx hb ht iw_R hown hK hP 0 rfl rfl 28 (by decide) (ht _ wd_705) (fun _ h9 => h9) rfl d_R_least_44 ?_
        refine lv_iload_n hx hb d_R_least_47 rfl (lv_at hl 1 rfl) ?_
        obtain ⟨hi13, hf⟩ := tg_of hf
        refine va_lald (f := s_12.2.2 4) hx hb hK hP 23 22 rfl rfl hi13 d_R_least_48 ?_
        refine lv_ldc2 (v := (1000000000000 : Int64)) hx hb hown (ht _ wd_901) d_R_least_49 ?_
        refine W.lcmp hx hb d_R_least_52 ?_
        refine lv_if_ne (tgt := 60) hx hb d_R_least_53 (by decide) (fun hc => ?_) (fun hc => ?_)
        · replace hf := ti_neg hc hf
          refine lv_aload_n hx hb d_R_least_60 rfl (lv_at hl 0 rfl) ?_
          refine va_get (ci := 8) (v := .ref (ad 23)) (C := R_R) (T := F_R) (N := 32) hx hb ht iw_R hown hK hP 0 rfl rfl 28 (by decide) (ht _ wd_705) (fun _ h9 => h9) rfl d_R_least_61 ?_
          refine lv_iload_n hx hb d_R_least_64 rfl (lv_at hl 1 rfl) ?_
          obtain ⟨hi14, hf⟩ := tg_of hf
          refine va_lald (f := s_12.2.2 4) hx hb hK hP 23 22 rfl rfl hi14 d_R_least_65 ?_
          refine lv_l2i hx hb d_R_least_66 rfl ?_
          obtain ⟨rfl, rfl⟩ := tp_of hf
          exact W.iret (v := ((s_12.2.2 4 p0.toNatClampNeg)).toInt32) hx hb hr (fun t ht hW => ⟨rfl, by rw [ht]; exact hP, hS.F ht⟩) hS.2.2 d_R_least_67
        · replace hf := ti_pos hc hf
          refine lv_iconst (v := ((-1) : Int32)) hx hb d_R_least_56 (by decide) ?_
          refine lv_goto (tgt := 67) hx hb d_R_least_57 (by decide) ?_
          obtain ⟨rfl, rfl⟩ := tp_of hf
          exact W.iret (v := ((-1) : Int32)) hx hb hr (fun t ht hW => ⟨rfl, by rw [ht]; exact hP, hS.F ht⟩) hS.2.2 d_R_least_67
      · replace hf := ti_neg hc hf
        refine lv_iconst (v := (0 : Int32)) hx hb d_R_least_32 (by decide) ?_
        obtain ⟨rfl, rfl⟩ := tp_of hf
        exact W.iret (v := (0 : Int32)) hx hb hr (fun t ht hW => ⟨rfl, by rw [ht]; exact hP, hS.F ht⟩) hS.2.2 d_R_least_33
