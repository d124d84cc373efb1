abbrev rm_T_assignPart : Room := { frames := 3, cells := 0, slots := 0, locals := 75 }
set_option maxHeartbeats 4000000 in
set_option maxRecDepth 100000 in
theorem mw_T_assignPart_46 {p : Program} {l : Launch} {e : Env} {s : State} {m : MethodId} {args : Array Value} {below : List Frame} {meth : Method} {c : Code} {D : va_G} {ad : Nat → Nat} {ta : Nat → ClassId} {Q : State → Prop} (CX : tC p s m args meth c b_T_assignPart none 5 R_T D clS (tyC ta)) (hd : tD 37 ad) : ∀ (k : Nat) (v1 : Int32) (v2 : Int32) (v3 : Int32) (σ : tS) (res : (Int32 × Int32 × Int32 × tS)), ml_T_assignPart_46 k v1 v2 v3 σ = some res → ∀ (H : Heap) (locs : List Loc), va_P D clS (cwC ad ta σ) H → va_S (tA 37 ad) s.heap H locs → ∀ (ls : Array Slot), lv_has ls 5 [(0, .ref (ad 0)), (1, .int v1), (2, .int v2), (3, .int v3)] → (∀ (H : Heap) (locs : List Loc), va_P D clS (cwC ad ta res.2.2.2) H → va_S (tA 37 ad) s.heap H locs → ∀ (ls : Array Slot), lv_has ls 5 [(0, .ref (ad 0)), (1, .int res.1), (2, .int res.2.1), (3, .int res.2.2.1)] → W p l e rm_T_assignPart s m args below meth c H locs 0 0 Q (F0 m 106 ls [])) → W p l e rm_T_assignPart s m args below meth c H locs 0 0 Q (F0 m 46 ls []) := by
  obtain ⟨hx, hb, hr, hml, hown, ht, hlocks, hK, hN⟩ := id CX
  intro k
  induction k with
  | zero =>
    intro v1 v2 v3 σ res hf
    exact tn_no hf
  | succ k ih =>
    intro v1 v2 v3 σ res hf H locs hP hS ls hl kk
    replace hf : ms_T_assignPart_46 (ml_T_assignPart_46 k) v1 v2 v3 σ = some res := hf
    unfold ms_T_assignPart_46 at hf
    refine lv_iload_n hx hb d_T_assignPart_46 rfl (lv_at hl 3 rfl) ?_
    refine lv_aload_n hx hb d_T_assignPart_47 rfl (lv_at hl 0 rfl) ?_
    refine va_get (ci := 0) (v := .ref (ad 1)) (C := R_T) (T := F_T) (N := 7) hx hb ht iw_T hown hK hP 0 rfl rfl 1 (by decide) (ht _ wd_246) (fun _ h9 => h9) rfl d_T_assignPart_48 ?_
    refine va_get (ci := 1) (v := .int (σ.1 1)) (C := R_Z) (T := F_Z) (N := 4) hx hb ht iw_Z hown hK hP 1 rfl rfl 0 (by decide) (ht _ wd_66) (fun _ h9 => h9) rfl d_T_assignPart_51 ?_
    refine lv_icmp_ge (tgt := 106) hx hb d_T_assignPart_54 (by decide) (fun hc => ?_) (fun hc => ?_)
    · replace hf := ti_pos hc hf
      obtain rfl := ts_of hf
      exact kk _ _ hP hS _ (lv_sub hl [0, 1, 2, 3] rfl)
    · replace hf := ti_neg hc hf
      refine lv_iload_n hx hb d_T_assignPart_57 rfl (lv_at hl 3 rfl) ?_
      refine lv_iload_n hx hb d_T_assignPart_58 rfl (lv_at hl 2 rfl) ?_
      obtain ⟨r_4, s_4, hq4, hf⟩ := tb2_of hf
      refine tr_calli (va_runS (As := [.int v3, .int v2]) (rest := []) ⟨hx, hb, hml, hown, ht⟩ (mc_T_pairOf l hd hq4) ⟨(tw_cb (n := 2) ht wc_T_pairOf wd_34 wd_313 ⟨rfl, rfl⟩ (by decide +kernel) ⟨(Nat.le_of_ble_eq_true rfl), (Nat.le_of_ble_eq_true rfl)⟩), ht _ wd_314⟩ ⟨tP_blind, fun U hU hW => ⟨rfl, by rw [hU]; exact hP, va_K.moved hW.alike hK, tW_warm hW hN⟩⟩ rfl rfl hl.1 rfl (lv_room (Nat.le_of_ble_eq_true rfl)) d_T_assignPart_59 ⟨Nat.zero_le _, Nat.zero_le _⟩) hS (fun _ h => h.elim) (fun _ h => h.elim) (fun H locs hP hS => ?_)
      refine lv_istore (lv' := [(4, .int r_4), (0, .ref (ad 0)), (1, .int v1), (2, .int v2), (3, .int v3)]) hx hb d_T_assignPart_62 hl (by decide) rfl (fun ls hl => ?_)
      refine lv_aload_n hx hb d_T_assignPart_64 rfl (lv_at hl 1 rfl) ?_
      refine va_get (ci := 0) (v := .ref (ad 6)) (C := R_T) (T := F_T) (N := 7) hx hb ht iw_T hown hK hP 0 rfl rfl 6 (by decide) (ht _ wd_251) (fun _ h9 => h9) rfl d_T_assignPart_65 ?_
      refine lv_iload hx hb d_T_assignPart_68 (lv_at hl 0 rfl) ?_
      refine lv_aload_n hx hb d_T_assignPart_70 rfl (lv_at hl 1 rfl) ?_
      refine va_get (ci := 0) (v := .ref (ad 6)) (C := R_T) (T := F_T) (N := 7) hx hb ht iw_T hown hK hP 0 rfl rfl 6 (by decide) (ht _ wd_251) (fun _ h9 => h9) rfl d_T_assignPart_71 ?_
      refine lv_iload hx hb d_T_assignPart_74 (lv_at hl 0 rfl) ?_
      refine lv_iload_n hx hb d_T_assignPart_76 rfl (lv_at hl 2 rfl) ?_
      obtain ⟨r_5, s_5, hq5, hf⟩ := tb2_of hf
      refine tr_calli (va_runV (C := R_A) (As := [.int r_4, .int v1]) (rest := [.int r_4, .ref (ad 6)]) ⟨hx, hb, hml, hown, ht⟩ (mc_A_tripsOfPart l hd hq5) ⟨(tw_cb (n := 2) ht wc_A_tripsOfPart wd_42 wd_598 ⟨rfl, rfl⟩ (by decide +kernel) ⟨(Nat.le_of_ble_eq_true rfl), (Nat.le_of_ble_eq_true rfl)⟩), ht _ wd_599, ht _ wd_600⟩ ⟨tP_blind, va_recv hK hP (ci := 6) (q0 := 6) rfl rfl, fun U hU hW => ⟨rfl, by rw [hU]; exact hP, va_K.moved hW.alike hK, tW_warm hW hN⟩⟩ rfl rfl hl.1 rfl (lv_room (Nat.le_of_ble_eq_true rfl)) d_T_assignPart_77 ⟨Nat.zero_le _, Nat.zero_le _⟩) hS (fun _ h => h.elim) (fun _ h => h.elim) (fun H locs hP hS => ?_)
      refine lv_aload_n hx hb d_T_assignPart_80 rfl (lv_at hl 1 rfl) ?_
      refine va_get (ci := 0) (v := .ref (ad 1)) (C := R_T) (T := F_T) (N := 7) hx hb ht iw_T hown hK hP 0 rfl rfl 1 (by decide) (ht _ wd_246) (fun _ h9 => h9) rfl d_T_assignPart_81 ?_
      refine va_get (ci := 1) (v := .ref (ad 9)) (C := R_Z) (T := F_Z) (N := 4) hx hb ht iw_Z hown hK hP 1 rfl rfl 1 (by decide) (ht _ wd_68) (fun _ h9 => h9) rfl d_T_assignPart_84 ?_
      refine lv_iload_n hx hb d_T_assignPart_87 rfl (lv_at hl 4 rfl) ?_
      obtain ⟨hi6, hf⟩ := tg_of hf
      refine va_iald (f := s_5.2.1 0) hx hb hK hP 9 0 rfl rfl hi6 d_T_assignPart_88 ?_
      refine lv_aload_n hx hb d_T_assignPart_89 rfl (lv_at hl 1 rfl) ?_
      refine va_get (ci := 0) (v := .ref (ad 5)) (C := R_T) (T := F_T) (N := 7) hx hb ht iw_T hown hK hP 0 rfl rfl 5 (by decide) (ht _ wd_250) (fun _ h9 => h9) rfl d_T_assignPart_90 ?_
      refine lv_aload_n hx hb d_T_assignPart_93 rfl (lv_at hl 1 rfl) ?_
      refine va_get (ci := 0) (v := .ref (ad 4)) (C := R_T) (T := F_T) (N := 7) hx hb ht iw_T hown hK hP 0 rfl rfl 4 (by decide) (ht _ wd_249) (fun _ h9 => h9) rfl d_T_assignPart_94 ?_
      obtain ⟨s_7, hq7, hf⟩ := tb1_of hf
      refine tr_callv (va_runV (C := R_A) (As := [.int r_4, .int r_5, .int (s_5.2.1 0 v3.toNatClampNeg), .ref (ad 5), .ref (ad 4)]) (rest := []) ⟨hx, hb, hml, hown, ht⟩ (mc_A_send l hd hq7) ⟨(tw_cb (n := 5) ht wc_A_send wd_42 wd_602 ⟨rfl, rfl⟩ (by decide +kernel) ⟨(Nat.le_of_ble_eq_true rfl), (Nat.le_of_ble_eq_true rfl)⟩), ht _ wd_603, ht _ wd_604⟩ ⟨tP_blind, va_recv hK hP (ci := 6) (q0 := 6) rfl rfl, fun U hU hW => ⟨rfl, by rw [hU]; exact hP, va_K.moved hW.alike hK, tW_warm hW hN⟩⟩ rfl rfl hl.1 rfl (lv_room (Nat.le_of_ble_eq_true rfl)) d_T_assignPart_97 ⟨Nat.zero_le _, Nat.zero_le _⟩) hS (fun _ h => h) (fun _ h => h) (fun H locs hP hS => ?_)
      refine lv_iinc (v := (v3 + (1 : Int32))) (lv' := [(3, .int (v3 + (1 : Int32))), (4, .int r_4), (0, .ref (ad 0)), (1, .int v1), (2, .int v2)]) hx hb d_T_assignPart_100 hl (k := 4) rfl rfl (by decide) rfl (fun ls hl => ?_)
      refine lv_goto (tgt := 46) hx hb d_T_assignPart_103 (by decide) ?_
      exact ih _ _ _ _ _ hf _ _ hP hS _ (lv_sub hl [2, 3, 4, 0] rfl) kk
set_option maxHeartbeats 4000000 in
set_option maxRecDepth 100000 in
theorem mw_T_assignPart_13 {p : Program} {l : Launch} {e : Env} {s : State} {m : MethodId} {args : Array Value} {below : List Frame} {meth : Method} {c : Code} {D : va_G} {ad : Nat → Nat} {ta : Nat → ClassId} (CX : tC p s m args meth c b_T_assignPart none 5 R_T D clS (tyC ta)) (hd : tD 37 ad) : ∀ (k : Nat) (v1 : Int32) (v2 : Int32) (σ : tS) (res : tS), ml_T_assignPart_13 k v1 v2 σ = some res → ∀ (H : Heap) (locs : List Loc), va_P D clS (cwC ad ta σ) H → va_S (tA 37 ad) s.heap H locs → ∀ (ls : Array Slot), lv_has ls 5 [(0, .ref (ad 0)), (1, .int v1), (2, .int v2)] → W p l e rm_T_assignPart s m args below meth c H locs 0 0 (MQ below (tQ D clS (cwC ad ta res) none (tA 37 ad)) args s 0 0 (tA 37 ad)) (F0 m 13 ls []) := by
  obtain ⟨hx, hb, hr, hml, hown, ht, hlocks, hK, hN⟩ := id CX
  intro k
  induction k with
  | zero =>
    intro v1 v2 σ res hf
    exact tn_no hf
  | succ k ih =>
    intro v1 v2 σ res hf H locs hP hS ls hl
    replace hf : ms_T_assignPart_13 (ml_T_assignPart_13 k) v1 v2 σ = some res := hf
    unfold ms_T_assignPart_13 at hf
    refine lv_iload_n hx hb d_T_assignPart_13 rfl (lv_at hl 2 rfl) ?_
    refine lv_aload_n hx hb d_T_assignPart_14 rfl (lv_at hl 0 rfl) ?_
    refine va_get (ci := 0) (v := .ref (ad 1)) (C := R_T) (T := F_T) (N := 7) hx hb ht iw_T hown hK hP 0 rfl rfl 1 (by decide) (ht _ wd_246) (fun _ h9 => h9) rfl d_T_assignPart_15 ?_
    refine va_get (ci := 1) (v := .int (σ.1 1)) (C := R_Z) (T := F_Z) (N := 4) hx hb ht iw_Z hown hK hP 1 rfl rfl 0 (by decide) (ht _ wd_66) (fun _ h9 => h9) rfl d_T_assignPart_18 ?_
    refine lv_icmp_ge (tgt := 112) hx hb d_T_assignPart_21 (by decide) (fun hc => ?_) (fun hc => ?_)
    · replace hf := ti_pos hc hf
      obtain rfl := ts_of hf
      exact W.vret hx hb hr (fun t ht hW => ⟨rfl, by rw [ht]; exact hP, hS.F ht⟩) hS.2.2 d_T_assignPart_112
    · replace hf := ti_neg hc hf
      refine lv_aload_n hx hb d_T_assignPart_24 rfl (lv_at hl 0 rfl) ?_
      refine va_get (ci := 0) (v := .ref (ad 5)) (C := R_T) (T := F_T) (N := 7) hx hb ht iw_T hown hK hP 0 rfl rfl 5 (by decide) (ht _ wd_250) (fun _ h9 => h9) rfl d_T_assignPart_25 ?_
      refine lv_aload_n hx hb d_T_assignPart_28 rfl (lv_at hl 0 rfl) ?_
      refine va_get (ci := 0) (v := .ref (ad 1)) (C := R_T) (T := F_T) (N := 7) hx hb ht iw_T hown hK hP 0 rfl rfl 1 (by decide) (ht _ wd_246) (fun _ h9 => h9) rfl d_T_assignPart_29 ?_
      refine va_get (ci := 1) (v := .ref (ad 9)) (C := R_Z) (T := F_Z) (N := 4) hx hb ht iw_Z hown hK hP 1 rfl rfl 1 (by decide) (ht _ wd_68) (fun _ h9 => h9) rfl d_T_assignPart_32 ?_
      refine lv_iload_n hx hb d_T_assignPart_35 rfl (lv_at hl 2 rfl) ?_
      obtain ⟨hi2, hf⟩ := tg_of hf
      refine va_iald (f := σ.2.1 0) hx hb hK hP 9 0 rfl rfl hi2 d_T_assignPart_36 ?_
      refine lv_aload_n hx hb d_T_assignPart_37 rfl (lv_at hl 0 rfl) ?_
      refine va_get (ci := 0) (v := .ref (ad 4)) (C := R_T) (T := F_T) (N := 7) hx hb ht iw_T hown hK hP 0 rfl rfl 4 (by decide) (ht _ wd_249) (fun _ h9 => h9) rfl d_T_assignPart_38 ?_
      obtain ⟨s_3, hq3, hf⟩ := tb1_of hf
      refine tr_callv (va_runV (C := R_W) (As := [.int (σ.2.1 0 v2.toNatClampNeg), .ref (ad 4)]) (rest := []) ⟨hx, hb, hml, hown, ht⟩ (mc_W_aimAt l hd hq3) ⟨(tw_cb (n := 2) ht wc_W_aimAt wd_41 wd_283 ⟨rfl, rfl⟩ (by decide +kernel) ⟨(Nat.le_of_ble_eq_true rfl), (Nat.le_of_ble_eq_true rfl)⟩), ht _ wd_284, ht _ wd_285⟩ ⟨tP_blind, va_recv hK hP (ci := 5) (q0 := 5) rfl rfl, fun U hU hW => ⟨rfl, by rw [hU]; exact hP, va_K.moved hW.alike hK, tW_warm hW hN⟩⟩ rfl rfl hl.1 rfl (lv_room (Nat.le_of_ble_eq_true rfl)) d_T_assignPart_41 ⟨Nat.zero_le _, Nat.zero_le _⟩) hS (fun _ h => h) (fun _ h => h) (fun H locs hP hS => ?_)
      refine lv_iconst (v := (0 : Int32)) hx hb d_T_assignPart_44 (by decide) ?_
      refine lv_istore_n (lv' := [(3, .int (0 : Int32)), (0, .ref (ad 0)), (1, .int v1), (2, .int v2)]) hx hb d_T_assignPart_45 rfl hl (by decide) rfl (fun ls hl => ?_)
      obtain ⟨e_8, hq8, hf⟩ := tb1_of hf
      refine mw_T_assignPart_46 CX hd _ _ _ _ _ _ hq8 _ _ hP hS _ (lv_sub hl [1, 2, 3, 0] rfl) (fun H locs hP hS ls hl => ?_)
      refine lv_iinc (v := (e_8.2.1 + (1 : Int32))) (lv' := [(2, .int (e_8.2.1 + (1 : Int32))), (0, .ref (ad 0)), (1, .int e_8.1), (3, .int e_8.2.2.1)]) hx hb d_T_assignPart_106 hl (k := 2) rfl rfl (by decide) rfl (fun ls hl => ?_)
      refine lv_goto (tgt := 13) hx hb d_T_assignPart_109 (by decide) ?_
      exact ih _ _ _ _ hf _ _ hP hS _ (lv_sub hl [1, 2, 0] rfl)
set_option maxHeartbeats 4000000 in
set_option maxRecDepth 100000 in
theorem mc_T_assignPart (l : Launch) {D : va_G} {ad : Nat → Nat} {ta : Nat → ClassId} (hd : tD 37 ad) {σ σ' : tS} {p0 : Int32} (hf : mf_T_assignPart p0 σ = some σ') : Met l y_T_assignPart (.code y_T_assignPart b_T_assignPart 5 none :: tw) rm_T_assignPart (tP D clS (tyC ta) (cwC ad ta σ) [.ref (ad 0), .int p0]) (tQ D clS (cwC ad ta σ') none (tA 37 ad)) 0 0 (tA 37 ad) := by
  refine Met.ofW (cc := b_T_assignPart) (maxL := 5) (ret := none) (by decide) rfl ?_
  intro p e s m args below meth c s₁ B hml hv
  obtain ⟨rfl, hP, hK, hN⟩ := hv
  have hx := B.exec
  have hb := B.bytes
  have hr := B.returns
  have ht : ∀ w ∈ tw, w.before [.ref (ad 0), .int p0].toArray s = true := fun w h => atoms_spec (ws := (.code y_T_assignPart b_T_assignPart 5 none :: tw)) B.pre w (List.mem_cons_of_mem _ h)
  have hown : s.vm.findClass R_T = some m.cls := findClass_of_methodNamed B.named
  have hlocks := B.notSynchronized
  have CX : tC p s m [.ref (ad 0), .int p0].toArray meth c b_T_assignPart none 5 R_T D clS (tyC ta) := ⟨hx, hb, hr, hml, hown, ht, hlocks, hK, hN⟩
  have hS : va_S (tA 37 ad) s.heap s.heap [] := va_S.rf
  have hl := lv_entry ([.ref (ad 0), .int p0]) (n := 5) (Nat.le_of_ble_eq_true rfl)
  rw [lg_entry_eq]
  generalize (lg_sl ([.ref (ad 0), .int p0]) ++ List.replicate (5 - (lg_sl ([.ref (ad 0), .int p0])).length) Slot.unset).toArray = ls at hl ⊢
  replace hl : lv_has ls 5 [(0, .ref (ad 0)), (1, .int p0)] := hl
  unfold mf_T_assignPart at hf
  refine lv_aload_n hx hb d_T_assignPart_0 rfl (lv_at hl 0 rfl) ?_
  refine va_get (ci := 0) (v := .ref (ad 5)) (C := R_T) (T := F_T) (N := 7) hx hb ht iw_T hown hK hP 0 rfl rfl 5 (by decide) (ht _ wd_250) (fun _ h9 => h9) rfl d_T_assignPart_1 ?_
  refine lv_aload_n hx hb d_T_assignPart_4 rfl (lv_at hl 0 rfl) ?_
  refine va_get (ci := 0) (v := .ref (ad 4)) (C := R_T) (T := F_T) (N := 7) hx hb ht iw_T hown hK hP 0 rfl rfl 4 (by decide) (ht _ wd_249) (fun _ h9 => h9) rfl d_T_assignPart_5 ?_
  obtain ⟨s_1, hq1, hf⟩ := tb1_of hf
  refine tr_callv (va_runV (C := R_W) (As := [.ref (ad 4)]) (rest := []) ⟨hx, hb, hml, hown, ht⟩ (mc_W_holdTimes l hd hq1) ⟨(tw_cb (n := 1) ht wc_W_holdTimes wd_41 wd_271 ⟨rfl, rfl⟩ (by decide +kernel) ⟨(Nat.le_of_ble_eq_true rfl), (Nat.le_of_ble_eq_true rfl)⟩), ht _ wd_272, ht _ wd_273⟩ ⟨tP_blind, va_recv hK hP (ci := 5) (q0 := 5) rfl rfl, fun U hU hW => ⟨rfl, by rw [hU]; exact hP, va_K.moved hW.alike hK, tW_warm hW hN⟩⟩ rfl rfl hl.1 rfl (lv_room (Nat.le_of_ble_eq_true rfl)) d_T_assignPart_8 ⟨Nat.zero_le _, Nat.zero_le _⟩) hS (fun _ h => h) (fun _ h => h) (fun H locs hP hS => ?_)
  refine lv_iconst (v := (0 : Int32)) hx hb d_T_assignPart_11 (by decide) ?_
  refine lv_istore_n (lv' := [(2, .int (0 : Int32)), (0, .ref (ad 0)), (1, .int p0)]) hx hb d_T_assignPart_12 rfl hl (by decide) rfl (fun ls hl => ?_)
  exact mw_T_assignPart_13 CX hd _ _ _ _ _ hf _ _ hP hS _ (lv_sub hl [1, 2, 0] rfl)
abbrev rm_T_assignAll : Room := { frames := 4, cells := 0, slots := 0, locals := 99 }
set_option maxHeartbeats 4000000 in
set_option maxRecDepth 100000 in
theorem mw_T_assignAll_25 {p : Program} {l : Launch} {e : Env} {s : State} {m : MethodId} {args : Array Value} {below : List Frame} {meth : Method} {c : Code} {D : va_G} {ad : Nat → Nat} {ta : Nat → ClassId} (CX : tC p s m args meth c b_T_assignAll none 3 R_T D clS (tyC ta)) (hd : tD 37 ad) : ∀ (k : Nat) (v1 : Int32) (v2 : Int32) (σ : tS) (res : tS), ml_T_assignAll_25 k v1 v2 σ = some res → ∀ (H : Heap) (locs : List Loc), va_P D clS (cwC ad ta σ) H → va_S (tA 37 ad) s.heap H locs → ∀ (ls : Array Slot), lv_has ls 3 [(0, .ref (ad 0)), (1, .int v1), (2, .int v2)] → W p l e rm_T_assignAll s m args below meth c H locs 0 0 (MQ below (tQ D clS (cwC ad ta res) none (tA 37 ad)) args s 0 0 (tA 37 ad)) (F0 m 25 ls []) := by
  obtain ⟨hx, hb, hr, hml, hown, ht, hlocks, hK, hN⟩ := id CX
  intro k
  induction k with
  | zero =>
    intro v1 v2 σ res hf
    exact tn_no hf
  | succ k ih =>
    intro v1 v2 σ res hf H locs hP hS ls hl
    replace hf : ms_T_assignAll_25 (ml_T_assignAll_25 k) v1 v2 σ = some res := hf
    unfold ms_T_assignAll_25 at hf
    refine lv_iload_n hx hb d_T_assignAll_25 rfl (lv_at hl 2 rfl) ?_
    refine lv_iload_n hx hb d_T_assignAll_26 rfl (lv_at hl 1 rfl) ?_
    refine lv_icmp_ge (tgt := 41) hx hb d_T_assignAll_27 (by decide) (fun hc => ?_) (fun hc => ?_)
    · replace hf := ti_pos hc hf
      obtain rfl := ts_of hf
      exact W.vret hx hb hr (fun t ht hW => ⟨rfl, by rw [ht]; exact hP, hS.F ht⟩) hS.2.2 d_T_assignAll_41
    · replace hf := ti_neg hc hf
      refine lv_aload_n hx hb d_T_assignAll_30 rfl (lv_at hl 0 rfl) ?_
      refine lv_iload_n hx hb d_T_assignAll_31 rfl (lv_at hl 2 rfl) ?_
      obtain ⟨s_3, hq3, hf⟩ := tb1_of hf
      refine tr_callv (va_runV (C := R_T) (As := [.int v2]) (rest := []) ⟨hx, hb, hml, hown, ht⟩ (mc_T_assignPart l hd hq3) ⟨(tw_cb (n := 1) ht wc_T_assignPart wd_34 wd_594 ⟨rfl, rfl⟩ (by decide +kernel) ⟨(Nat.le_of_ble_eq_true rfl), (Nat.le_of_ble_eq_true rfl)⟩), ht _ wd_596, ht _ wd_14⟩ ⟨tP_blind, va_recv hK hP (ci := 0) (q0 := 0) rfl rfl, fun U hU hW => ⟨rfl, by rw [hU]; exact hP, va_K.moved hW.alike hK, tW_warm hW hN⟩⟩ rfl rfl hl.1 rfl (lv_room (Nat.le_of_ble_eq_true rfl)) d_T_assignAll_32 ⟨Nat.zero_le _, Nat.zero_le _⟩) hS (fun _ h => h) (fun _ h => h) (fun H locs hP hS => ?_)
      refine lv_iinc (v := (v2 + (1 : Int32))) (lv' := [(2, .int (v2 + (1 : Int32))), (0, .ref (ad 0)), (1, .int v1)]) hx hb d_T_assignAll_35 hl (k := 2) rfl rfl (by decide) rfl (fun ls hl => ?_)
      refine lv_goto (tgt := 25) hx hb d_T_assignAll_38 (by decide) ?_
      exact ih _ _ _ _ hf _ _ hP hS _ (lv_sub hl [1, 2, 0] rfl)
set_option maxHeartbeats 4000000 in
set_option maxRecDepth 100000 in
theorem mc_T_assignAll (l : Launch) {D : va_G} {ad : Nat → Nat} {ta : Nat → ClassId} (hd : tD 37 ad) {σ σ' : tS} {p0 : Int32} (hf : mf_T_assignAll p0 σ = some σ') : Met l y_T_assignAll (.code y_T_assignAll b_T_assignAll 3 none :: tw) rm_T_assignAll (tP D clS (tyC ta) (cwC ad ta σ) [.ref (ad 0), .int p0]) (tQ D clS (cwC ad ta σ') none (tA 37 ad)) 0 0 (tA 37 ad) := by
  refine Met.ofW (cc := b_T_assignAll) (maxL := 3) (ret := none) (by decide) rfl ?_
  intro p e s m args below meth c s₁ B hml hv
  obtain ⟨rfl, hP, hK, hN⟩ := hv
  have hx := B.exec
  have hb := B.bytes
  have hr := B.returns
  have ht : ∀ w ∈ tw, w.before [.ref (ad 0), .int p0].toArray s = true := fun w h => atoms_spec (ws := (.code y_T_assignAll b_T_assignAll 3 none :: tw)) B.pre w (List.mem_cons_of_mem _ h)
  have hown : s.vm.findClass R_T = some m.cls := findClass_of_methodNamed B.named
  have hlocks := B.notSynchronized
  have CX : tC p s m [.ref (ad 0), .int p0].toArray meth c b_T_assignAll none 3 R_T D clS (tyC ta) := ⟨hx, hb, hr, hml, hown, ht, hlocks, hK, hN⟩
  have hS : va_S (tA 37 ad) s.heap s.heap [] := va_S.rf
  have hl := lv_entry ([.ref (ad 0), .int p0]) (n := 3) (Nat.le_of_ble_eq_true rfl)
  rw [lg_entry_eq]
  generalize (lg_sl ([.ref (ad 0), .int p0]) ++ List.replicate (3 - (lg_sl ([.ref (ad 0), .int p0])).length) Slot.unset).toArray = ls at hl ⊢
  replace hl : lv_has ls 3 [(0, .ref (ad 0)), (1, .int p0)] := hl
  unfold mf_T_assignAll at hf
  refine lv_aload_n hx hb d_T_assignAll_0 rfl (lv_at hl 0 rfl) ?_
  refine va_get (ci := 0) (v := .ref (ad 6)) (C := R_T) (T := F_T) (N := 7) hx hb ht iw_T hown hK hP 0 rfl rfl 6 (by decide) (ht _ wd_251) (fun _ h9 => h9) rfl d_T_assignAll_1 ?_
  refine lv_iload_n hx hb d_T_assignAll_4 rfl (lv_at hl 1 rfl) ?_
  obtain ⟨s_1, hq1, hf⟩ := tb1_of hf
  refine tr_callv (va_runV (C := R_A) (As := [.int p0]) (rest := []) ⟨hx, hb, hml, hown, ht⟩ (mc_A_begin l hd hq1) ⟨(tw_cb (n := 1) ht wc_A_begin wd_42 wd_584 ⟨rfl, rfl⟩ (by decide +kernel) ⟨(Nat.le_of_ble_eq_true rfl), (Nat.le_of_ble_eq_true rfl)⟩), ht _ wd_585, ht _ wd_586⟩ ⟨tP_blind, va_recv hK hP (ci := 6) (q0 := 6) rfl rfl, fun U hU hW => ⟨rfl, by rw [hU]; exact hP, va_K.moved hW.alike hK, tW_warm hW hN⟩⟩ rfl rfl hl.1 rfl (lv_room (Nat.le_of_ble_eq_true rfl)) d_T_assignAll_5 ⟨Nat.zero_le _, Nat.zero_le _⟩) hS (fun _ h => h) (fun _ h => h) (fun H locs hP hS => ?_)
  refine lv_aload_n hx hb d_T_assignAll_8 rfl (lv_at hl 0 rfl) ?_
  refine va_get (ci := 0) (v := .ref (ad 4)) (C := R_T) (T := F_T) (N := 7) hx hb ht iw_T hown hK hP 0 rfl rfl 4 (by decide) (ht _ wd_249) (fun _ h9 => h9) rfl d_T_assignAll_9 ?_
  refine va_get (ci := 4) (v := .ref (ad 24)) (C := R_S) (T := F_S) (N := 10) hx hb ht iw_S hown hK hP 4 rfl rfl 9 (by decide) (ht _ wd_177) (fun _ h9 => h9) rfl d_T_assignAll_12 ?_
  refine lv_iconst (v := (0 : Int32)) hx hb d_T_assignAll_15 (by decide) ?_
  refine tr_fillI (f := s_1.2.1 15) ⟨hx, hb, hml, hown, ht⟩ ⟨(tw_cb (n := 2) ht wf_I wd_38 wd_589 ⟨rfl, rfl⟩ (by decide +kernel) ⟨(Nat.le_of_ble_eq_true rfl), (Nat.le_of_ble_eq_true rfl)⟩), ht _ wd_113⟩ hK hN hP (cwC_D hd) hS 24 15 rfl rfl (by decide) hl.1 (lv_room (Nat.le_of_ble_eq_true rfl)) d_T_assignAll_16 (fun H locs hP hS => ?_) ⟨Nat.zero_le _, Nat.zero_le _⟩
  replace hP : va_P D clS (cwC ad ta (tIf s_1 15 (0 : Int32))) H := hP
  refine lv_aload_n hx hb d_T_assignAll_19 rfl (lv_at hl 0 rfl) ?_
  obtain ⟨s_2, hq2, hf⟩ := tb1_of hf
  refine tr_callv (va_runV (C := R_T) (As := []) (rest := []) ⟨hx, hb, hml, hown, ht⟩ (mc_T_gatherDrivers l hd hq2) ⟨(tw_cb (n := 0) ht wc_T_gatherDrivers wd_34 wd_590 ⟨rfl, rfl⟩ (by decide +kernel) ⟨(Nat.le_of_ble_eq_true rfl), (Nat.le_of_ble_eq_true rfl)⟩), ht _ wd_592, ht _ wd_13⟩ ⟨tP_blind, va_recv hK hP (ci := 0) (q0 := 0) rfl rfl, fun U hU hW => ⟨rfl, by rw [hU]; exact hP, va_K.moved hW.alike hK, tW_warm hW hN⟩⟩ rfl rfl hl.1 rfl (lv_room (Nat.le_of_ble_eq_true rfl)) d_T_assignAll_20 ⟨Nat.zero_le _, Nat.zero_le _⟩) hS (fun _ h => h) (fun _ h => h) (fun H locs hP hS => ?_)
  refine lv_iconst (v := (0 : Int32)) hx hb d_T_assignAll_23 (by decide) ?_
  refine lv_istore_n (lv' := [(2, .int (0 : Int32)), (0, .ref (ad 0)), (1, .int p0)]) hx hb d_T_assignAll_24 rfl hl (by decide) rfl (fun ls hl => ?_)
  exact mw_T_assignAll_25 CX hd _ _ _ _ _ hf _ _ hP hS _ (lv_sub hl [1, 2, 0] rfl)
abbrev rm_T_assign : Room := { frames := 5, cells := 0, slots := 0, locals := 121 }
set_option maxHeartbeats 4000000 in
set_option maxRecDepth 100000 in
theorem mc_T_assign (l : Launch) {D : va_G} {ad : Nat → Nat} {ta : Nat → ClassId} (hd : tD 37 ad) {σ σ' : tS} {p0 : Int32} {r : Int32} (hf : mf_T_assign p0 σ = some (r, σ')) : Met l y_T_assign (.code y_T_assign b_T_assign 2 (some .int) :: tw) rm_T_assign (tP D clS (tyC ta) (cwC ad ta σ) [.ref (ad 0), .int p0]) (tQ D clS (cwC ad ta σ') (some (.int r)) (tA 37 ad)) 0 0 (tA 37 ad) := by
  refine Met.ofW (cc := b_T_assign) (maxL := 2) (ret := (some .int)) (by decide) rfl ?_
  intro p e s m args below meth c s₁ B hml hv
  obtain ⟨rfl, hP, hK, hN⟩ := hv
  have hx := B.exec
  have hb := B.bytes
  have hr := B.returns
  have ht : ∀ w ∈ tw, w.before [.ref (ad 0), .int p0].toArray s = true := fun w h => atoms_spec (ws := (.code y_T_assign b_T_assign 2 (some .int) :: tw)) B.pre w (List.mem_cons_of_mem _ h)
  have hown : s.vm.findClass R_T = some m.cls := findClass_of_methodNamed B.named
  have hlocks := B.notSynchronized
  have CX : tC p s m [.ref (ad 0), .int p0].toArray meth c b_T_assign (some .int) 2 R_T D clS (tyC ta) := ⟨hx, hb, hr, hml, hown, ht, hlocks, hK, hN⟩
  have hS : va_S (tA 37 ad) s.heap s.heap [] := va_S.rf
  have hl := lv_entry ([.ref (ad 0), .int p0]) (n := 2) (Nat.le_of_ble_eq_true rfl)
  rw [lg_entry_eq]
  generalize (lg_sl ([.ref (ad 0), .int p0]) ++ List.replicate (2 - (lg_sl ([.ref (ad 0), .int p0])).length) Slot.unset).toArray = ls at hl ⊢
  replace hl : lv_has ls 2 [(0, .ref (ad 0)), (1, .int p0)] := hl
  unfold mf_T_assign at hf
  refine lv_iload_n hx hb d_T_assign_0 rfl (lv_at hl 1 rfl) ?_
  refine lv_iconst (v := (1 : Int32)) hx hb d_T_assign_1 (by decide) ?_
  refine lv_bipush (v := (8 : Int32)) hx hb d_T_assign_2 (by decide) ?_
  obtain ⟨s_1, hq1, hf⟩ := tb1_of hf
  refine tr_callv (va_runS (As := [.int p0, .int (1 : Int32), .int (8 : Int32)]) (rest := []) ⟨hx, hb, hml, hown, ht⟩ (mc_T_needWithin l hd hq1) ⟨(tw_cb (n := 3) ht wc_T_needWithin wd_34 wd_420 ⟨rfl, rfl⟩ (by decide +kernel) ⟨(Nat.le_of_ble_eq_true rfl), (Nat.le_of_ble_eq_true rfl)⟩), ht _ wd_421⟩ ⟨tP_blind, fun U hU hW => ⟨rfl, by rw [hU]; exact hP, va_K.moved hW.alike hK, tW_warm hW hN⟩⟩ rfl rfl hl.1 rfl (lv_room (Nat.le_of_ble_eq_true rfl)) d_T_assign_4 ⟨Nat.zero_le _, Nat.zero_le _⟩) hS (fun _ h => h.elim) (fun _ h => h.elim) (fun H locs hP hS => ?_)
  refine lv_aload_n hx hb d_T_assign_7 rfl (lv_at hl 0 rfl) ?_
  refine lv_iload_n hx hb d_T_assign_8 rfl (lv_at hl 1 rfl) ?_
  obtain ⟨s_2, hq2, hf⟩ := tb1_of hf
  refine tr_callv (va_runV (C := R_T) (As := [.int p0]) (rest := []) ⟨hx, hb, hml, hown, ht⟩ (mc_T_assignAll l hd hq2) ⟨(tw_cb (n := 1) ht wc_T_assignAll wd_34 wd_580 ⟨rfl, rfl⟩ (by decide +kernel) ⟨(Nat.le_of_ble_eq_true rfl), (Nat.le_of_ble_eq_true rfl)⟩), ht _ wd_582, ht _ wd_12⟩ ⟨tP_blind, va_recv hK hP (ci := 0) (q0 := 0) rfl rfl, fun U hU hW => ⟨rfl, by rw [hU]; exact hP, va_K.moved hW.alike hK, tW_warm hW hN⟩⟩ rfl rfl hl.1 rfl (lv_room (Nat.le_of_ble_eq_true rfl)) d_T_assign_9 ⟨Nat.zero_le _, Nat.zero_le _⟩) hS (fun _ h => h) (fun _ h => h) (fun H locs hP hS => ?_)
  refine lv_aload_n hx hb d_T_assign_12 rfl (lv_at hl 0 rfl) ?_
  refine va_get (ci := 0) (v := .ref (ad 6)) (C := R_T) (T := F_T) (N := 7) hx hb ht iw_T hown hK hP 0 rfl rfl 6 (by decide) (ht _ wd_251) (fun _ h9 => h9) rfl d_T_assign_13 ?_
  refine va_get (ci := 6) (v := .int (s_2.1 4)) (C := R_A) (T := F_A) (N := 5) hx hb ht iw_A hown hK hP 6 rfl rfl 1 (by decide) (ht _ wd_227) (fun _ h9 => h9) rfl d_T_assign_16 ?_
  obtain ⟨rfl, rfl⟩ := tp_of hf
  exact W.iret (v := (s_2.1 4)) hx hb hr (fun t ht hW => ⟨rfl, by rw [ht]; exact hP, hS.F ht⟩) hS.2.2 d_T_assign_19
abbrev rm_T_flow : Room := { frames := 2, cells := 0, slots := 0, locals := 53 }
set_option maxHeartbeats 4000000 in
set_option maxRecDepth 100000 in
theorem mc_T_flow (l : Launch) {D : va_G} {ad : Nat → Nat} {ta : Nat → ClassId} (hd : tD 37 ad) {σ σ' : tS} {p0 : Int32} {p1 : Int32} {r : Int32} (hf : mf_T_flow p0 p1 σ = some (r, σ')) : Met l y_T_flow (.code y_T_flow b_T_flow 3 (some .int) :: tw) rm_T_flow (tP D clS (tyC ta) (cwC ad ta σ) [.ref (ad 0), .int p0, .int p1]) (tQ D clS (cwC ad ta σ') (some (.int r)) tNo) 0 0 tNo := by
  refine Met.ofW (cc := b_T_flow) (maxL := 3) (ret := (some .int)) (by decide) rfl ?_
  intro p e s m args below meth c s₁ B hml hv
  obtain ⟨rfl, hP, hK, hN⟩ := hv
  have hx := B.exec
  have hb := B.bytes
  have hr := B.returns
  have ht : ∀ w ∈ tw, w.before [.ref (ad 0), .int p0, .int p1].toArray s = true := fun w h => atoms_spec (ws := (.code y_T_flow b_T_flow 3 (some .int) :: tw)) B.pre w (List.mem_cons_of_mem _ h)
  have hown : s.vm.findClass R_T = some m.cls := findClass_of_methodNamed B.named
  have hlocks := B.notSynchronized
  have CX : tC p s m [.ref (ad 0), .int p0, .int p1].toArray meth c b_T_flow (some .int) 3 R_T D clS (tyC ta) := ⟨hx, hb, hr, hml, hown, ht, hlocks, hK, hN⟩
  have hS : va_S tNo s.heap s.heap [] := va_S.rf
  have hl := lv_entry ([.ref (ad 0), .int p0, .int p1]) (n := 3) (Nat.le_of_ble_eq_true rfl)
  rw [lg_entry_eq]
  generalize (lg_sl ([.ref (ad 0), .int p0, .int p1]) ++ List.replicate (3 - (lg_sl ([.ref (ad 0), .int p0, .int p1])).length) Slot.unset).toArray = ls at hl ⊢
  replace hl : lv_has ls 3 [(0, .ref (ad 0)), (1, .int p0), (2, .int p1)] := hl
  unfold mf_T_flow at hf
  refine lv_aload_n hx hb d_T_flow_0 rfl (lv_at hl 0 rfl) ?_
  refine lv_iload_n hx hb d_T_flow_1 rfl (lv_at hl 1 rfl) ?_
  obtain ⟨s_1, hq1, hf⟩ := tb1_of hf
  refine tr_callv (va_runV (C := R_T) (As := [.int p0]) (rest := []) ⟨hx, hb, hml, hown, ht⟩ (mc_T_needStreet l hd hq1) ⟨(tw_cb (n := 1) ht wc_T_needStreet wd_34 wd_450 ⟨rfl, rfl⟩ (by decide +kernel) ⟨(Nat.le_of_ble_eq_true rfl), (Nat.le_of_ble_eq_true rfl)⟩), ht _ wd_452, ht _ wd_6⟩ ⟨tP_blind, va_recv hK hP (ci := 0) (q0 := 0) rfl rfl, fun U hU hW => ⟨rfl, by rw [hU]; exact hP, va_K.moved hW.alike hK, tW_warm hW hN⟩⟩ rfl rfl hl.1 rfl (lv_room (Nat.le_of_ble_eq_true rfl)) d_T_flow_2 ⟨Nat.zero_le _, Nat.zero_le _⟩) hS (fun _ h => h.elim) (fun _ h => h.elim) (fun H locs hP hS => ?_)
  refine lv_iload_n hx hb d_T_flow_5 rfl (lv_at hl 2 rfl) ?_
  refine lv_iconst (v := (0 : Int32)) hx hb d_T_flow_6 (by decide) ?_
  refine lv_iconst (v := (1 : Int32)) hx hb d_T_flow_7 (by decide) ?_
  obtain ⟨s_2, hq2, hf⟩ := tb1_of hf
  refine tr_callv (va_runS (As := [.int p1, .int (0 : Int32), .int (1 : Int32)]) (rest := []) ⟨hx, hb, hml, hown, ht⟩ (mc_T_needWithin l hd hq2) ⟨(tw_cb (n := 3) ht wc_T_needWithin wd_34 wd_420 ⟨rfl, rfl⟩ (by decide +kernel) ⟨(Nat.le_of_ble_eq_true rfl), (Nat.le_of_ble_eq_true rfl)⟩), ht _ wd_421⟩ ⟨tP_blind, fun U hU hW => ⟨rfl, by rw [hU]; exact hP, va_K.moved hW.alike hK, tW_warm hW hN⟩⟩ rfl rfl hl.1 rfl (lv_room (Nat.le_of_ble_eq_true rfl)) d_T_flow_8 ⟨Nat.zero_le _, Nat.zero_le _⟩) hS (fun _ h => h.elim) (fun _ h => h.elim) (fun H locs hP hS => ?_)
  refine lv_iload_n hx hb d_T_flow_11 rfl (lv_at hl 2 rfl) ?_
  refine lv_if_ne (tgt := 27) hx hb d_T_flow_12 (by decide) (fun hc => ?_) (fun hc => ?_)
  · replace hf := ti_neg hc hf
    refine lv_aload_n hx hb d_T_flow_27 rfl (lv_at hl 0 rfl) ?_
    refine va_get (ci := 0) (v := .ref (ad 4)) (C := R_T) (T := F_T) (N := 7) hx hb ht iw_T hown hK hP 0 rfl rfl 4 (by decide) (ht _ wd_249) (fun _ h9 => h9) rfl d_T_flow_28 ?_
    refine lv_iload_n hx hb d_T_flow_31 rfl (lv_at hl 1 rfl) ?_
    obtain ⟨r_3, s_3, hq3, hf⟩ := tb2_of hf
    refine tr_calli (va_runV (C := R_S) (As := [.int p0]) (rest := []) ⟨hx, hb, hml, hown, ht⟩ (mc_S_timeOf l hd hq3) ⟨(tw_cb (n := 1) ht wc_S_timeOf wd_40 wd_617 ⟨rfl, rfl⟩ (by decide +kernel) ⟨(Nat.le_of_ble_eq_true rfl), (Nat.le_of_ble_eq_true rfl)⟩), ht _ wd_276, ht _ wd_277⟩ ⟨tP_blind, va_recv hK hP (ci := 4) (q0 := 4) rfl rfl, fun U hU hW => ⟨rfl, by rw [hU]; exact hP, va_K.moved hW.alike hK, tW_warm hW hN⟩⟩ rfl rfl hl.1 rfl (lv_room (Nat.le_of_ble_eq_true rfl)) d_T_flow_32 ⟨Nat.zero_le _, Nat.zero_le _⟩) hS (fun _ h => h.elim) (fun _ h => h.elim) (fun H locs hP hS => ?_)
    obtain ⟨rfl, rfl⟩ := tp_of hf
    exact W.iret (v := r_3) hx hb hr (fun t ht hW => ⟨rfl, by rw [ht]; exact hP, hS.F ht⟩) hS.2.2 d_T_flow_35
  · replace hf := ti_pos hc hf
    refine lv_aload_n hx hb d_T_flow_15 rfl (lv_at hl 0 rfl) ?_
    refine va_get (ci := 0) (v := .ref (ad 4)) (C := R_T) (T := F_T) (N := 7) hx hb ht iw_T hown hK hP 0 rfl rfl 4 (by decide) (ht _ wd_249) (fun _ h9 => h9) rfl d_T_flow_16 ?_
    refine va_get (ci := 4) (v := .ref (ad 24)) (C := R_S) (T := F_S) (N := 10) hx hb ht iw_S hown hK hP 4 rfl rfl 9 (by decide) (ht _ wd_177) (fun _ h9 => h9) rfl d_T_flow_19 ?_
    refine lv_iload_n hx hb d_T_flow_22 rfl (lv_at hl 1 rfl) ?_
    obtain ⟨hi4, hf⟩ := tg_of hf
    refine va_iald (f := s_2.2.1 15) hx hb hK hP 24 15 rfl rfl hi4 d_T_flow_23 ?_
    refine lv_goto (tgt := 35) hx hb d_T_flow_24 (by decide) ?_
    obtain ⟨rfl, rfl⟩ := tp_of hf
    exact W.iret (v := (s_2.2.1 15 p0.toNatClampNeg)) hx hb hr (fun t ht hW => ⟨rfl, by rw [ht]; exact hP, hS.F ht⟩) hS.2.2 d_T_flow_35
abbrev rm_W_streetAt : Room := { frames := 0, cells := 0, slots := 0, locals := 0 }
set_option maxHeartbeats 4000000 in
set_option maxRecDepth 100000 in
theorem mw_W_streetAt_11 {p : Program} {l : Launch} {e : Env} {s : State} {m : MethodId} {args : Array Value} {below : List Frame} {meth : Method} {c : Code} {D : va_G} {ad : Nat → Nat} {ta : Nat → ClassId} (CX : tC p s m args meth c b_W_streetAt (some .int) 6 R_W D clS (tyC ta)) (hd : tD 37 ad) : ∀ (k : Nat) (v1 : Int32) (v2 : Int32) (v4 : Int32) (v5 : Int32) (σ : tS) (res : (Int32 × tS)), ml_W_streetAt_11 k v1 v2 v4 v5 σ = some res → ∀ (H : Heap) (locs : List Loc), va_P D clS (cwC ad ta σ) H → va_S tNo s.heap H locs → ∀ (ls : Array Slot), lv_has ls 6 [(0, .ref (ad 5)), (1, .int v1), (2, .int v2), (3, .ref (ad 4)), (4, .int v4), (5, .int v5)] → W p l e rm_W_streetAt s m args below meth c H locs 0 0 (MQ below (tQ D clS (cwC ad ta res.2) (some (.int res.1)) tNo) args s 0 0 tNo) (F0 m 11 ls []) := by
  obtain ⟨hx, hb, hr, hml, hown, ht, hlocks, hK, hN⟩ := id CX
  intro k
  induction k with
  | zero =>
    intro v1 v2 v4 v5 σ res hf
    exact tn_no hf
  | succ k ih =>
    intro v1 v2 v4 v5 σ res hf H locs hP hS ls hl
    replace hf : ms_W_streetAt_11 (ml_W_streetAt_11 k) v1 v2 v4 v5 σ = some res := hf
    unfold ms_W_streetAt_11 at hf
    refine lv_iload hx hb d_W_streetAt_11 (lv_at hl 5 rfl) ?_
    refine lv_iload_n hx hb d_W_streetAt_13 rfl (lv_at hl 1 rfl) ?_
    refine lv_icmp_ge (tgt := 50) hx hb d_W_streetAt_14 (by decide) (fun hc => ?_) (fun hc => ?_)
    · replace hf := ti_pos hc hf
      refine lv_iload hx hb d_W_streetAt_50 (lv_at hl 4 rfl) ?_
      obtain rfl := ts_of hf
      exact W.iret (v := v4) hx hb hr (fun t ht hW => ⟨rfl, by rw [ht]; exact hP, hS.F ht⟩) hS.2.2 d_W_streetAt_52
    · replace hf := ti_neg hc hf
      refine lv_iload hx hb d_W_streetAt_17 (lv_at hl 5 rfl) ?_
      refine lv_bipush (v := (12 : Int32)) hx hb d_W_streetAt_19 (by decide) ?_
      refine lv_icmp_ge (tgt := 50) hx hb d_W_streetAt_21 (by decide) (fun hc => ?_) (fun hc => ?_)
      · replace hf := ti_pos hc hf
        refine lv_iload hx hb d_W_streetAt_50 (lv_at hl 4 rfl) ?_
        obtain rfl := ts_of hf
        exact W.iret (v := v4) hx hb hr (fun t ht hW => ⟨rfl, by rw [ht]; exact hP, hS.F ht⟩) hS.2.2 d_W_streetAt_52
      · replace hf := ti_neg hc hf
        refine lv_iload hx hb d_W_streetAt_24 (lv_at hl 4 rfl) ?_
        refine lv_iconst (v := ((-1) : Int32)) hx hb d_W_streetAt_26 (by decide) ?_
        refine lv_icmp_eq (tgt := 50) hx hb d_W_streetAt_27 (by decide) (fun hc => ?_) (fun hc => ?_)
        · replace hf := ti_pos hc hf
          refine lv_iload hx hb d_W_streetAt_50 (lv_at hl 4 rfl) ?_
          obtain rfl := ts_of hf
          exact W.iret (v := v4) hx hb hr (fun t ht hW => ⟨rfl, by rw [ht]; exact hP, hS.F ht⟩) hS.2.2 d_W_streetAt_52
        · replace hf := ti_neg hc hf
          refine lv_aload_n hx hb d_W_streetAt_30 rfl (lv_at hl 0 rfl) ?_
          refine va_get (ci := 5) (v := .ref (ad 27)) (C := R_W) (T := F_W) (N := 3) hx hb ht iw_W hown hK hP 5 rfl rfl 2 (by decide) (ht _ wd_209) (fun _ h9 => h9) rfl d_W_streetAt_31 ?_
          refine lv_aload_n hx hb d_W_streetAt_34 rfl (lv_at hl 3 rfl) ?_
          refine va_get (ci := 4) (v := .ref (ad 17)) (C := R_S) (T := F_S) (N := 10) hx hb ht iw_S hown hK hP 4 rfl rfl 2 (by decide) (ht _ wd_164) (fun _ h9 => h9) rfl d_W_streetAt_35 ?_
          refine lv_iload hx hb d_W_streetAt_38 (lv_at hl 4 rfl) ?_
          obtain ⟨hi2, hf⟩ := tg_of hf
          refine va_iald (f := σ.2.1 8) hx hb hK hP 17 8 rfl rfl hi2 d_W_streetAt_40 ?_
          obtain ⟨hi3, hf⟩ := tg_of hf
          refine va_iald (f := σ.2.1 17) hx hb hK hP 27 18 rfl rfl hi3 d_W_streetAt_41 ?_
          refine lv_istore (lv' := [(4, .int (σ.2.1 17 (σ.2.1 8 v4.toNatClampNeg).toNatClampNeg)), (0, .ref (ad 5)), (1, .int v1), (2, .int v2), (3, .ref (ad 4)), (5, .int v5)]) hx hb d_W_streetAt_42 hl (by decide) rfl (fun ls hl => ?_)
          refine lv_iinc (v := (v5 + (1 : Int32))) (lv' := [(5, .int (v5 + (1 : Int32))), (4, .int (σ.2.1 17 (σ.2.1 8 v4.toNatClampNeg).toNatClampNeg)), (0, .ref (ad 5)), (1, .int v1), (2, .int v2), (3, .ref (ad 4))]) hx hb d_W_streetAt_44 hl (k := 5) rfl rfl (by decide) rfl (fun ls hl => ?_)
          refine lv_goto (tgt := 11) hx hb d_W_streetAt_47 (by decide) ?_
          exact ih _ _ _ _ _ _ hf _ _ hP hS _ (lv_sub hl [2, 3, 4, 5, 1, 0] rfl)
set_option maxHeartbeats 4000000 in
set_option maxRecDepth 100000 in
theorem mc_W_streetAt (l : Launch) {D : va_G} {ad : Nat → Nat} {ta : Nat → ClassId} (hd : tD 37 ad) {σ σ' : tS} {p0 : Int32} {p1 : Int32} {r : Int32} (hf : mf_W_streetAt p0 p1 σ = some (r, σ')) : Met l y_W_streetAt (.code y_W_streetAt b_W_streetAt 6 (some .int) :: tw) rm_W_streetAt (tP D clS (tyC ta) (cwC ad ta σ) [.ref (ad 5), .int p0, .int p1, .ref (ad 4)]) (tQ D clS (cwC ad ta σ') (some (.int r)) tNo) 0 0 tNo := by
  refine Met.ofW (cc := b_W_streetAt) (maxL := 6) (ret := (some .int)) (by decide) rfl ?_
  intro p e s m args below meth c s₁ B hml hv
  obtain ⟨rfl, hP, hK, hN⟩ := hv
  have hx := B.exec
  have hb := B.bytes
  have hr := B.returns
  have ht : ∀ w ∈ tw, w.before [.ref (ad 5), .int p0, .int p1, .ref (ad 4)].toArray s = true := fun w h => atoms_spec (ws := (.code y_W_streetAt b_W_streetAt 6 (some .int) :: tw)) B.pre w (List.mem_cons_of_mem _ h)
  have hown : s.vm.findClass R_W = some m.cls := findClass_of_methodNamed B.named
  have hlocks := B.notSynchronized
  have CX : tC p s m [.ref (ad 5), .int p0, .int p1, .ref (ad 4)].toArray meth c b_W_streetAt (some .int) 6 R_W D clS (tyC ta) := ⟨hx, hb, hr, hml, hown, ht, hlocks, hK, hN⟩
  have hS : va_S tNo s.heap s.heap [] := va_S.rf
  have hl := lv_entry ([.ref (ad 5), .int p0, .int p1, .ref (ad 4)]) (n := 6) (Nat.le_of_ble_eq_true rfl)
  rw [lg_entry_eq]
  generalize (lg_sl ([.ref (ad 5), .int p0, .int p1, .ref (ad 4)]) ++ List.replicate (6 - (lg_sl ([.ref (ad 5), .int p0, .int p1, .ref (ad 4)])).length) Slot.unset).toArray = ls at hl ⊢
  replace hl : lv_has ls 6 [(0, .ref (ad 5)), (1, .int p0), (2, .int p1), (3, .ref (ad 4))] := hl
  unfold mf_W_streetAt at hf
  refine lv_aload_n hx hb d_W_streetAt_0 rfl (lv_at hl 0 rfl) ?_
  refine va_get (ci := 5) (v := .ref (ad 27)) (C := R_W) (T := F_W) (N := 3) hx hb ht iw_W hown hK hP 5 rfl rfl 2 (by decide) (ht _ wd_209) (fun _ h9 => h9) rfl d_W_streetAt_1 ?_
  refine lv_iload_n hx hb d_W_streetAt_4 rfl (lv_at hl 2 rfl) ?_
  obtain ⟨hi1, hf⟩ := tg_of hf
  refine va_iald (f := σ.2.1 17) hx hb hK hP 27 18 rfl rfl hi1 d_W_streetAt_5 ?_
  refine lv_istore (lv' := [(4, .int (σ.2.1 17 p1.toNatClampNeg)), (0, .ref (ad 5)), (1, .int p0), (2, .int p1), (3, .ref (ad 4))]) hx hb d_W_streetAt_6 hl (by decide) rfl (fun ls hl => ?_)
  refine lv_iconst (v := (0 : Int32)) hx hb d_W_streetAt_8 (by decide) ?_
  refine lv_istore (lv' := [(5, .int (0 : Int32)), (4, .int (σ.2.1 17 p1.toNatClampNeg)), (0, .ref (ad 5)), (1, .int p0), (2, .int p1), (3, .ref (ad 4))]) hx hb d_W_streetAt_9 hl (by decide) rfl (fun ls hl => ?_)
  exact mw_W_streetAt_11 CX hd _ _ _ _ _ _ _ hf _ _ hP hS _ (lv_sub hl [2, 3, 4, 5, 1, 0] rfl)
abbrev rm_T_way : Room := { frames := 3, cells := 0, slots := 0, locals := 75 }
set_option maxHeartbeats 4000000 in
set_option maxRecDepth 100000 in
theorem mc_T_way (l : Launch) {D : va_G} {ad : Nat → Nat} {ta : Nat → ClassId} (hd : tD 37 ad) {σ σ' : tS} {p0 : Int32} {p1 : Int32} {p2 : Int32} {r : Int32} (hf : mf_T_way p0 p1 p2 σ = some (r, σ')) : Met l y_T_way (.code y_T_way b_T_way 4 (some .int) :: tw) rm_T_way (tP D clS (tyC ta) (cwC ad ta σ) [.ref (ad 0), .int p0, .int p1, .int p2]) (tQ D clS (cwC ad ta σ') (some (.int r)) (tA 37 ad)) 0 0 (tA 37 ad) := by
  refine Met.ofW (cc := b_T_way) (maxL := 4) (ret := (some .int)) (by decide) rfl ?_
  intro p e s m args below meth c s₁ B hml hv
  obtain ⟨rfl, hP, hK, hN⟩ := hv
  have hx := B.exec
  have hb := B.bytes
  have hr := B.returns
  have ht : ∀ w ∈ tw, w.before [.ref (ad 0), .int p0, .int p1, .int p2].toArray s = true := fun w h => atoms_spec (ws := (.code y_T_way b_T_way 4 (some .int) :: tw)) B.pre w (List.mem_cons_of_mem _ h)
  have hown : s.vm.findClass R_T = some m.cls := findClass_of_methodNamed B.named
  have hlocks := B.notSynchronized
  have CX : tC p s m [.ref (ad 0), .int p0, .int p1, .int p2].toArray meth c b_T_way (some .int) 4 R_T D clS (tyC ta) := ⟨hx, hb, hr, hml, hown, ht, hlocks, hK, hN⟩
  have hS : va_S (tA 37 ad) s.heap s.heap [] := va_S.rf
  have hl := lv_entry ([.ref (ad 0), .int p0, .int p1, .int p2]) (n := 4) (Nat.le_of_ble_eq_true rfl)
  rw [lg_entry_eq]
  generalize (lg_sl ([.ref (ad 0), .int p0, .int p1, .int p2]) ++ List.replicate (4 - (lg_sl ([.ref (ad 0), .int p0, .int p1, .int p2])).length) Slot.unset).toArray = ls at hl ⊢
  replace hl : lv_has ls 4 [(0, .ref (ad 0)), (1, .int p0), (2, .int p1), (3, .int p2)] := hl
  unfold mf_T_way at hf
  refine lv_aload_n hx hb d_T_way_0 rfl (lv_at hl 0 rfl) ?_
  refine lv_iload_n hx hb d_T_way_1 rfl (lv_at hl 1 rfl) ?_
  obtain ⟨s_1, hq1, hf⟩ := tb1_of hf
  refine tr_callv (va_runV (C := R_T) (As := [.int p0]) (rest := []) ⟨hx, hb, hml, hown, ht⟩ (mc_T_needNode l hd hq1) ⟨(tw_cb (n := 1) ht wc_T_needNode wd_34 wd_399 ⟨rfl, rfl⟩ (by decide +kernel) ⟨(Nat.le_of_ble_eq_true rfl), (Nat.le_of_ble_eq_true rfl)⟩), ht _ wd_401, ht _ wd_5⟩ ⟨tP_blind, va_recv hK hP (ci := 0) (q0 := 0) rfl rfl, fun U hU hW => ⟨rfl, by rw [hU]; exact hP, va_K.moved hW.alike hK, tW_warm hW hN⟩⟩ rfl rfl hl.1 rfl (lv_room (Nat.le_of_ble_eq_true rfl)) d_T_way_2 ⟨Nat.zero_le _, Nat.zero_le _⟩) hS (fun _ h => h.elim) (fun _ h => h.elim) (fun H locs hP hS => ?_)
  refine lv_aload_n hx hb d_T_way_5 rfl (lv_at hl 0 rfl) ?_
  refine lv_iload_n hx hb d_T_way_6 rfl (lv_at hl 2 rfl) ?_
  obtain ⟨s_2, hq2, hf⟩ := tb1_of hf
  refine tr_callv (va_runV (C := R_T) (As := [.int p1]) (rest := []) ⟨hx, hb, hml, hown, ht⟩ (mc_T_needNode l hd hq2) ⟨(tw_cb (n := 1) ht wc_T_needNode wd_34 wd_399 ⟨rfl, rfl⟩ (by decide +kernel) ⟨(Nat.le_of_ble_eq_true rfl), (Nat.le_of_ble_eq_true rfl)⟩), ht _ wd_401, ht _ wd_5⟩ ⟨tP_blind, va_recv hK hP (ci := 0) (q0 := 0) rfl rfl, fun U hU hW => ⟨rfl, by rw [hU]; exact hP, va_K.moved hW.alike hK, tW_warm hW hN⟩⟩ rfl rfl hl.1 rfl (lv_room (Nat.le_of_ble_eq_true rfl)) d_T_way_7 ⟨Nat.zero_le _, Nat.zero_le _⟩) hS (fun _ h => h.elim) (fun _ h => h.elim) (fun H locs hP hS => ?_)
  refine lv_iload_n hx hb d_T_way_10 rfl (lv_at hl 3 rfl) ?_
  refine lv_if_ge (tgt := 24) hx hb d_T_way_11 (by decide) (fun hc => ?_) (fun hc => ?_)
  · replace hf := ti_pos hc hf
    refine lv_aload_n hx hb d_T_way_24 rfl (lv_at hl 0 rfl) ?_
    refine va_get (ci := 0) (v := .ref (ad 5)) (C := R_T) (T := F_T) (N := 7) hx hb ht iw_T hown hK hP 0 rfl rfl 5 (by decide) (ht _ wd_250) (fun _ h9 => h9) rfl d_T_way_25 ?_
    refine lv_aload_n hx hb d_T_way_28 rfl (lv_at hl 0 rfl) ?_
    refine va_get (ci := 0) (v := .ref (ad 4)) (C := R_T) (T := F_T) (N := 7) hx hb ht iw_T hown hK hP 0 rfl rfl 4 (by decide) (ht _ wd_249) (fun _ h9 => h9) rfl d_T_way_29 ?_
    obtain ⟨s_3, hq3, hf⟩ := tb1_of hf
    refine tr_callv (va_runV (C := R_W) (As := [.ref (ad 4)]) (rest := []) ⟨hx, hb, hml, hown, ht⟩ (mc_W_holdTimes l hd hq3) ⟨(tw_cb (n := 1) ht wc_W_holdTimes wd_41 wd_271 ⟨rfl, rfl⟩ (by decide +kernel) ⟨(Nat.le_of_ble_eq_true rfl), (Nat.le_of_ble_eq_true rfl)⟩), ht _ wd_272, ht _ wd_273⟩ ⟨tP_blind, va_recv hK hP (ci := 5) (q0 := 5) rfl rfl, fun U hU hW => ⟨rfl, by rw [hU]; exact hP, va_K.moved hW.alike hK, tW_warm hW hN⟩⟩ rfl rfl hl.1 rfl (lv_room (Nat.le_of_ble_eq_true rfl)) d_T_way_32 ⟨Nat.zero_le _, Nat.zero_le _⟩) hS (fun _ h => h) (fun _ h => h) (fun H locs hP hS => ?_)
    refine lv_aload_n hx hb d_T_way_35 rfl (lv_at hl 0 rfl) ?_
    refine va_get (ci := 0) (v := .ref (ad 5)) (C := R_T) (T := F_T) (N := 7) hx hb ht iw_T hown hK hP 0 rfl rfl 5 (by decide) (ht _ wd_250) (fun _ h9 => h9) rfl d_T_way_36 ?_
    refine lv_iload_n hx hb d_T_way_39 rfl (lv_at hl 2 rfl) ?_
    refine lv_aload_n hx hb d_T_way_40 rfl (lv_at hl 0 rfl) ?_
    refine va_get (ci := 0) (v := .ref (ad 4)) (C := R_T) (T := F_T) (N := 7) hx hb ht iw_T hown hK hP 0 rfl rfl 4 (by decide) (ht _ wd_249) (fun _ h9 => h9) rfl d_T_way_41 ?_
    obtain ⟨s_4, hq4, hf⟩ := tb1_of hf
    refine tr_callv (va_runV (C := R_W) (As := [.int p1, .ref (ad 4)]) (rest := []) ⟨hx, hb, hml, hown, ht⟩ (mc_W_aimAt l hd hq4) ⟨(tw_cb (n := 2) ht wc_W_aimAt wd_41 wd_283 ⟨rfl, rfl⟩ (by decide +kernel) ⟨(Nat.le_of_ble_eq_true rfl), (Nat.le_of_ble_eq_true rfl)⟩), ht _ wd_284, ht _ wd_285⟩ ⟨tP_blind, va_recv hK hP (ci := 5) (q0 := 5) rfl rfl, fun U hU hW => ⟨rfl, by rw [hU]; exact hP, va_K.moved hW.alike hK, tW_warm hW hN⟩⟩ rfl rfl hl.1 rfl (lv_room (Nat.le_of_ble_eq_true rfl)) d_T_way_44 ⟨Nat.zero_le _, Nat.zero_le _⟩) hS (fun _ h => h) (fun _ h => h) (fun H locs hP hS => ?_)
    refine lv_aload_n hx hb d_T_way_47 rfl (lv_at hl 0 rfl) ?_
    refine va_get (ci := 0) (v := .ref (ad 5)) (C := R_T) (T := F_T) (N := 7) hx hb ht iw_T hown hK hP 0 rfl rfl 5 (by decide) (ht _ wd_250) (fun _ h9 => h9) rfl d_T_way_48 ?_
    refine lv_iload_n hx hb d_T_way_51 rfl (lv_at hl 3 rfl) ?_
    refine lv_iload_n hx hb d_T_way_52 rfl (lv_at hl 1 rfl) ?_
    refine lv_aload_n hx hb d_T_way_53 rfl (lv_at hl 0 rfl) ?_
    refine va_get (ci := 0) (v := .ref (ad 4)) (C := R_T) (T := F_T) (N := 7) hx hb ht iw_T hown hK hP 0 rfl rfl 4 (by decide) (ht _ wd_249) (fun _ h9 => h9) rfl d_T_way_54 ?_
    obtain ⟨r_5, s_5, hq5, hf⟩ := tb2_of hf
    refine tr_calli (va_runV (C := R_W) (As := [.int p2, .int p0, .ref (ad 4)]) (rest := []) ⟨hx, hb, hml, hown, ht⟩ (mc_W_streetAt l hd hq5) ⟨(tw_cb (n := 3) ht wc_W_streetAt wd_41 wd_626 ⟨rfl, rfl⟩ (by decide +kernel) ⟨(Nat.le_of_ble_eq_true rfl), (Nat.le_of_ble_eq_true rfl)⟩), ht _ wd_627, ht _ wd_628⟩ ⟨tP_blind, va_recv hK hP (ci := 5) (q0 := 5) rfl rfl, fun U hU hW => ⟨rfl, by rw [hU]; exact hP, va_K.moved hW.alike hK, tW_warm hW hN⟩⟩ rfl rfl hl.1 rfl (lv_room (Nat.le_of_ble_eq_true rfl)) d_T_way_57 ⟨Nat.zero_le _, Nat.zero_le _⟩) hS (fun _ h => h.elim) (fun _ h => h.elim) (fun H locs hP hS => ?_)
    obtain ⟨rfl, rfl⟩ := tp_of hf
    exact W.iret (v := r_5) hx hb hr (fun t ht hW => ⟨rfl, by rw [ht]; exact hP, hS.F ht⟩) hS.2.2 d_T_way_60
  · replace hf := ti_neg hc hf
    exact tn_no hf
abbrev rm_T_least : Room := { frames := 3, cells := 0, slots := 0, locals := 75 }
set_option maxHeartbeats 4000000 in
set_option maxRecDepth 100000 in
theorem mc_T_least (l : Launch) {D : va_G} {ad : Nat → Nat} {ta : Nat → ClassId} (hd : tD 37 ad) {σ σ' : tS} {p0 : Int32} {p1 : Int32} {r : Int32} (hf : mf_T_least p0 p1 σ = some (r, σ')) : Met l y_T_least (.code y_T_least b_T_least 3 (some .int) :: tw) rm_T_least (tP D clS (tyC ta) (cwC ad ta σ) [.ref (ad 0), .int p0, .int p1]) (tQ D clS (cwC ad ta σ') (some (.int r)) (tA 37 ad)) 0 0 (tA 37 ad) := by
  refine Met.ofW (cc := b_T_least) (maxL := 3) (ret := (some .int)) (by decide) rfl ?_
  intro p e s m args below meth c s₁ B hml hv
  obtain ⟨rfl, hP, hK, hN⟩ := hv
  have hx := B.exec
  have hb := B.bytes
  have hr := B.returns
  have ht : ∀ w ∈ tw, w.before [.ref (ad 0), .int p0, .int p1].toArray s = true := fun w h => atoms_spec (ws := (.code y_T_least b_T_least 3 (some .int) :: tw)) B.pre w (List.mem_cons_of_mem _ h)
  have hown : s.vm.findClass R_T = some m.cls := findClass_of_methodNamed B.named
  have hlocks := B.notSynchronized
  have CX : tC p s m [.ref (ad 0), .int p0, .int p1].toArray meth c b_T_least (some .int) 3 R_T D clS (tyC ta) := ⟨hx, hb, hr, hml, hown, ht, hlocks, hK, hN⟩
  have hS : va_S (tA 37 ad) s.heap s.heap [] := va_S.rf
  have hl := lv_entry ([.ref (ad 0), .int p0, .int p1]) (n := 3) (Nat.le_of_ble_eq_true rfl)
  rw [lg_entry_eq]
  generalize (lg_sl ([.ref (ad 0), .int p0, .int p1]) ++ List.replicate (3 - (lg_sl ([.ref (ad 0), .int p0, .int p1])).length) Slot.unset).toArray = ls at hl ⊢
  replace hl : lv_has ls 3 [(0, .ref (ad 0)), (1, .int p0), (2, .int p1)] := hl
  unfold mf_T_least at hf
  refine lv_aload_n hx hb d_T_least_0 rfl (lv_at hl 0 rfl) ?_
  refine lv_iload_n hx hb d_T_least_1 rfl (lv_at hl 1 rfl) ?_
  obtain ⟨s_1, hq1, hf⟩ := tb1_of hf
  refine tr_callv (va_runV (C := R_T) (As := [.int p0]) (rest := []) ⟨hx, hb, hml, hown, ht⟩ (mc_T_needNode l hd hq1) ⟨(tw_cb (n := 1) ht wc_T_needNode wd_34 wd_399 ⟨rfl, rfl⟩ (by decide +kernel) ⟨(Nat.le_of_ble_eq_true rfl), (Nat.le_of_ble_eq_true rfl)⟩), ht _ wd_401, ht _ wd_5⟩ ⟨tP_blind, va_recv hK hP (ci := 0) (q0 := 0) rfl rfl, fun U hU hW => ⟨rfl, by rw [hU]; exact hP, va_K.moved hW.alike hK, tW_warm hW hN⟩⟩ rfl rfl hl.1 rfl (lv_room (Nat.le_of_ble_eq_true rfl)) d_T_least_2 ⟨Nat.zero_le _, Nat.zero_le _⟩) hS (fun _ h => h.elim) (fun _ h => h.elim) (fun H locs hP hS => ?_)
  refine lv_aload_n hx hb d_T_least_5 rfl (lv_at hl 0 rfl) ?_
  refine lv_iload_n hx hb d_T_least_6 rfl (lv_at hl 2 rfl) ?_
  obtain ⟨s_2, hq2, hf⟩ := tb1_of hf
  refine tr_callv (va_runV (C := R_T) (As := [.int p1]) (rest := []) ⟨hx, hb, hml, hown, ht⟩ (mc_T_needNode l hd hq2) ⟨(tw_cb (n := 1) ht wc_T_needNode wd_34 wd_399 ⟨rfl, rfl⟩ (by decide +kernel) ⟨(Nat.le_of_ble_eq_true rfl), (Nat.le_of_ble_eq_true rfl)⟩), ht _ wd_401, ht _ wd_5⟩ ⟨tP_blind, va_recv hK hP (ci := 0) (q0 := 0) rfl rfl, fun U hU hW => ⟨rfl, by rw [hU]; exact hP, va_K.moved hW.alike hK, tW_warm hW hN⟩⟩ rfl rfl hl.1 rfl (lv_room (Nat.le_of_ble_eq_true rfl)) d_T_least_7 ⟨Nat.zero_le _, Nat.zero_le _⟩) hS (fun _ h => h.elim) (fun _ h => h.elim) (fun H locs hP hS => ?_)
  refine lv_aload_n hx hb d_T_least_10 rfl (lv_at hl 0 rfl) ?_
  refine va_get (ci := 0) (v := .ref (ad 5)) (C := R_T) (T := F_T) (N := 7) hx hb ht iw_T hown hK hP 0 rfl rfl 5 (by decide) (ht _ wd_250) (fun _ h9 => h9) rfl d_T_least_11 ?_
  refine lv_aload_n hx hb d_T_least_14 rfl (lv_at hl 0 rfl) ?_
  refine va_get (ci := 0) (v := .ref (ad 4)) (C := R_T) (T := F_T) (N := 7) hx hb ht iw_T hown hK hP 0 rfl rfl 4 (by decide) (ht _ wd_249) (fun _ h9 => h9) rfl d_T_least_15 ?_
  obtain ⟨s_3, hq3, hf⟩ := tb1_of hf
  refine tr_callv (va_runV (C := R_W) (As := [.ref (ad 4)]) (rest := []) ⟨hx, hb, hml, hown, ht⟩ (mc_W_holdTimes l hd hq3) ⟨(tw_cb (n := 1) ht wc_W_holdTimes wd_41 wd_271 ⟨rfl, rfl⟩ (by decide +kernel) ⟨(Nat.le_of_ble_eq_true rfl), (Nat.le_of_ble_eq_true rfl)⟩), ht _ wd_272, ht _ wd_273⟩ ⟨tP_blind, va_recv hK hP (ci := 5) (q0 := 5) rfl rfl, fun U hU hW => ⟨rfl, by rw [hU]; exact hP, va_K.moved hW.alike hK, tW_warm hW hN⟩⟩ rfl rfl hl.1 rfl (lv_room (Nat.le_of_ble_eq_true rfl)) d_T_least_18 ⟨Nat.zero_le _, Nat.zero_le _⟩) hS (fun _ h => h) (fun _ h => h) (fun H locs hP hS => ?_)
  refine lv_aload_n hx hb d_T_least_21 rfl (lv_at hl 0 rfl) ?_
  refine va_get (ci := 0) (v := .ref (ad 5)) (C := R_T) (T := F_T) (N := 7) hx hb ht iw_T hown hK hP 0 rfl rfl 5 (by decide) (ht _ wd_250) (fun _ h9 => h9) rfl d_T_least_22 ?_
  refine lv_iload_n hx hb d_T_least_25 rfl (lv_at hl 2 rfl) ?_
  refine lv_aload_n hx hb d_T_least_26 rfl (lv_at hl 0 rfl) ?_
  refine va_get (ci := 0) (v := .ref (ad 4)) (C := R_T) (T := F_T) (N := 7) hx hb ht iw_T hown hK hP 0 rfl rfl 4 (by decide) (ht _ wd_249) (fun _ h9 => h9) rfl d_T_least_27 ?_
  obtain ⟨s_4, hq4, hf⟩ := tb1_of hf
  refine tr_callv (va_runV (C := R_W) (As := [.int p1, .ref (ad 4)]) (rest := []) ⟨hx, hb, hml, hown, ht⟩ (mc_W_aimAt l hd hq4) ⟨(tw_cb (n := 2) ht wc_W_aimAt wd_41 wd_283 ⟨rfl, rfl⟩ (by decide +kernel) ⟨(Nat.le_of_ble_eq_true rfl), (Nat.le_of_ble_eq_true rfl)⟩), ht _ wd_284, ht _ wd_285⟩ ⟨tP_blind, va_recv hK hP (ci := 5) (q0 := 5) rfl rfl, fun U hU hW => ⟨rfl, by rw [hU]; exact hP, va_K.moved hW.alike hK, tW_warm hW hN⟩⟩ rfl rfl hl.1 rfl (lv_room (Nat.le_of_ble_eq_true rfl)) d_T_least_30 ⟨Nat.zero_le _, Nat.zero_le _⟩) hS (fun _ h => h) (fun _ h => h) (fun H locs hP hS => ?_)
  refine lv_aload_n hx hb d_T_least_33 rfl (lv_at hl 0 rfl) ?_
  refine va_get (ci := 0) (v := .ref (ad 5)) (C := R_T) (T := F_T) (N := 7) hx hb ht iw_T hown hK hP 0 rfl rfl 5 (by decide) (ht _ wd_250) (fun _ h9 => h9) rfl d_T_least_34 ?_
  refine lv_iload_n hx hb d_T_least_37 rfl (lv_at hl 1 rfl) ?_
  obtain ⟨r_5, s_5, hq5, hf⟩ := tb2_of hf
  refine tr_calli (va_runV (C := R_W) (As := [.int p0]) (rest := []) ⟨hx, hb, hml, hown, ht⟩ (mc_W_timeFrom l hd hq5) ⟨(tw_cb (n := 1) ht wc_W_timeFrom wd_41 wd_309 ⟨rfl, rfl⟩ (by decide +kernel) ⟨(Nat.le_of_ble_eq_true rfl), (Nat.le_of_ble_eq_true rfl)⟩), ht _ wd_310, ht _ wd_311⟩ ⟨tP_blind, va_recv hK hP (ci := 5) (q0 := 5) rfl rfl, fun U hU hW => ⟨rfl, by rw [hU]; exact hP, va_K.moved hW.alike hK, tW_warm hW hN⟩⟩ rfl rfl hl.1 rfl (lv_room (Nat.le_of_ble_eq_true rfl)) d_T_least_38 ⟨Nat.zero_le _, Nat.zero_le _⟩) hS (fun _ h => h.elim) (fun _ h => h.elim) (fun H locs hP hS => ?_)
  obtain ⟨rfl, rfl⟩ := tp_of hf
  exact W.iret (v := r_5) hx hb hr (fun t ht hW => ⟨rfl, by rw [ht]; exact hP, hS.F ht⟩) hS.2.2 d_T_least_41
abbrev rm_T_link : Room := { frames := 1, cells := 0, slots := 0, locals := 21 }
set_option maxHeartbeats 4000000 in
set_option maxRecDepth 100000 in
theorem mc_T_link (l : Launch) {D : va_G} {ad : Nat → Nat} {ta : Nat → ClassId} (hd : tD 37 ad) {σ σ' : tS} {p0 : Int32} {p1 : Int32} {p2 : Int32} {r : Int32} (hf : mf_T_link p0 p1 p2 σ = some (r, σ')) : Met l y_T_link (.code y_T_link b_T_link 4 (some .int) :: tw) rm_T_link (tP D clS (tyC ta) (cwC ad ta σ) [.ref (ad 0), .int p0, .int p1, .int p2]) (tQ D clS (cwC ad ta σ') (some (.int r)) tNo) 0 0 tNo := by
  refine Met.ofW (cc := b_T_link) (maxL := 4) (ret := (some .int)) (by decide) rfl ?_
  intro p e s m args below meth c s₁ B hml hv
  obtain ⟨rfl, hP, hK, hN⟩ := hv
  have hx := B.exec
  have hb := B.bytes
  have hr := B.returns
  have ht : ∀ w ∈ tw, w.before [.ref (ad 0), .int p0, .int p1, .int p2].toArray s = true := fun w h => atoms_spec (ws := (.code y_T_link b_T_link 4 (some .int) :: tw)) B.pre w (List.mem_cons_of_mem _ h)
  have hown : s.vm.findClass R_T = some m.cls := findClass_of_methodNamed B.named
  have hlocks := B.notSynchronized
  have CX : tC p s m [.ref (ad 0), .int p0, .int p1, .int p2].toArray meth c b_T_link (some .int) 4 R_T D clS (tyC ta) := ⟨hx, hb, hr, hml, hown, ht, hlocks, hK, hN⟩
  have hS : va_S tNo s.heap s.heap [] := va_S.rf
  have hl := lv_entry ([.ref (ad 0), .int p0, .int p1, .int p2]) (n := 4) (Nat.le_of_ble_eq_true rfl)
  rw [lg_entry_eq]
  generalize (lg_sl ([.ref (ad 0), .int p0, .int p1, .int p2]) ++ List.replicate (4 - (lg_sl ([.ref (ad 0), .int p0, .int p1, .int p2])).length) Slot.unset).toArray = ls at hl ⊢
  replace hl : lv_has ls 4 [(0, .ref (ad 0)), (1, .int p0), (2, .int p1), (3, .int p2)] := hl
  unfold mf_T_link at hf
  refine lv_aload_n hx hb d_T_link_0 rfl (lv_at hl 0 rfl) ?_
  refine lv_iload_n hx hb d_T_link_1 rfl (lv_at hl 1 rfl) ?_
  obtain ⟨s_1, hq1, hf⟩ := tb1_of hf
  refine tr_callv (va_runV (C := R_T) (As := [.int p0]) (rest := []) ⟨hx, hb, hml, hown, ht⟩ (mc_T_needStreet l hd hq1) ⟨(tw_cb (n := 1) ht wc_T_needStreet wd_34 wd_450 ⟨rfl, rfl⟩ (by decide +kernel) ⟨(Nat.le_of_ble_eq_true rfl), (Nat.le_of_ble_eq_true rfl)⟩), ht _ wd_452, ht _ wd_6⟩ ⟨tP_blind, va_recv hK hP (ci := 0) (q0 := 0) rfl rfl, fun U hU hW => ⟨rfl, by rw [hU]; exact hP, va_K.moved hW.alike hK, tW_warm hW hN⟩⟩ rfl rfl hl.1 rfl (lv_room (Nat.le_of_ble_eq_true rfl)) d_T_link_2 ⟨Nat.zero_le _, Nat.zero_le _⟩) hS (fun _ h => h.elim) (fun _ h => h.elim) (fun H locs hP hS => ?_)
  refine lv_aload_n hx hb d_T_link_5 rfl (lv_at hl 0 rfl) ?_
  refine lv_iload_n hx hb d_T_link_6 rfl (lv_at hl 2 rfl) ?_
  obtain ⟨s_2, hq2, hf⟩ := tb1_of hf
  refine tr_callv (va_runV (C := R_T) (As := [.int p1]) (rest := []) ⟨hx, hb, hml, hown, ht⟩ (mc_T_needZone l hd hq2) ⟨(tw_cb (n := 1) ht wc_T_needZone wd_34 wd_469 ⟨rfl, rfl⟩ (by decide +kernel) ⟨(Nat.le_of_ble_eq_true rfl), (Nat.le_of_ble_eq_true rfl)⟩), ht _ wd_471, ht _ wd_7⟩ ⟨tP_blind, va_recv hK hP (ci := 0) (q0 := 0) rfl rfl, fun U hU hW => ⟨rfl, by rw [hU]; exact hP, va_K.moved hW.alike hK, tW_warm hW hN⟩⟩ rfl rfl hl.1 rfl (lv_room (Nat.le_of_ble_eq_true rfl)) d_T_link_7 ⟨Nat.zero_le _, Nat.zero_le _⟩) hS (fun _ h => h.elim) (fun _ h => h.elim) (fun H locs hP hS => ?_)
  refine lv_aload_n hx hb d_T_link_10 rfl (lv_at hl 0 rfl) ?_
  refine lv_iload_n hx hb d_T_link_11 rfl (lv_at hl 3 rfl) ?_
  obtain ⟨s_3, hq3, hf⟩ := tb1_of hf
  refine tr_callv (va_runV (C := R_T) (As := [.int p2]) (rest := []) ⟨hx, hb, hml, hown, ht⟩ (mc_T_needZone l hd hq3) ⟨(tw_cb (n := 1) ht wc_T_needZone wd_34 wd_469 ⟨rfl, rfl⟩ (by decide +kernel) ⟨(Nat.le_of_ble_eq_true rfl), (Nat.le_of_ble_eq_true rfl)⟩), ht _ wd_471, ht _ wd_7⟩ ⟨tP_blind, va_recv hK hP (ci := 0) (q0 := 0) rfl rfl, fun U hU hW => ⟨rfl, by rw [hU]; exact hP, va_K.moved hW.alike hK, tW_warm hW hN⟩⟩ rfl rfl hl.1 rfl (lv_room (Nat.le_of_ble_eq_true rfl)) d_T_link_12 ⟨Nat.zero_le _, Nat.zero_le _⟩) hS (fun _ h => h.elim) (fun _ h => h.elim) (fun H locs hP hS => ?_)
  refine lv_aload_n hx hb d_T_link_15 rfl (lv_at hl 0 rfl) ?_
  refine va_get (ci := 0) (v := .ref (ad 6)) (C := R_T) (T := F_T) (N := 7) hx hb ht iw_T hown hK hP 0 rfl rfl 6 (by decide) (ht _ wd_251) (fun _ h9 => h9) rfl d_T_link_16 ?_
  refine va_get (ci := 6) (v := .ref (ad 30)) (C := R_A) (T := F_A) (N := 5) hx hb ht iw_A hown hK hP 6 rfl rfl 4 (by decide) (ht _ wd_233) (fun _ h9 => h9) rfl d_T_link_19 ?_
  refine lv_iload_n hx hb d_T_link_22 rfl (lv_at hl 1 rfl) ?_
  refine lv_iload_n hx hb d_T_link_23 rfl (lv_at hl 2 rfl) ?_
  refine lv_iload_n hx hb d_T_link_24 rfl (lv_at hl 3 rfl) ?_
  obtain ⟨r_4, s_4, hq4, hf⟩ := tb2_of hf
  refine tr_calli (va_runS (As := [.int p1, .int p2]) (rest := [.int p0, .ref (ad 30)]) ⟨hx, hb, hml, hown, ht⟩ (mc_T_pairOf l hd hq4) ⟨(tw_cb (n := 2) ht wc_T_pairOf wd_34 wd_313 ⟨rfl, rfl⟩ (by decide +kernel) ⟨(Nat.le_of_ble_eq_true rfl), (Nat.le_of_ble_eq_true rfl)⟩), ht _ wd_314⟩ ⟨tP_blind, fun U hU hW => ⟨rfl, by rw [hU]; exact hP, va_K.moved hW.alike hK, tW_warm hW hN⟩⟩ rfl rfl hl.1 rfl (lv_room (Nat.le_of_ble_eq_true rfl)) d_T_link_25 ⟨Nat.zero_le _, Nat.zero_le _⟩) hS (fun _ h => h.elim) (fun _ h => h.elim) (fun H locs hP hS => ?_)
  obtain ⟨r_5, s_5, hq5, hf⟩ := tb2_of hf
  refine tr_calli (va_runS (As := [.int p0, .int r_4]) (rest := [.ref (ad 30)]) ⟨hx, hb, hml, hown, ht⟩ (mc_A_placeOf l hd hq5) ⟨(tw_cb (n := 2) ht wc_A_placeOf wd_42 wd_644 ⟨rfl, rfl⟩ (by decide +kernel) ⟨(Nat.le_of_ble_eq_true rfl), (Nat.le_of_ble_eq_true rfl)⟩), ht _ wd_608⟩ ⟨tP_blind, fun U hU hW => ⟨rfl, by rw [hU]; exact hP, va_K.moved hW.alike hK, tW_warm hW hN⟩⟩ rfl rfl hl.1 rfl (lv_room (Nat.le_of_ble_eq_true rfl)) d_T_link_28 ⟨Nat.zero_le _, Nat.zero_le _⟩) hS (fun _ h => h.elim) (fun _ h => h.elim) (fun H locs hP hS => ?_)
  obtain ⟨hi6, hf⟩ := tg_of hf
  refine va_iald (f := s_5.2.1 20) hx hb hK hP 30 21 rfl rfl hi6 d_T_link_31 ?_
  obtain ⟨rfl, rfl⟩ := tp_of hf
  exact W.iret (v := (s_5.2.1 20 r_5.toNatClampNeg)) hx hb hr (fun t ht hW => ⟨rfl, by rw [ht]; exact hP, hS.F ht⟩) hS.2.2 d_T_link_32
abbrev rm_T_leastTimeTo : Room := { frames := 1, cells := 0, slots := 0, locals := 21 }
set_option maxHeartbeats 4000000 in
set_option maxRecDepth 100000 in
theorem mw_T_leastTimeTo_5 {p : Program} {l : Launch} {e : Env} {s : State} {m : MethodId} {args : Array Value} {below : List Frame} {meth : Method} {c : Code} {D : va_G} {ad : Nat → Nat} {ta : Nat → ClassId} (CX : tC p s m args meth c b_T_leastTimeTo (some .long) 6 R_T D clS (tyC ta)) (hd : tD 37 ad) : ∀ (k : Nat) (v1 : Int32) (v2 : Int64) (v4 : Int32) (σ : tS) (res : (Int64 × tS)), ml_T_leastTimeTo_5 k v1 v2 v4 σ = some res → ∀ (H : Heap) (locs : List Loc), va_P D clS (cwC ad ta σ) H → va_S tNo s.heap H locs → ∀ (ls : Array Slot), lv_has ls 6 [(0, .ref (ad 0)), (1, .int v1), (2, .long v2), (4, .int v4)] → W p l e rm_T_leastTimeTo s m args below meth c H locs 0 0 (MQ below (tQ D clS (cwC ad ta res.2) (some (.long res.1)) tNo) args s 0 0 tNo) (F0 m 5 ls []) := by
  obtain ⟨hx, hb, hr, hml, hown, ht, hlocks, hK, hN⟩ := id CX
  intro k
  induction k with
  | zero =>
    intro v1 v2 v4 σ res hf
    exact tn_no hf
  | succ k ih =>
    intro v1 v2 v4 σ res hf H locs hP hS ls hl
    replace hf : ms_T_leastTimeTo_5 (ml_T_leastTimeTo_5 k) v1 v2 v4 σ = some res := hf
    unfold ms_T_leastTimeTo_5 at hf
    refine lv_iload hx hb d_T_leastTimeTo_5 (lv_at hl 3 rfl) ?_
    refine lv_aload_n hx hb d_T_leastTimeTo_7 rfl (lv_at hl 0 rfl) ?_
    refine va_get (ci := 0) (v := .ref (ad 1)) (C := R_T) (T := F_T) (N := 7) hx hb ht iw_T hown hK hP 0 rfl rfl 1 (by decide) (ht _ wd_246) (fun _ h9 => h9) rfl d_T_leastTimeTo_8 ?_
    refine va_get (ci := 1) (v := .int (σ.1 1)) (C := R_Z) (T := F_Z) (N := 4) hx hb ht iw_Z hown hK hP 1 rfl rfl 0 (by decide) (ht _ wd_66) (fun _ h9 => h9) rfl d_T_leastTimeTo_11 ?_
    refine lv_icmp_ge (tgt := 70) hx hb d_T_leastTimeTo_14 (by decide) (fun hc => ?_) (fun hc => ?_)
    · replace hf := ti_pos hc hf
      refine lv_lload_n hx hb d_T_leastTimeTo_70 rfl (lv_at hl 2 rfl) ?_
      obtain rfl := ts_of hf
      exact W.lret (v := v2) hx hb hr (fun t ht hW => ⟨rfl, by rw [ht]; exact hP, hS.F ht⟩) hS.2.2 d_T_leastTimeTo_71
    · replace hf := ti_neg hc hf
      refine lv_aload_n hx hb d_T_leastTimeTo_17 rfl (lv_at hl 0 rfl) ?_
      refine va_get (ci := 0) (v := .ref (ad 5)) (C := R_T) (T := F_T) (N := 7) hx hb ht iw_T hown hK hP 0 rfl rfl 5 (by decide) (ht _ wd_250) (fun _ h9 => h9) rfl d_T_leastTimeTo_18 ?_
      refine lv_aload_n hx hb d_T_leastTimeTo_21 rfl (lv_at hl 0 rfl) ?_
      refine va_get (ci := 0) (v := .ref (ad 1)) (C := R_T) (T := F_T) (N := 7) hx hb ht iw_T hown hK hP 0 rfl rfl 1 (by decide) (ht _ wd_246) (fun _ h9 => h9) rfl d_T_leastTimeTo_22 ?_
      refine va_get (ci := 1) (v := .ref (ad 9)) (C := R_Z) (T := F_Z) (N := 4) hx hb ht iw_Z hown hK hP 1 rfl rfl 1 (by decide) (ht _ wd_68) (fun _ h9 => h9) rfl d_T_leastTimeTo_25 ?_
      refine lv_iload hx hb d_T_leastTimeTo_28 (lv_at hl 3 rfl) ?_
      obtain ⟨hi1, hf⟩ := tg_of hf
      refine va_iald (f := σ.2.1 0) hx hb hK hP 9 0 rfl rfl hi1 d_T_leastTimeTo_30 ?_
      obtain ⟨r_2, s_2, hq2, hf⟩ := tb2_of hf
      refine tr_calli (va_runV (C := R_W) (As := [.int (σ.2.1 0 v4.toNatClampNeg)]) (rest := []) ⟨hx, hb, hml, hown, ht⟩ (mc_W_timeFrom l hd hq2) ⟨(tw_cb (n := 1) ht wc_W_timeFrom wd_41 wd_309 ⟨rfl, rfl⟩ (by decide +kernel) ⟨(Nat.le_of_ble_eq_true rfl), (Nat.le_of_ble_eq_true rfl)⟩), ht _ wd_310, ht _ wd_311⟩ ⟨tP_blind, va_recv hK hP (ci := 5) (q0 := 5) rfl rfl, fun U hU hW => ⟨rfl, by rw [hU]; exact hP, va_K.moved hW.alike hK, tW_warm hW hN⟩⟩ rfl rfl hl.1 rfl (lv_room (Nat.le_of_ble_eq_true rfl)) d_T_leastTimeTo_31 ⟨Nat.zero_le _, Nat.zero_le _⟩) hS (fun _ h => h.elim) (fun _ h => h.elim) (fun H locs hP hS => ?_)
      refine lv_istore (lv' := [(5, .int r_2), (0, .ref (ad 0)), (1, .int v1), (2, .long v2), (4, .int v4)]) hx hb d_T_leastTimeTo_34 hl (by decide) rfl (fun ls hl => ?_)
      refine lv_iload hx hb d_T_leastTimeTo_36 (lv_at hl 0 rfl) ?_
      refine lv_iconst (v := ((-1) : Int32)) hx hb d_T_leastTimeTo_38 (by decide) ?_
      refine lv_icmp_eq (tgt := 64) hx hb d_T_leastTimeTo_39 (by decide) (fun hc => ?_) (fun hc => ?_)
      · replace hf := ti_pos hc hf
        refine lv_iinc (v := (v4 + (1 : Int32))) (lv' := [(4, .int (v4 + (1 : Int32))), (5, .int r_2), (0, .ref (ad 0)), (1, .int v1), (2, .long v2)]) hx hb d_T_leastTimeTo_64 hl (k := 4) rfl rfl (by decide) rfl (fun ls hl => ?_)
        refine lv_goto (tgt := 5) hx hb d_T_leastTimeTo_67 (by decide) ?_
        exact ih _ _ _ _ _ hf _ _ hP hS _ (lv_sub hl [2, 3, 4, 0] rfl)
      · replace hf := ti_neg hc hf
        refine lv_lload_n hx hb d_T_leastTimeTo_42 rfl (lv_at hl 3 rfl) ?_
        refine lv_aload_n hx hb d_T_leastTimeTo_43 rfl (lv_at hl 1 rfl) ?_
        refine va_get (ci := 0) (v := .ref (ad 6)) (C := R_T) (T := F_T) (N := 7) hx hb ht iw_T hown hK hP 0 rfl rfl 6 (by decide) (ht _ wd_251) (fun _ h9 => h9) rfl d_T_leastTimeTo_44 ?_
        refine va_get (ci := 6) (v := .ref (ad 29)) (C := R_A) (T := F_A) (N := 5) hx hb ht iw_A hown hK hP 6 rfl rfl 3 (by decide) (ht _ wd_231) (fun _ h9 => h9) rfl d_T_leastTimeTo_47 ?_
        refine lv_iload hx hb d_T_leastTimeTo_50 (lv_at hl 4 rfl) ?_
        refine lv_iload_n hx hb d_T_leastTimeTo_52 rfl (lv_at hl 2 rfl) ?_
        obtain ⟨r_3, s_3, hq3, hf⟩ := tb2_of hf
        refine tr_calli (va_runS (As := [.int v4, .int v1]) (rest := [.ref (ad 29), .long v2]) ⟨hx, hb, hml, hown, ht⟩ (mc_T_pairOf l hd hq3) ⟨(tw_cb (n := 2) ht wc_T_pairOf wd_34 wd_313 ⟨rfl, rfl⟩ (by decide +kernel) ⟨(Nat.le_of_ble_eq_true rfl), (Nat.le_of_ble_eq_true rfl)⟩), ht _ wd_314⟩ ⟨tP_blind, fun U hU hW => ⟨rfl, by rw [hU]; exact hP, va_K.moved hW.alike hK, tW_warm hW hN⟩⟩ rfl rfl hl.1 rfl (lv_room (Nat.le_of_ble_eq_true rfl)) d_T_leastTimeTo_53 ⟨Nat.zero_le _, Nat.zero_le _⟩) hS (fun _ h => h.elim) (fun _ h => h.elim) (fun H locs hP hS => ?_)
        obtain ⟨hi4, hf⟩ := tg_of hf
        refine va_iald (f := s_3.2.1 19) hx hb hK hP 29 20 rfl rfl hi4 d_T_leastTimeTo_56 ?_
        refine lv_i2l hx hb d_T_leastTimeTo_57 rfl ?_
        refine lv_iload hx hb d_T_leastTimeTo_58 (lv_at hl 0 rfl) ?_
        refine lv_i2l hx hb d_T_leastTimeTo_60 rfl ?_
        refine lv_lmul hx hb d_T_leastTimeTo_61 ?_
        refine lv_ladd hx hb d_T_leastTimeTo_62 ?_
        refine lv_lstore_n (lv' := [(2, .long (v2 + (((s_3.2.1 19 r_3.toNatClampNeg)).toInt64 * (r_2).toInt64))), (5, .int r_2), (0, .ref (ad 0)), (1, .int v1), (4, .int v4)]) hx hb d_T_leastTimeTo_63 rfl hl (by decide) rfl (fun ls hl => ?_)
        refine lv_iinc (v := (v4 + (1 : Int32))) (lv' := [(4, .int (v4 + (1 : Int32))), (2, .long (v2 + (((s_3.2.1 19 r_3.toNatClampNeg)).toInt64 * (r_2).toInt64))), (5, .int r_2), (0, .ref (ad 0)), (1, .int v1)]) hx hb d_T_leastTimeTo_64 hl (k := 4) rfl rfl (by decide) rfl (fun ls hl => ?_)
        refine lv_goto (tgt := 5) hx hb d_T_leastTimeTo_67 (by decide) ?_
        exact ih _ _ _ _ _ hf _ _ hP hS _ (lv_sub hl [3, 4, 1, 0] rfl)
set_option maxHeartbeats 4000000 in
set_option maxRecDepth 100000 in
theorem mc_T_leastTimeTo (l : Launch) {D : va_G} {ad : Nat → Nat} {ta : Nat → ClassId} (hd : tD 37 ad) {σ σ' : tS} {p0 : Int32} {r : Int64} (hf : mf_T_leastTimeTo p0 σ = some (r, σ')) : Met l y_T_leastTimeTo (.code y_T_leastTimeTo b_T_leastTimeTo 6 (some .long) :: tw) rm_T_leastTimeTo (tP D clS (tyC ta) (cwC ad ta σ) [.ref (ad 0), .int p0]) (tQ D clS (cwC ad ta σ') (some (.long r)) tNo) 0 0 tNo := by
  refine Met.ofW (cc := b_T_leastTimeTo) (maxL := 6) (ret := (some .long)) (by decide) rfl ?_
  intro p e s m args below meth c s₁ B hml hv
  obtain ⟨rfl, hP, hK, hN⟩ := hv
  have hx := B.exec
  have hb := B.bytes
  have hr := B.returns
  have ht : ∀ w ∈ tw, w.before [.ref (ad 0), .int p0].toArray s = true := fun w h => atoms_spec (ws := (.code y_T_leastTimeTo b_T_leastTimeTo 6 (some .long) :: tw)) B.pre w (List.mem_cons_of_mem _ h)
  have hown : s.vm.findClass R_T = some m.cls := findClass_of_methodNamed B.named
  have hlocks := B.notSynchronized
  have CX : tC p s m [.ref (ad 0), .int p0].toArray meth c b_T_leastTimeTo (some .long) 6 R_T D clS (tyC ta) := ⟨hx, hb, hr, hml, hown, ht, hlocks, hK, hN⟩
  have hS : va_S tNo s.heap s.heap [] := va_S.rf
  have hl := lv_entry ([.ref (ad 0), .int p0]) (n := 6) (Nat.le_of_ble_eq_true rfl)
  rw [lg_entry_eq]
  generalize (lg_sl ([.ref (ad 0), .int p0]) ++ List.replicate (6 - (lg_sl ([.ref (ad 0), .int p0])).length) Slot.unset).toArray = ls at hl ⊢
  replace hl : lv_has ls 6 [(0, .ref (ad 0)), (1, .int p0)] := hl
  unfold mf_T_leastTimeTo at hf
  refine lv_lconst (v := (0 : Int64)) hx hb d_T_leastTimeTo_0 (by decide) ?_
  refine lv_lstore_n (lv' := [(2, .long (0 : Int64)), (0, .ref (ad 0)), (1, .int p0)]) hx hb d_T_leastTimeTo_1 rfl hl (by decide) rfl (fun ls hl => ?_)
  refine lv_iconst (v := (0 : Int32)) hx hb d_T_leastTimeTo_2 (by decide) ?_
  refine lv_istore (lv' := [(4, .int (0 : Int32)), (2, .long (0 : Int64)), (0, .ref (ad 0)), (1, .int p0)]) hx hb d_T_leastTimeTo_3 hl (by decide) rfl (fun ls hl => ?_)
  exact mw_T_leastTimeTo_5 CX hd _ _ _ _ _ _ hf _ _ hP hS _ (lv_sub hl [2, 3, 1, 0] rfl)
abbrev rm_T_gap : Room := { frames := 3, cells := 0, slots := 0, locals := 75 }
set_option maxHeartbeats 4000000 in
set_option maxRecDepth 100000 in
theorem mw_T_gap_58 {p : Program} {l : Launch} {e : Env} {s : State} {m : MethodId} {args : Array Value} {below : List Frame} {meth : Method} {c : Code} {D : va_G} {ad : Nat → Nat} {ta : Nat → ClassId} (CX : tC p s m args meth c b_T_gap (some .long) 4 R_T D clS (tyC ta)) (hd : tD 37 ad) : ∀ (k : Nat) (v1 : Int64) (v3 : Int32) (σ : tS) (res : (Int64 × tS)), ml_T_gap_58 k v1 v3 σ = some res → ∀ (H : Heap) (locs : List Loc), va_P D clS (cwC ad ta σ) H → va_S (tA 37 ad) s.heap H locs → ∀ (ls : Array Slot), lv_has ls 4 [(0, .ref (ad 0)), (1, .long v1), (3, .int v3)] → W p l e rm_T_gap s m args below meth c H locs 0 0 (MQ below (tQ D clS (cwC ad ta res.2) (some (.long res.1)) (tA 37 ad)) args s 0 0 (tA 37 ad)) (F0 m 58 ls []) := by
  obtain ⟨hx, hb, hr, hml, hown, ht, hlocks, hK, hN⟩ := id CX
  intro k
  induction k with
  | zero =>
    intro v1 v3 σ res hf
    exact tn_no hf
  | succ k ih =>
    intro v1 v3 σ res hf H locs hP hS ls hl
    replace hf : ms_T_gap_58 (ml_T_gap_58 k) v1 v3 σ = some res := hf
    unfold ms_T_gap_58 at hf
    refine lv_iload_n hx hb d_T_gap_58 rfl (lv_at hl 2 rfl) ?_
    refine lv_aload_n hx hb d_T_gap_59 rfl (lv_at hl 0 rfl) ?_
    refine va_get (ci := 0) (v := .ref (ad 1)) (C := R_T) (T := F_T) (N := 7) hx hb ht iw_T hown hK hP 0 rfl rfl 1 (by decide) (ht _ wd_246) (fun _ h9 => h9) rfl d_T_gap_60 ?_
    refine va_get (ci := 1) (v := .int (σ.1 1)) (C := R_Z) (T := F_Z) (N := 4) hx hb ht iw_Z hown hK hP 1 rfl rfl 0 (by decide) (ht _ wd_66) (fun _ h9 => h9) rfl d_T_gap_63 ?_
    refine lv_icmp_ge (tgt := 103) hx hb d_T_gap_66 (by decide) (fun hc => ?_) (fun hc => ?_)
    · replace hf := ti_pos hc hf
      refine lv_lload_n hx hb d_T_gap_103 rfl (lv_at hl 1 rfl) ?_
      obtain rfl := ts_of hf
      exact W.lret (v := v1) hx hb hr (fun t ht hW => ⟨rfl, by rw [ht]; exact hP, hS.F ht⟩) hS.2.2 d_T_gap_104
    · replace hf := ti_neg hc hf
      refine lv_aload_n hx hb d_T_gap_69 rfl (lv_at hl 0 rfl) ?_
      refine va_get (ci := 0) (v := .ref (ad 5)) (C := R_T) (T := F_T) (N := 7) hx hb ht iw_T hown hK hP 0 rfl rfl 5 (by decide) (ht _ wd_250) (fun _ h9 => h9) rfl d_T_gap_70 ?_
      refine lv_aload_n hx hb d_T_gap_73 rfl (lv_at hl 0 rfl) ?_
      refine va_get (ci := 0) (v := .ref (ad 1)) (C := R_T) (T := F_T) (N := 7) hx hb ht iw_T hown hK hP 0 rfl rfl 1 (by decide) (ht _ wd_246) (fun _ h9 => h9) rfl d_T_gap_74 ?_
      refine va_get (ci := 1) (v := .ref (ad 9)) (C := R_Z) (T := F_Z) (N := 4) hx hb ht iw_Z hown hK hP 1 rfl rfl 1 (by decide) (ht _ wd_68) (fun _ h9 => h9) rfl d_T_gap_77 ?_
      refine lv_iload_n hx hb d_T_gap_80 rfl (lv_at hl 2 rfl) ?_
      obtain ⟨hi2, hf⟩ := tg_of hf
      refine va_iald (f := σ.2.1 0) hx hb hK hP 9 0 rfl rfl hi2 d_T_gap_81 ?_
      refine lv_aload_n hx hb d_T_gap_82 rfl (lv_at hl 0 rfl) ?_
      refine va_get (ci := 0) (v := .ref (ad 4)) (C := R_T) (T := F_T) (N := 7) hx hb ht iw_T hown hK hP 0 rfl rfl 4 (by decide) (ht _ wd_249) (fun _ h9 => h9) rfl d_T_gap_83 ?_
      obtain ⟨s_3, hq3, hf⟩ := tb1_of hf
      refine tr_callv (va_runV (C := R_W) (As := [.int (σ.2.1 0 v3.toNatClampNeg), .ref (ad 4)]) (rest := []) ⟨hx, hb, hml, hown, ht⟩ (mc_W_aimAt l hd hq3) ⟨(tw_cb (n := 2) ht wc_W_aimAt wd_41 wd_283 ⟨rfl, rfl⟩ (by decide +kernel) ⟨(Nat.le_of_ble_eq_true rfl), (Nat.le_of_ble_eq_true rfl)⟩), ht _ wd_284, ht _ wd_285⟩ ⟨tP_blind, va_recv hK hP (ci := 5) (q0 := 5) rfl rfl, fun U hU hW => ⟨rfl, by rw [hU]; exact hP, va_K.moved hW.alike hK, tW_warm hW hN⟩⟩ rfl rfl hl.1 rfl (lv_room (Nat.le_of_ble_eq_true rfl)) d_T_gap_86 ⟨Nat.zero_le _, Nat.zero_le _⟩) hS (fun _ h => h) (fun _ h => h) (fun H locs hP hS => ?_)
      refine lv_lload_n hx hb d_T_gap_89 rfl (lv_at hl 1 rfl) ?_
      refine lv_aload_n hx hb d_T_gap_90 rfl (lv_at hl 0 rfl) ?_
      refine lv_iload_n hx hb d_T_gap_91 rfl (lv_at hl 2 rfl) ?_
      obtain ⟨r_4, s_4, hq4, hf⟩ := tb2_of hf
      refine tr_calll (va_runV (C := R_T) (As := [.int v3]) (rest := [.long v1]) ⟨hx, hb, hml, hown, ht⟩ (mc_T_leastTimeTo l hd hq4) ⟨(tw_cb (n := 1) ht wc_T_leastTimeTo wd_34 wd_305 ⟨rfl, rfl⟩ (by decide +kernel) ⟨(Nat.le_of_ble_eq_true rfl), (Nat.le_of_ble_eq_true rfl)⟩), ht _ wd_307, ht _ wd_3⟩ ⟨tP_blind, va_recv hK hP (ci := 0) (q0 := 0) rfl rfl, fun U hU hW => ⟨rfl, by rw [hU]; exact hP, va_K.moved hW.alike hK, tW_warm hW hN⟩⟩ rfl rfl hl.1 rfl (lv_room (Nat.le_of_ble_eq_true rfl)) d_T_gap_92 ⟨Nat.zero_le _, Nat.zero_le _⟩) hS (fun _ h => h.elim) (fun _ h => h.elim) (fun H locs hP hS => ?_)
      refine lv_lsub hx hb d_T_gap_95 ?_
      refine lv_lstore_n (lv' := [(1, .long (v1 - r_4)), (0, .ref (ad 0)), (3, .int v3)]) hx hb d_T_gap_96 rfl hl (by decide) rfl (fun ls hl => ?_)
      refine lv_iinc (v := (v3 + (1 : Int32))) (lv' := [(3, .int (v3 + (1 : Int32))), (1, .long (v1 - r_4)), (0, .ref (ad 0))]) hx hb d_T_gap_97 hl (k := 2) rfl rfl (by decide) rfl (fun ls hl => ?_)
      refine lv_goto (tgt := 58) hx hb d_T_gap_100 (by decide) ?_
      exact ih _ _ _ _ hf _ _ hP hS _ (lv_sub hl [2, 1, 0] rfl)
set_option maxHeartbeats 4000000 in
set_option maxRecDepth 100000 in
theorem mw_T_gap_15 {p : Program} {l : Launch} {e : Env} {s : State} {m : MethodId} {args : Array Value} {below : List Frame} {meth : Method} {c : Code} {D : va_G} {ad : Nat → Nat} {ta : Nat → ClassId} (CX : tC p s m args meth c b_T_gap (some .long) 4 R_T D clS (tyC ta)) (hd : tD 37 ad) : ∀ (k : Nat) (v1 : Int64) (v3 : Int32) (σ : tS) (res : (Int64 × tS)), ml_T_gap_15 k v1 v3 σ = some res → ∀ (H : Heap) (locs : List Loc), va_P D clS (cwC ad ta σ) H → va_S (tA 37 ad) s.heap H locs → ∀ (ls : Array Slot), lv_has ls 4 [(0, .ref (ad 0)), (1, .long v1), (3, .int v3)] → W p l e rm_T_gap s m args below meth c H locs 0 0 (MQ below (tQ D clS (cwC ad ta res.2) (some (.long res.1)) (tA 37 ad)) args s 0 0 (tA 37 ad)) (F0 m 15 ls []) := by
  obtain ⟨hx, hb, hr, hml, hown, ht, hlocks, hK, hN⟩ := id CX
  intro k
  induction k with
  | zero =>
    intro v1 v3 σ res hf
    exact tn_no hf
  | succ k ih =>
    intro v1 v3 σ res hf H locs hP hS ls hl
    replace hf : ms_T_gap_15 (ml_T_gap_15 k) v1 v3 σ = some res := hf
    unfold ms_T_gap_15 at hf
    refine lv_iload_n hx hb d_T_gap_15 rfl (lv_at hl 2 rfl) ?_
    refine lv_aload_n hx hb d_T_gap_16 rfl (lv_at hl 0 rfl) ?_
    refine va_get (ci := 0) (v := .ref (ad 4)) (C := R_T) (T := F_T) (N := 7) hx hb ht iw_T hown hK hP 0 rfl rfl 4 (by decide) (ht _ wd_249) (fun _ h9 => h9) rfl d_T_gap_17 ?_
    refine va_get (ci := 4) (v := .int (σ.1 2)) (C := R_S) (T := F_S) (N := 10) hx hb ht iw_S hown hK hP 4 rfl rfl 0 (by decide) (ht _ wd_159) (fun _ h9 => h9) rfl d_T_gap_20 ?_
    refine lv_icmp_ge (tgt := 56) hx hb d_T_gap_23 (by decide) (fun hc => ?_) (fun hc => ?_)
    · replace hf := ti_pos hc hf
      refine lv_iconst (v := (0 : Int32)) hx hb d_T_gap_56 (by decide) ?_
      refine lv_istore_n (lv' := [(3, .int (0 : Int32)), (0, .ref (ad 0)), (1, .long v1)]) hx hb d_T_gap_57 rfl hl (by decide) rfl (fun ls hl => ?_)
      exact mw_T_gap_58 CX hd _ _ _ _ _ hf _ _ hP hS _ (lv_sub hl [1, 2, 0] rfl)
    · replace hf := ti_neg hc hf
      refine lv_lload_n hx hb d_T_gap_26 rfl (lv_at hl 1 rfl) ?_
      refine lv_aload_n hx hb d_T_gap_27 rfl (lv_at hl 0 rfl) ?_
      refine va_get (ci := 0) (v := .ref (ad 4)) (C := R_T) (T := F_T) (N := 7) hx hb ht iw_T hown hK hP 0 rfl rfl 4 (by decide) (ht _ wd_249) (fun _ h9 => h9) rfl d_T_gap_28 ?_
      refine va_get (ci := 4) (v := .ref (ad 24)) (C := R_S) (T := F_S) (N := 10) hx hb ht iw_S hown hK hP 4 rfl rfl 9 (by decide) (ht _ wd_177) (fun _ h9 => h9) rfl d_T_gap_31 ?_
      refine lv_iload_n hx hb d_T_gap_34 rfl (lv_at hl 2 rfl) ?_
      obtain ⟨hi5, hf⟩ := tg_of hf
      refine va_iald (f := σ.2.1 15) hx hb hK hP 24 15 rfl rfl hi5 d_T_gap_35 ?_
      refine lv_i2l hx hb d_T_gap_36 rfl ?_
      refine lv_aload_n hx hb d_T_gap_37 rfl (lv_at hl 0 rfl) ?_
      refine va_get (ci := 0) (v := .ref (ad 5)) (C := R_T) (T := F_T) (N := 7) hx hb ht iw_T hown hK hP 0 rfl rfl 5 (by decide) (ht _ wd_250) (fun _ h9 => h9) rfl d_T_gap_38 ?_
      refine va_get (ci := 5) (v := .ref (ad 25)) (C := R_W) (T := F_W) (N := 3) hx hb ht iw_W hown hK hP 5 rfl rfl 0 (by decide) (ht _ wd_207) (fun _ h9 => h9) rfl d_T_gap_41 ?_
      refine lv_iload_n hx hb d_T_gap_44 rfl (lv_at hl 2 rfl) ?_
      obtain ⟨hi6, hf⟩ := tg_of hf
      refine va_iald (f := σ.2.1 16) hx hb hK hP 25 16 rfl rfl hi6 d_T_gap_45 ?_
      refine lv_i2l hx hb d_T_gap_46 rfl ?_
      refine lv_lmul hx hb d_T_gap_47 ?_
      refine lv_ladd hx hb d_T_gap_48 ?_
      refine lv_lstore_n (lv' := [(1, .long (v1 + (((σ.2.1 15 v3.toNatClampNeg)).toInt64 * ((σ.2.1 16 v3.toNatClampNeg)).toInt64))), (0, .ref (ad 0)), (3, .int v3)]) hx hb d_T_gap_49 rfl hl (by decide) rfl (fun ls hl => ?_)
      refine lv_iinc (v := (v3 + (1 : Int32))) (lv' := [(3, .int (v3 + (1 : Int32))), (1, .long (v1 + (((σ.2.1 15 v3.toNatClampNeg)).toInt64 * ((σ.2.1 16 v3.toNatClampNeg)).toInt64))), (0, .ref (ad 0))]) hx hb d_T_gap_50 hl (k := 2) rfl rfl (by decide) rfl (fun ls hl => ?_)
      refine lv_goto (tgt := 15) hx hb d_T_gap_53 (by decide) ?_
      exact ih _ _ _ _ hf _ _ hP hS _ (lv_sub hl [2, 1, 0] rfl)
set_option maxHeartbeats 4000000 in
set_option maxRecDepth 100000 in
theorem mc_T_gap (l : Launch) {D : va_G} {ad : Nat → Nat} {ta : Nat → ClassId} (hd : tD 37 ad) {σ σ' : tS}  {r : Int64} (hf : mf_T_gap  σ = some (r, σ')) : Met l y_T_gap (.code y_T_gap b_T_gap 4 (some .long) :: tw) rm_T_gap (tP D clS (tyC ta) (cwC ad ta σ) [.ref (ad 0)]) (tQ D clS (cwC ad ta σ') (some (.long r)) (tA 37 ad)) 0 0 (tA 37 ad) := by
  refine Met.ofW (cc := b_T_gap) (maxL := 4) (ret := (some .long)) (by decide) rfl ?_
  intro p e s m args below meth c s₁ B hml hv
  obtain ⟨rfl, hP, hK, hN⟩ := hv
  have hx := B.exec
  have hb := B.bytes
  have hr := B.returns
  have ht : ∀ w ∈ tw, w.before [.ref (ad 0)].toArray s = true := fun w h => atoms_spec (ws := (.code y_T_gap b_T_gap 4 (some .long) :: tw)) B.pre w (List.mem_cons_of_mem _ h)
  have hown : s.vm.findClass R_T = some m.cls := findClass_of_methodNamed B.named
  have hlocks := B.notSynchronized
  have CX : tC p s m [.ref (ad 0)].toArray meth c b_T_gap (some .long) 4 R_T D clS (tyC ta) := ⟨hx, hb, hr, hml, hown, ht, hlocks, hK, hN⟩
  have hS : va_S (tA 37 ad) s.heap s.heap [] := va_S.rf
  have hl := lv_entry ([.ref (ad 0)]) (n := 4) (Nat.le_of_ble_eq_true rfl)
  rw [lg_entry_eq]
  generalize (lg_sl ([.ref (ad 0)]) ++ List.replicate (4 - (lg_sl ([.ref (ad 0)])).length) Slot.unset).toArray = ls at hl ⊢
  replace hl : lv_has ls 4 [(0, .ref (ad 0))] := hl
  unfold mf_T_gap at hf
  refine lv_aload_n hx hb d_T_gap_0 rfl (lv_at hl 0 rfl) ?_
  refine va_get (ci := 0) (v := .ref (ad 5)) (C := R_T) (T := F_T) (N := 7) hx hb ht iw_T hown hK hP 0 rfl rfl 5 (by decide) (ht _ wd_250) (fun _ h9 => h9) rfl d_T_gap_1 ?_
  refine lv_aload_n hx hb d_T_gap_4 rfl (lv_at hl 0 rfl) ?_
  refine va_get (ci := 0) (v := .ref (ad 4)) (C := R_T) (T := F_T) (N := 7) hx hb ht iw_T hown hK hP 0 rfl rfl 4 (by decide) (ht _ wd_249) (fun _ h9 => h9) rfl d_T_gap_5 ?_
  obtain ⟨s_1, hq1, hf⟩ := tb1_of hf
  refine tr_callv (va_runV (C := R_W) (As := [.ref (ad 4)]) (rest := []) ⟨hx, hb, hml, hown, ht⟩ (mc_W_holdTimes l hd hq1) ⟨(tw_cb (n := 1) ht wc_W_holdTimes wd_41 wd_271 ⟨rfl, rfl⟩ (by decide +kernel) ⟨(Nat.le_of_ble_eq_true rfl), (Nat.le_of_ble_eq_true rfl)⟩), ht _ wd_272, ht _ wd_273⟩ ⟨tP_blind, va_recv hK hP (ci := 5) (q0 := 5) rfl rfl, fun U hU hW => ⟨rfl, by rw [hU]; exact hP, va_K.moved hW.alike hK, tW_warm hW hN⟩⟩ rfl rfl hl.1 rfl (lv_room (Nat.le_of_ble_eq_true rfl)) d_T_gap_8 ⟨Nat.zero_le _, Nat.zero_le _⟩) hS (fun _ h => h) (fun _ h => h) (fun H locs hP hS => ?_)
  refine lv_lconst (v := (0 : Int64)) hx hb d_T_gap_11 (by decide) ?_
  refine lv_lstore_n (lv' := [(1, .long (0 : Int64)), (0, .ref (ad 0))]) hx hb d_T_gap_12 rfl hl (by decide) rfl (fun ls hl => ?_)
  refine lv_iconst (v := (0 : Int32)) hx hb d_T_gap_13 (by decide) ?_
  refine lv_istore_n (lv' := [(3, .int (0 : Int32)), (1, .long (0 : Int64)), (0, .ref (ad 0))]) hx hb d_T_gap_14 rfl hl (by decide) rfl (fun ls hl => ?_)
  exact mw_T_gap_15 CX hd _ _ _ _ _ hf _ _ hP hS _ (lv_sub hl [2, 1, 0] rfl)
abbrev rm_T_count : Room := { frames := 1, cells := 0, slots := 0, locals := 22 }
set_option maxHeartbeats 4000000 in
set_option maxRecDepth 100000 in
theorem mc_T_count (l : Launch) {D : va_G} {ad : Nat → Nat} {ta : Nat → ClassId} (hd : tD 37 ad) {σ σ' : tS} {p0 : Int32} {p1 : Int32} {r : Int32} (hf : mf_T_count p0 p1 σ = some (r, σ')) : Met l y_T_count (.code y_T_count b_T_count 4 (some .int) :: tw) rm_T_count (tP D clS (tyC ta) (cwC ad ta σ) [.ref (ad 0), .int p0, .int p1]) (tQ D clS (cwC ad ta σ') (some (.int r)) (tA 37 ad)) 0 0 (tA 37 ad) := by
  refine Met.ofW (cc := b_T_count) (maxL := 4) (ret := (some .int)) (by decide) rfl ?_
  intro p e s m args below meth c s₁ B hml hv
  obtain ⟨rfl, hP, hK, hN⟩ := hv
  have hx := B.exec
  have hb := B.bytes
  have hr := B.returns
  have ht : ∀ w ∈ tw, w.before [.ref (ad 0), .int p0, .int p1].toArray s = true := fun w h => atoms_spec (ws := (.code y_T_count b_T_count 4 (some .int) :: tw)) B.pre w (List.mem_cons_of_mem _ h)
  have hown : s.vm.findClass R_T = some m.cls := findClass_of_methodNamed B.named
  have hlocks := B.notSynchronized
  have CX : tC p s m [.ref (ad 0), .int p0, .int p1].toArray meth c b_T_count (some .int) 4 R_T D clS (tyC ta) := ⟨hx, hb, hr, hml, hown, ht, hlocks, hK, hN⟩
  have hS : va_S (tA 37 ad) s.heap s.heap [] := va_S.rf
  have hl := lv_entry ([.ref (ad 0), .int p0, .int p1]) (n := 4) (Nat.le_of_ble_eq_true rfl)
  rw [lg_entry_eq]
  generalize (lg_sl ([.ref (ad 0), .int p0, .int p1]) ++ List.replicate (4 - (lg_sl ([.ref (ad 0), .int p0, .int p1])).length) Slot.unset).toArray = ls at hl ⊢
  replace hl : lv_has ls 4 [(0, .ref (ad 0)), (1, .int p0), (2, .int p1)] := hl
  unfold mf_T_count at hf
  refine lv_aload_n hx hb d_T_count_0 rfl (lv_at hl 0 rfl) ?_
  refine lv_iload_n hx hb d_T_count_1 rfl (lv_at hl 1 rfl) ?_
  obtain ⟨s_1, hq1, hf⟩ := tb1_of hf
  refine tr_callv (va_runV (C := R_T) (As := [.int p0]) (rest := []) ⟨hx, hb, hml, hown, ht⟩ (mc_T_needStreet l hd hq1) ⟨(tw_cb (n := 1) ht wc_T_needStreet wd_34 wd_450 ⟨rfl, rfl⟩ (by decide +kernel) ⟨(Nat.le_of_ble_eq_true rfl), (Nat.le_of_ble_eq_true rfl)⟩), ht _ wd_452, ht _ wd_6⟩ ⟨tP_blind, va_recv hK hP (ci := 0) (q0 := 0) rfl rfl, fun U hU hW => ⟨rfl, by rw [hU]; exact hP, va_K.moved hW.alike hK, tW_warm hW hN⟩⟩ rfl rfl hl.1 rfl (lv_room (Nat.le_of_ble_eq_true rfl)) d_T_count_2 ⟨Nat.zero_le _, Nat.zero_le _⟩) hS (fun _ h => h.elim) (fun _ h => h.elim) (fun H locs hP hS => ?_)
  refine lv_iload_n hx hb d_T_count_5 rfl (lv_at hl 2 rfl) ?_
  refine lv_iconst (v := ((-1) : Int32)) hx hb d_T_count_6 (by decide) ?_
  refine lv_ldc (v := (1000000 : Int32)) hx hb hown (ht _ wd_437) d_T_count_7 ?_
  obtain ⟨s_2, hq2, hf⟩ := tb1_of hf
  refine tr_callv (va_runS (As := [.int p1, .int ((-1) : Int32), .int (1000000 : Int32)]) (rest := []) ⟨hx, hb, hml, hown, ht⟩ (mc_T_needWithin l hd hq2) ⟨(tw_cb (n := 3) ht wc_T_needWithin wd_34 wd_420 ⟨rfl, rfl⟩ (by decide +kernel) ⟨(Nat.le_of_ble_eq_true rfl), (Nat.le_of_ble_eq_true rfl)⟩), ht _ wd_421⟩ ⟨tP_blind, fun U hU hW => ⟨rfl, by rw [hU]; exact hP, va_K.moved hW.alike hK, tW_warm hW hN⟩⟩ rfl rfl hl.1 rfl (lv_room (Nat.le_of_ble_eq_true rfl)) d_T_count_9 ⟨Nat.zero_le _, Nat.zero_le _⟩) hS (fun _ h => h.elim) (fun _ h => h.elim) (fun H locs hP hS => ?_)
  refine lv_aload_n hx hb d_T_count_12 rfl (lv_at hl 0 rfl) ?_
  refine va_get (ci := 0) (v := .ref (ad 4)) (C := R_T) (T := F_T) (N := 7) hx hb ht iw_T hown hK hP 0 rfl rfl 4 (by decide) (ht _ wd_249) (fun _ h9 => h9) rfl d_T_count_13 ?_
  refine va_get (ci := 4) (v := .ref (ad 23)) (C := R_S) (T := F_S) (N := 10) hx hb ht iw_S hown hK hP 4 rfl rfl 8 (by decide) (ht _ wd_174) (fun _ h9 => h9) rfl d_T_count_16 ?_
  refine lv_iload_n hx hb d_T_count_19 rfl (lv_at hl 1 rfl) ?_
  obtain ⟨hi3, hf⟩ := tg_of hf
  refine va_iald (f := s_2.2.1 14) hx hb hK hP 23 14 rfl rfl hi3 d_T_count_20 ?_
  refine lv_istore_n (lv' := [(3, .int (s_2.2.1 14 p0.toNatClampNeg)), (0, .ref (ad 0)), (1, .int p0), (2, .int p1)]) hx hb d_T_count_21 rfl hl (by decide) rfl (fun ls hl => ?_)
  refine lv_aload_n hx hb d_T_count_22 rfl (lv_at hl 1 rfl) ?_
  refine va_get (ci := 0) (v := .ref (ad 4)) (C := R_T) (T := F_T) (N := 7) hx hb ht iw_T hown hK hP 0 rfl rfl 4 (by decide) (ht _ wd_249) (fun _ h9 => h9) rfl d_T_count_23 ?_
  refine va_get (ci := 4) (v := .ref (ad 23)) (C := R_S) (T := F_S) (N := 10) hx hb ht iw_S hown hK hP 4 rfl rfl 8 (by decide) (ht _ wd_174) (fun _ h9 => h9) rfl d_T_count_26 ?_
  refine lv_iload_n hx hb d_T_count_29 rfl (lv_at hl 2 rfl) ?_
  refine lv_iload_n hx hb d_T_count_30 rfl (lv_at hl 3 rfl) ?_
  obtain ⟨hi4, hf⟩ := tg_of hf
  refine va_iast (f := s_2.2.1 14) hx hb hK hP (cwC_D hd) hS 23 14 rfl rfl hi4 d_T_count_31 (fun H locs hP _ hS => ?_)
  replace hP : va_P D clS (cwC ad ta (tI s_2 14 p0.toNatClampNeg p1)) H := hP
  refine lv_iload_n hx hb d_T_count_32 rfl (lv_at hl 0 rfl) ?_
  obtain ⟨rfl, rfl⟩ := tp_of hf
  exact W.iret (v := (s_2.2.1 14 p0.toNatClampNeg)) hx hb hr (fun t ht hW => ⟨rfl, by rw [ht]; exact hP, hS.F ht⟩) hS.2.2 d_T_count_33
abbrev rm_S_farthestFromCount : Room := { frames := 1, cells := 0, slots := 0, locals := 30 }
set_option maxHeartbeats 4000000 in
set_option maxRecDepth 100000 in
theorem mw_S_farthestFromCount_6 {p : Program} {l : Launch} {e : Env} {s : State} {m : MethodId} {args : Array Value} {below : List Frame} {meth : Method} {c : Code} {D : va_G} {ad : Nat → Nat} {ta : Nat → ClassId} (CX : tC p s m args meth c b_S_farthestFromCount (some .int) 5 R_S D clS (tyC ta)) (hd : tD 37 ad) : ∀ (k : Nat) (v1 : Int32) (v2 : Int32) (v3 : Int32) (σ : tS) (res : (Int32 × tS)), ml_S_farthestFromCount_6 k v1 v2 v3 σ = some res → ∀ (H : Heap) (locs : List Loc), va_P D clS (cwC ad ta σ) H → va_S tNo s.heap H locs → ∀ (ls : Array Slot), lv_has ls 5 [(0, .ref (ad 4)), (1, .int v1), (2, .int v2), (3, .int v3)] → W p l e rm_S_farthestFromCount s m args below meth c H locs 0 0 (MQ below (tQ D clS (cwC ad ta res.2) (some (.int res.1)) tNo) args s 0 0 tNo) (F0 m 6 ls []) := by
  obtain ⟨hx, hb, hr, hml, hown, ht, hlocks, hK, hN⟩ := id CX
  intro k
  induction k with
  | zero =>
    intro v1 v2 v3 σ res hf
    exact tn_no hf
  | succ k ih =>
    intro v1 v2 v3 σ res hf H locs hP hS ls hl
    replace hf : ms_S_farthestFromCount_6 (ml_S_farthestFromCount_6 k) v1 v2 v3 σ = some res := hf
    unfold ms_S_farthestFromCount_6 at hf
    refine lv_iload_n hx hb d_S_farthestFromCount_6 rfl (lv_at hl 3 rfl) ?_
    refine lv_aload_n hx hb d_S_farthestFromCount_7 rfl (lv_at hl 0 rfl) ?_
    refine va_get (ci := 4) (v := .int (σ.1 2)) (C := R_S) (T := F_S) (N := 10) hx hb ht iw_S hown hK hP 4 rfl rfl 0 (by decide) (ht _ wd_157) (fun _ h9 => h9) rfl d_S_farthestFromCount_8 ?_
    refine lv_icmp_ge (tgt := 63) hx hb d_S_farthestFromCount_11 (by decide) (fun hc => ?_) (fun hc => ?_)
    · replace hf := ti_pos hc hf
      refine lv_iload_n hx hb d_S_farthestFromCount_63 rfl (lv_at hl 1 rfl) ?_
      obtain rfl := ts_of hf
      exact W.iret (v := v1) hx hb hr (fun t ht hW => ⟨rfl, by rw [ht]; exact hP, hS.F ht⟩) hS.2.2 d_S_farthestFromCount_64
    · replace hf := ti_neg hc hf
      refine lv_aload_n hx hb d_S_farthestFromCount_14 rfl (lv_at hl 0 rfl) ?_
      refine va_get (ci := 4) (v := .ref (ad 23)) (C := R_S) (T := F_S) (N := 10) hx hb ht iw_S hown hK hP 4 rfl rfl 8 (by decide) (ht _ wd_173) (fun _ h9 => h9) rfl d_S_farthestFromCount_15 ?_
      refine lv_iload_n hx hb d_S_farthestFromCount_18 rfl (lv_at hl 3 rfl) ?_
      obtain ⟨hi1, hf⟩ := tg_of hf
      refine va_iald (f := σ.2.1 14) hx hb hK hP 23 14 rfl rfl hi1 d_S_farthestFromCount_19 ?_
      refine lv_iconst (v := ((-1) : Int32)) hx hb d_S_farthestFromCount_20 (by decide) ?_
      refine lv_icmp_ne (tgt := 28) hx hb d_S_farthestFromCount_21 (by decide) (fun hc => ?_) (fun hc => ?_)
      · replace hf := ti_neg hc hf
        refine lv_aload_n hx hb d_S_farthestFromCount_28 rfl (lv_at hl 0 rfl) ?_
        refine va_get (ci := 4) (v := .ref (ad 24)) (C := R_S) (T := F_S) (N := 10) hx hb ht iw_S hown hK hP 4 rfl rfl 9 (by decide) (ht _ wd_175) (fun _ h9 => h9) rfl d_S_farthestFromCount_29 ?_
        refine lv_iload_n hx hb d_S_farthestFromCount_32 rfl (lv_at hl 3 rfl) ?_
        obtain ⟨hi2, hf⟩ := tg_of hf
        refine va_iald (f := σ.2.1 15) hx hb hK hP 24 15 rfl rfl hi2 d_S_farthestFromCount_33 ?_
        refine lv_aload_n hx hb d_S_farthestFromCount_34 rfl (lv_at hl 0 rfl) ?_
        refine va_get (ci := 4) (v := .ref (ad 23)) (C := R_S) (T := F_S) (N := 10) hx hb ht iw_S hown hK hP 4 rfl rfl 8 (by decide) (ht _ wd_173) (fun _ h9 => h9) rfl d_S_farthestFromCount_35 ?_
        refine lv_iload_n hx hb d_S_farthestFromCount_38 rfl (lv_at hl 3 rfl) ?_
        obtain ⟨hi3, hf⟩ := tg_of hf
        refine va_iald (f := σ.2.1 14) hx hb hK hP 23 14 rfl rfl hi3 d_S_farthestFromCount_39 ?_
        refine lv_isub hx hb d_S_farthestFromCount_40 ?_
        refine va_mabs hx hb (hml.trans hl.1.symm) hown (ht _ wd_664) (ht _ wd_516) (ht _ wd_49) (ht _ wm_abs) (Nat.le_of_ble_eq_true rfl) (Nat.le_of_ble_eq_true rfl) (Nat.zero_le _) (Nat.zero_le _) d_S_farthestFromCount_41 ?_
        refine lv_istore (lv' := [(4, .int (if 0 ≤ ((σ.2.1 15 v3.toNatClampNeg) - (σ.2.1 14 v3.toNatClampNeg)) then ((σ.2.1 15 v3.toNatClampNeg) - (σ.2.1 14 v3.toNatClampNeg)) else 0 - ((σ.2.1 15 v3.toNatClampNeg) - (σ.2.1 14 v3.toNatClampNeg)))), (0, .ref (ad 4)), (1, .int v1), (2, .int v2), (3, .int v3)]) hx hb d_S_farthestFromCount_44 hl (by decide) rfl (fun ls hl => ?_)
        refine lv_iload hx hb d_S_farthestFromCount_46 (lv_at hl 0 rfl) ?_
        refine lv_iload_n hx hb d_S_farthestFromCount_48 rfl (lv_at hl 3 rfl) ?_
        refine lv_icmp_le (tgt := 57) hx hb d_S_farthestFromCount_49 (by decide) (fun hc => ?_) (fun hc => ?_)
        · replace hf := ti_pos hc hf
          refine lv_iinc (v := (v3 + (1 : Int32))) (lv' := [(3, .int (v3 + (1 : Int32))), (4, .int (if 0 ≤ ((σ.2.1 15 v3.toNatClampNeg) - (σ.2.1 14 v3.toNatClampNeg)) then ((σ.2.1 15 v3.toNatClampNeg) - (σ.2.1 14 v3.toNatClampNeg)) else 0 - ((σ.2.1 15 v3.toNatClampNeg) - (σ.2.1 14 v3.toNatClampNeg)))), (0, .ref (ad 4)), (1, .int v1), (2, .int v2)]) hx hb d_S_farthestFromCount_57 hl (k := 4) rfl rfl (by decide) rfl (fun ls hl => ?_)
          refine lv_goto (tgt := 6) hx hb d_S_farthestFromCount_60 (by decide) ?_
          exact ih _ _ _ _ _ hf _ _ hP hS _ (lv_sub hl [2, 3, 4, 0] rfl)
        · replace hf := ti_neg hc hf
          refine lv_iload_n hx hb d_S_farthestFromCount_52 rfl (lv_at hl 4 rfl) ?_
          refine lv_istore_n (lv' := [(1, .int v3), (4, .int (if 0 ≤ ((σ.2.1 15 v3.toNatClampNeg) - (σ.2.1 14 v3.toNatClampNeg)) then ((σ.2.1 15 v3.toNatClampNeg) - (σ.2.1 14 v3.toNatClampNeg)) else 0 - ((σ.2.1 15 v3.toNatClampNeg) - (σ.2.1 14 v3.toNatClampNeg)))), (0, .ref (ad 4)), (2, .int v2), (3, .int v3)]) hx hb d_S_farthestFromCount_53 rfl hl (by decide) rfl (fun ls hl => ?_)
          refine lv_iload hx hb d_S_farthestFromCount_54 (lv_at hl 1 rfl) ?_
          refine lv_istore_n (lv' := [(2, .int (if 0 ≤ ((σ.2.1 15 v3.toNatClampNeg) - (σ.2.1 14 v3.toNatClampNeg)) then ((σ.2.1 15 v3.toNatClampNeg) - (σ.2.1 14 v3.toNatClampNeg)) else 0 - ((σ.2.1 15 v3.toNatClampNeg) - (σ.2.1 14 v3.toNatClampNeg)))), (1, .int v3), (4, .int (if 0 ≤ ((σ.2.1 15 v3.toNatClampNeg) - (σ.2.1 14 v3.toNatClampNeg)) then ((σ.2.1 15 v3.toNatClampNeg) - (σ.2.1 14 v3.toNatClampNeg)) else 0 - ((σ.2.1 15 v3.toNatClampNeg) - (σ.2.1 14 v3.toNatClampNeg)))), (0, .ref (ad 4)), (3, .int v3)]) hx hb d_S_farthestFromCount_56 rfl hl (by decide) rfl (fun ls hl => ?_)
          refine lv_iinc (v := (v3 + (1 : Int32))) (lv' := [(3, .int (v3 + (1 : Int32))), (2, .int (if 0 ≤ ((σ.2.1 15 v3.toNatClampNeg) - (σ.2.1 14 v3.toNatClampNeg)) then ((σ.2.1 15 v3.toNatClampNeg) - (σ.2.1 14 v3.toNatClampNeg)) else 0 - ((σ.2.1 15 v3.toNatClampNeg) - (σ.2.1 14 v3.toNatClampNeg)))), (1, .int v3), (4, .int (if 0 ≤ ((σ.2.1 15 v3.toNatClampNeg) - (σ.2.1 14 v3.toNatClampNeg)) then ((σ.2.1 15 v3.toNatClampNeg) - (σ.2.1 14 v3.toNatClampNeg)) else 0 - ((σ.2.1 15 v3.toNatClampNeg) - (σ.2.1 14 v3.toNatClampNeg)))), (0, .ref (ad 4))]) hx hb d_S_farthestFromCount_57 hl (k := 4) rfl rfl (by decide) rfl (fun ls hl => ?_)
          refine lv_goto (tgt := 6) hx hb d_S_farthestFromCount_60 (by decide) ?_
          exact ih _ _ _ _ _ hf _ _ hP hS _ (lv_sub hl [4, 2, 1, 0] rfl)
      · replace hf := ti_pos hc hf
        refine lv_iconst (v := (0 : Int32)) hx hb d_S_farthestFromCount_24 (by decide) ?_
        refine lv_goto (tgt := 44) hx hb d_S_farthestFromCount_25 (by decide) ?_
        refine lv_istore (lv' := [(4, .int (0 : Int32)), (0, .ref (ad 4)), (1, .int v1), (2, .int v2), (3, .int v3)]) hx hb d_S_farthestFromCount_44 hl (by decide) rfl (fun ls hl => ?_)
        refine lv_iload hx hb d_S_farthestFromCount_46 (lv_at hl 0 rfl) ?_
        refine lv_iload_n hx hb d_S_farthestFromCount_48 rfl (lv_at hl 3 rfl) ?_
        refine lv_icmp_le (tgt := 57) hx hb d_S_farthestFromCount_49 (by decide) (fun hc => ?_) (fun hc => ?_)
        · replace hf := ti_pos hc hf
          refine lv_iinc (v := (v3 + (1 : Int32))) (lv' := [(3, .int (v3 + (1 : Int32))), (4, .int (0 : Int32)), (0, .ref (ad 4)), (1, .int v1), (2, .int v2)]) hx hb d_S_farthestFromCount_57 hl (k := 4) rfl rfl (by decide) rfl (fun ls hl => ?_)
          refine lv_goto (tgt := 6) hx hb d_S_farthestFromCount_60 (by decide) ?_
          exact ih _ _ _ _ _ hf _ _ hP hS _ (lv_sub hl [2, 3, 4, 0] rfl)
        · replace hf := ti_neg hc hf
          refine lv_iload_n hx hb d_S_farthestFromCount_52 rfl (lv_at hl 4 rfl) ?_
          refine lv_istore_n (lv' := [(1, .int v3), (4, .int (0 : Int32)), (0, .ref (ad 4)), (2, .int v2), (3, .int v3)]) hx hb d_S_farthestFromCount_53 rfl hl (by decide) rfl (fun ls hl => ?_)
          refine lv_iload hx hb d_S_farthestFromCount_54 (lv_at hl 1 rfl) ?_
          refine lv_istore_n (lv' := [(2, .int (0 : Int32)), (1, .int v3), (4, .int (0 : Int32)), (0, .ref (ad 4)), (3, .int v3)]) hx hb d_S_farthestFromCount_56 rfl hl (by decide) rfl (fun ls hl => ?_)
          refine lv_iinc (v := (v3 + (1 : Int32))) (lv' := [(3, .int (v3 + (1 : Int32))), (2, .int (0 : Int32)), (1, .int v3), (4, .int (0 : Int32)), (0, .ref (ad 4))]) hx hb d_S_farthestFromCount_57 hl (k := 4) rfl rfl (by decide) rfl (fun ls hl => ?_)
          refine lv_goto (tgt := 6) hx hb d_S_farthestFromCount_60 (by decide) ?_
          exact ih _ _ _ _ _ hf _ _ hP hS _ (lv_sub hl [4, 2, 1, 0] rfl)
set_option maxHeartbeats 4000000 in
set_option maxRecDepth 100000 in
theorem mc_S_farthestFromCount (l : Launch) {D : va_G} {ad : Nat → Nat} {ta : Nat → ClassId} (hd : tD 37 ad) {σ σ' : tS}  {r : Int32} (hf : mf_S_farthestFromCount  σ = some (r, σ')) : Met l y_S_farthestFromCount (.code y_S_farthestFromCount b_S_farthestFromCount 5 (some .int) :: tw) rm_S_farthestFromCount (tP D clS (tyC ta) (cwC ad ta σ) [.ref (ad 4)]) (tQ D clS (cwC ad ta σ') (some (.int r)) tNo) 0 0 tNo := by
  refine Met.ofW (cc := b_S_farthestFromCount) (maxL := 5) (ret := (some .int)) (by decide) rfl ?_
  intro p e s m args below meth c s₁ B hml hv
  obtain ⟨rfl, hP, hK, hN⟩ := hv
  have hx := B.exec
  have hb := B.bytes
  have hr := B.returns
  have ht : ∀ w ∈ tw, w.before [.ref (ad 4)].toArray s = true := fun w h => atoms_spec (ws := (.code y_S_farthestFromCount b_S_farthestFromCount 5 (some .int) :: tw)) B.pre w (List.mem_cons_of_mem _ h)
  have hown : s.vm.findClass R_S = some m.cls := findClass_of_methodNamed B.named
  have hlocks := B.notSynchronized
  have CX : tC p s m [.ref (ad 4)].toArray meth c b_S_farthestFromCount (some .int) 5 R_S D clS (tyC ta) := ⟨hx, hb, hr, hml, hown, ht, hlocks, hK, hN⟩
  have hS : va_S tNo s.heap s.heap [] := va_S.rf
  have hl := lv_entry ([.ref (ad 4)]) (n := 5) (Nat.le_of_ble_eq_true rfl)
  rw [lg_entry_eq]
  generalize (lg_sl ([.ref (ad 4)]) ++ List.replicate (5 - (lg_sl ([.ref (ad 4)])).length) Slot.unset).toArray = ls at hl ⊢
  replace hl : lv_has ls 5 [(0, .ref (ad 4))] := hl
  unfold mf_S_farthestFromCount at hf
  refine lv_iconst (v := ((-1) : Int32)) hx hb d_S_farthestFromCount_0 (by decide) ?_
  refine lv_istore_n (lv' := [(1, .int ((-1) : Int32)), (0, .ref (ad 4))]) hx hb d_S_farthestFromCount_1 rfl hl (by decide) rfl (fun ls hl => ?_)
  refine lv_iconst (v := (0 : Int32)) hx hb d_S_farthestFromCount_2 (by decide) ?_
  refine lv_istore_n (lv' := [(2, .int (0 : Int32)), (1, .int ((-1) : Int32)), (0, .ref (ad 4))]) hx hb d_S_farthestFromCount_3 rfl hl (by decide) rfl (fun ls hl => ?_)
  refine lv_iconst (v := (0 : Int32)) hx hb d_S_farthestFromCount_4 (by decide) ?_
  refine lv_istore_n (lv' := [(3, .int (0 : Int32)), (2, .int (0 : Int32)), (1, .int ((-1) : Int32)), (0, .ref (ad 4))]) hx hb d_S_farthestFromCount_5 rfl hl (by decide) rfl (fun ls hl => ?_)
  exact mw_S_farthestFromCount_6 CX hd _ _ _ _ _ _ hf _ _ hP hS _ (lv_sub hl [3, 2, 1, 0] rfl)
