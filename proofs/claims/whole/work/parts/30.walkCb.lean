abbrev rm_B_shareAllPeople : Room := { frames := 2, cells := 0, slots := 0, locals := 52 }
set_option maxHeartbeats 4000000 in
set_option maxRecDepth 100000 in
theorem mw_B_shareAllPeople_12 {p : Program} {l : Launch} {e : Env} {s : State} {m : MethodId} {args : Array Value} {below : List Frame} {meth : Method} {c : Code} {D : va_G} {ad : Nat → Nat} {ta : Nat → ClassId} {Q : State → Prop} (CX : tC p s m args meth c b_B_shareAllPeople none 4 R_B D clS (tyC ta)) (hd : tD 37 ad) : ∀ (k : Nat) (v2 : Int32) (v3 : Int32) (σ : tS) (res : (Int32 × Int32 × tS)), ml_B_shareAllPeople_12 k v2 v3 σ = some res → ∀ (H : Heap) (locs : List Loc), va_P D clS (cwC ad ta σ) H → va_S (tA 37 ad) s.heap H locs → ∀ (ls : Array Slot), lv_has ls 4 [(0, .ref (ad 2)), (1, .ref (ad 1)), (2, .int v2), (3, .int v3)] → (∀ (H : Heap) (locs : List Loc), va_P D clS (cwC ad ta res.2.2) H → va_S (tA 37 ad) s.heap H locs → ∀ (ls : Array Slot), lv_has ls 4 [(0, .ref (ad 2)), (1, .ref (ad 1)), (2, .int res.1), (3, .int res.2.1)] → W p l e rm_B_shareAllPeople s m args below meth c H locs 0 0 Q (F0 m 54 ls [])) → W p l e rm_B_shareAllPeople s m args below meth c H locs 0 0 Q (F0 m 12 ls []) := by
  obtain ⟨hx, hb, hr, hml, hown, ht, hlocks, hK, hN⟩ := id CX
  intro k
  induction k with
  | zero =>
    intro v2 v3 σ res hf
    exact tn_no hf
  | succ k ih =>
    intro v2 v3 σ res hf H locs hP hS ls hl kk
    replace hf : ms_B_shareAllPeople_12 (ml_B_shareAllPeople_12 k) v2 v3 σ = some res := hf
    unfold ms_B_shareAllPeople_12 at hf
    refine lv_iload_n hx hb d_B_shareAllPeople_12 rfl (lv_at hl 3 rfl) ?_
    refine lv_aload_n hx hb d_B_shareAllPeople_13 rfl (lv_at hl 1 rfl) ?_
    refine va_get (ci := 1) (v := .int (σ.1 1)) (C := R_Z) (T := F_Z) (N := 4) hx hb ht iw_Z hown hK hP 1 rfl rfl 0 (by decide) (ht _ wd_65) (fun _ h9 => h9) rfl d_B_shareAllPeople_14 ?_
    refine lv_icmp_ge (tgt := 54) hx hb d_B_shareAllPeople_17 (by decide) (fun hc => ?_) (fun hc => ?_)
    · replace hf := ti_pos hc hf
      obtain rfl := ts_of hf
      exact kk _ _ hP hS _ (lv_sub hl [0, 1, 2, 3] rfl)
    · replace hf := ti_neg hc hf
      refine lv_aload_n hx hb d_B_shareAllPeople_20 rfl (lv_at hl 0 rfl) ?_
      refine va_get (ci := 2) (v := .ref (ad 7)) (C := R_B) (T := F_B) (N := 4) hx hb ht iw_B hown hK hP 2 rfl rfl 3 (by decide) (ht _ wd_121) (fun _ h9 => h9) rfl d_B_shareAllPeople_21 ?_
      refine va_get (ci := 7) (v := .ref (ad 31)) (C := R_H) (T := F_H) (N := 3) hx hb ht iw_H hown hK hP 7 rfl rfl 0 (by decide) (ht _ wd_99) (fun _ h9 => h9) rfl d_B_shareAllPeople_24 ?_
      refine lv_iload_n hx hb d_B_shareAllPeople_27 rfl (lv_at hl 3 rfl) ?_
      refine lv_aload_n hx hb d_B_shareAllPeople_28 rfl (lv_at hl 0 rfl) ?_
      refine va_get (ci := 2) (v := .ref (ad 12)) (C := R_B) (T := F_B) (N := 4) hx hb ht iw_B hown hK hP 2 rfl rfl 0 (by decide) (ht _ wd_115) (fun _ h9 => h9) rfl d_B_shareAllPeople_29 ?_
      refine lv_iload_n hx hb d_B_shareAllPeople_32 rfl (lv_at hl 2 rfl) ?_
      refine lv_iload_n hx hb d_B_shareAllPeople_33 rfl (lv_at hl 3 rfl) ?_
      obtain ⟨r_1, s_1, hq1, hf⟩ := tb2_of hf
      refine tr_calli (va_runSN (As := [.int v2, .int v3]) (rest := [.ref (ad 12), .int v3, .ref (ad 31)]) ⟨hx, hb, hml, hown, ht⟩ (mc_T_pairOf l hd hq1) ⟨va_cnB 2 ht (tw_G wc_T_pairOf) rfl rfl rfl hN (ht _ wd_34) (by decide +kernel) ⟨(Nat.le_of_ble_eq_true rfl), (Nat.le_of_ble_eq_true rfl)⟩, ht _ wd_314, trivial⟩ ⟨tP_blind, fun U hU hW => ⟨rfl, by rw [hU]; exact hP, va_K.moved hW.alike hK, tW_warm hW hN⟩⟩ rfl rfl hl.1 rfl (lv_room (Nat.le_of_ble_eq_true rfl)) d_B_shareAllPeople_34 ⟨Nat.zero_le _, Nat.zero_le _⟩) hS (fun _ h => h.elim) (fun _ h => h.elim) (fun H locs hP hS => ?_)
      obtain ⟨hi2, hf⟩ := tg_of hf
      refine va_iald (f := s_1.2.1 3) hx hb hK hP 12 3 rfl rfl hi2 d_B_shareAllPeople_37 ?_
      refine lv_i2l hx hb d_B_shareAllPeople_38 rfl ?_
      refine lv_aload_n hx hb d_B_shareAllPeople_39 rfl (lv_at hl 0 rfl) ?_
      refine va_get (ci := 2) (v := .ref (ad 14)) (C := R_B) (T := F_B) (N := 4) hx hb ht iw_B hown hK hP 2 rfl rfl 2 (by decide) (ht _ wd_119) (fun _ h9 => h9) rfl d_B_shareAllPeople_40 ?_
      refine lv_iload_n hx hb d_B_shareAllPeople_43 rfl (lv_at hl 3 rfl) ?_
      obtain ⟨hi3, hf⟩ := tg_of hf
      refine va_iald (f := s_1.2.1 5) hx hb hK hP 14 5 rfl rfl hi3 d_B_shareAllPeople_44 ?_
      refine lv_i2l hx hb d_B_shareAllPeople_45 rfl ?_
      refine lv_lmul hx hb d_B_shareAllPeople_46 ?_
      obtain ⟨hi4, hf⟩ := tg_of hf
      refine va_last (f := s_1.2.2 1) hx hb hK hP (cwC_D hd) hS 31 22 rfl rfl hi4 d_B_shareAllPeople_47 (fun H locs hP _ hS => ?_)
      replace hP : va_P D clS (cwC ad ta (tJ s_1 1 v3.toNatClampNeg (((s_1.2.1 3 r_1.toNatClampNeg)).toInt64 * ((s_1.2.1 5 v3.toNatClampNeg)).toInt64))) H := hP
      refine lv_iinc (v := (v3 + (1 : Int32))) (lv' := [(3, .int (v3 + (1 : Int32))), (0, .ref (ad 2)), (1, .ref (ad 1)), (2, .int v2)]) hx hb d_B_shareAllPeople_48 hl (k := 3) rfl rfl (by decide) rfl (fun ls hl => ?_)
      refine lv_goto (tgt := 12) hx hb d_B_shareAllPeople_51 (by decide) ?_
      exact ih _ _ _ _ hf _ _ hP hS _ (lv_sub hl [1, 2, 3, 0] rfl) kk
set_option maxHeartbeats 4000000 in
set_option maxRecDepth 100000 in
theorem mw_B_shareAllPeople_73 {p : Program} {l : Launch} {e : Env} {s : State} {m : MethodId} {args : Array Value} {below : List Frame} {meth : Method} {c : Code} {D : va_G} {ad : Nat → Nat} {ta : Nat → ClassId} {Q : State → Prop} (CX : tC p s m args meth c b_B_shareAllPeople none 4 R_B D clS (tyC ta)) (hd : tD 37 ad) : ∀ (k : Nat) (v2 : Int32) (v3 : Int32) (σ : tS) (res : (Int32 × Int32 × tS)), ml_B_shareAllPeople_73 k v2 v3 σ = some res → ∀ (H : Heap) (locs : List Loc), va_P D clS (cwC ad ta σ) H → va_S (tA 37 ad) s.heap H locs → ∀ (ls : Array Slot), lv_has ls 4 [(0, .ref (ad 2)), (1, .ref (ad 1)), (2, .int v2), (3, .int v3)] → (∀ (H : Heap) (locs : List Loc), va_P D clS (cwC ad ta res.2.2) H → va_S (tA 37 ad) s.heap H locs → ∀ (ls : Array Slot), lv_has ls 4 [(0, .ref (ad 2)), (1, .ref (ad 1)), (2, .int res.1), (3, .int res.2.1)] → W p l e rm_B_shareAllPeople s m args below meth c H locs 0 0 Q (F0 m 106 ls [])) → W p l e rm_B_shareAllPeople s m args below meth c H locs 0 0 Q (F0 m 73 ls []) := by
  obtain ⟨hx, hb, hr, hml, hown, ht, hlocks, hK, hN⟩ := id CX
  intro k
  induction k with
  | zero =>
    intro v2 v3 σ res hf
    exact tn_no hf
  | succ k ih =>
    intro v2 v3 σ res hf H locs hP hS ls hl kk
    replace hf : ms_B_shareAllPeople_73 (ml_B_shareAllPeople_73 k) v2 v3 σ = some res := hf
    unfold ms_B_shareAllPeople_73 at hf
    refine lv_iload_n hx hb d_B_shareAllPeople_73 rfl (lv_at hl 3 rfl) ?_
    refine lv_aload_n hx hb d_B_shareAllPeople_74 rfl (lv_at hl 1 rfl) ?_
    refine va_get (ci := 1) (v := .int (σ.1 1)) (C := R_Z) (T := F_Z) (N := 4) hx hb ht iw_Z hown hK hP 1 rfl rfl 0 (by decide) (ht _ wd_65) (fun _ h9 => h9) rfl d_B_shareAllPeople_75 ?_
    refine lv_icmp_ge (tgt := 106) hx hb d_B_shareAllPeople_78 (by decide) (fun hc => ?_) (fun hc => ?_)
    · replace hf := ti_pos hc hf
      obtain rfl := ts_of hf
      exact kk _ _ hP hS _ (lv_sub hl [0, 1, 2, 3] rfl)
    · replace hf := ti_neg hc hf
      refine lv_aload_n hx hb d_B_shareAllPeople_81 rfl (lv_at hl 0 rfl) ?_
      refine va_get (ci := 2) (v := .ref (ad 13)) (C := R_B) (T := F_B) (N := 4) hx hb ht iw_B hown hK hP 2 rfl rfl 1 (by decide) (ht _ wd_117) (fun _ h9 => h9) rfl d_B_shareAllPeople_82 ?_
      refine lv_iload_n hx hb d_B_shareAllPeople_85 rfl (lv_at hl 2 rfl) ?_
      refine lv_iload_n hx hb d_B_shareAllPeople_86 rfl (lv_at hl 3 rfl) ?_
      obtain ⟨r_8, s_8, hq8, hf⟩ := tb2_of hf
      refine tr_calli (va_runSN (As := [.int v2, .int v3]) (rest := [.ref (ad 13)]) ⟨hx, hb, hml, hown, ht⟩ (mc_T_pairOf l hd hq8) ⟨va_cnB 2 ht (tw_G wc_T_pairOf) rfl rfl rfl hN (ht _ wd_34) (by decide +kernel) ⟨(Nat.le_of_ble_eq_true rfl), (Nat.le_of_ble_eq_true rfl)⟩, ht _ wd_314, trivial⟩ ⟨tP_blind, fun U hU hW => ⟨rfl, by rw [hU]; exact hP, va_K.moved hW.alike hK, tW_warm hW hN⟩⟩ rfl rfl hl.1 rfl (lv_room (Nat.le_of_ble_eq_true rfl)) d_B_shareAllPeople_87 ⟨Nat.zero_le _, Nat.zero_le _⟩) hS (fun _ h => h.elim) (fun _ h => h.elim) (fun H locs hP hS => ?_)
      refine lv_aload_n hx hb d_B_shareAllPeople_90 rfl (lv_at hl 0 rfl) ?_
      refine va_get (ci := 2) (v := .ref (ad 7)) (C := R_B) (T := F_B) (N := 4) hx hb ht iw_B hown hK hP 2 rfl rfl 3 (by decide) (ht _ wd_121) (fun _ h9 => h9) rfl d_B_shareAllPeople_91 ?_
      refine va_get (ci := 7) (v := .ref (ad 33)) (C := R_H) (T := F_H) (N := 3) hx hb ht iw_H hown hK hP 7 rfl rfl 2 (by decide) (ht _ wd_103) (fun _ h9 => h9) rfl d_B_shareAllPeople_94 ?_
      refine lv_iload_n hx hb d_B_shareAllPeople_97 rfl (lv_at hl 3 rfl) ?_
      obtain ⟨hi9, hf⟩ := tg_of hf
      refine va_iald (f := s_8.2.1 21) hx hb hK hP 33 24 rfl rfl hi9 d_B_shareAllPeople_98 ?_
      obtain ⟨hi10, hf⟩ := tg_of hf
      refine va_iast (f := s_8.2.1 4) hx hb hK hP (cwC_D hd) hS 13 4 rfl rfl hi10 d_B_shareAllPeople_99 (fun H locs hP _ hS => ?_)
      replace hP : va_P D clS (cwC ad ta (tI s_8 4 r_8.toNatClampNeg (s_8.2.1 21 v3.toNatClampNeg))) H := hP
      refine lv_iinc (v := (v3 + (1 : Int32))) (lv' := [(3, .int (v3 + (1 : Int32))), (0, .ref (ad 2)), (1, .ref (ad 1)), (2, .int v2)]) hx hb d_B_shareAllPeople_100 hl (k := 3) rfl rfl (by decide) rfl (fun ls hl => ?_)
      refine lv_goto (tgt := 73) hx hb d_B_shareAllPeople_103 (by decide) ?_
      exact ih _ _ _ _ hf _ _ hP hS _ (lv_sub hl [1, 2, 3, 0] rfl) kk
set_option maxHeartbeats 4000000 in
set_option maxRecDepth 100000 in
theorem mw_B_shareAllPeople_2 {p : Program} {l : Launch} {e : Env} {s : State} {m : MethodId} {args : Array Value} {below : List Frame} {meth : Method} {c : Code} {D : va_G} {ad : Nat → Nat} {ta : Nat → ClassId} (CX : tC p s m args meth c b_B_shareAllPeople none 4 R_B D clS (tyC ta)) (hd : tD 37 ad) : ∀ (k : Nat) (v2 : Int32) (σ : tS) (res : tS), ml_B_shareAllPeople_2 k v2 σ = some res → ∀ (H : Heap) (locs : List Loc), va_P D clS (cwC ad ta σ) H → va_S (tA 37 ad) s.heap H locs → ∀ (ls : Array Slot), lv_has ls 4 [(0, .ref (ad 2)), (1, .ref (ad 1)), (2, .int v2)] → W p l e rm_B_shareAllPeople s m args below meth c H locs 0 0 (MQ below (tQ D clS (cwC ad ta res) none (tA 37 ad)) args s 0 0 (tA 37 ad)) (F0 m 2 ls []) := by
  obtain ⟨hx, hb, hr, hml, hown, ht, hlocks, hK, hN⟩ := id CX
  intro k
  induction k with
  | zero =>
    intro v2 σ res hf
    exact tn_no hf
  | succ k ih =>
    intro v2 σ res hf H locs hP hS ls hl
    replace hf : ms_B_shareAllPeople_2 (ml_B_shareAllPeople_2 k) v2 σ = some res := hf
    unfold ms_B_shareAllPeople_2 at hf
    refine lv_iload_n hx hb d_B_shareAllPeople_2 rfl (lv_at hl 2 rfl) ?_
    refine lv_aload_n hx hb d_B_shareAllPeople_3 rfl (lv_at hl 1 rfl) ?_
    refine va_get (ci := 1) (v := .int (σ.1 1)) (C := R_Z) (T := F_Z) (N := 4) hx hb ht iw_Z hown hK hP 1 rfl rfl 0 (by decide) (ht _ wd_65) (fun _ h9 => h9) rfl d_B_shareAllPeople_4 ?_
    refine lv_icmp_ge (tgt := 112) hx hb d_B_shareAllPeople_7 (by decide) (fun hc => ?_) (fun hc => ?_)
    · replace hf := ti_pos hc hf
      obtain rfl := ts_of hf
      exact W.vret hx hb hr (fun t ht hW => ⟨rfl, by rw [ht]; exact hP, hS.F ht⟩) hS.2.2 d_B_shareAllPeople_112
    · replace hf := ti_neg hc hf
      refine lv_iconst (v := (0 : Int32)) hx hb d_B_shareAllPeople_10 (by decide) ?_
      refine lv_istore_n (lv' := [(3, .int (0 : Int32)), (0, .ref (ad 2)), (1, .ref (ad 1)), (2, .int v2)]) hx hb d_B_shareAllPeople_11 rfl hl (by decide) rfl (fun ls hl => ?_)
      obtain ⟨e_5, hq5, hf⟩ := tb1_of hf
      refine mw_B_shareAllPeople_12 CX hd _ _ _ _ _ hq5 _ _ hP hS _ (lv_sub hl [1, 2, 3, 0] rfl) (fun H locs hP hS ls hl => ?_)
      refine lv_aload_n hx hb d_B_shareAllPeople_54 rfl (lv_at hl 0 rfl) ?_
      refine va_get (ci := 2) (v := .ref (ad 7)) (C := R_B) (T := F_B) (N := 4) hx hb ht iw_B hown hK hP 2 rfl rfl 3 (by decide) (ht _ wd_121) (fun _ h9 => h9) rfl d_B_shareAllPeople_55 ?_
      refine lv_aload_n hx hb d_B_shareAllPeople_58 rfl (lv_at hl 1 rfl) ?_
      refine va_get (ci := 1) (v := .ref (ad 10)) (C := R_Z) (T := F_Z) (N := 4) hx hb ht iw_Z hown hK hP 1 rfl rfl 2 (by decide) (ht _ wd_70) (fun _ h9 => h9) rfl d_B_shareAllPeople_59 ?_
      refine lv_iload_n hx hb d_B_shareAllPeople_62 rfl (lv_at hl 2 rfl) ?_
      obtain ⟨hi6, hf⟩ := tg_of hf
      refine va_iald (f := e_5.2.2.2.1 1) hx hb hK hP 10 1 rfl rfl hi6 d_B_shareAllPeople_63 ?_
      refine lv_aload_n hx hb d_B_shareAllPeople_64 rfl (lv_at hl 1 rfl) ?_
      refine va_get (ci := 1) (v := .int (e_5.2.2.1 1)) (C := R_Z) (T := F_Z) (N := 4) hx hb ht iw_Z hown hK hP 1 rfl rfl 0 (by decide) (ht _ wd_65) (fun _ h9 => h9) rfl d_B_shareAllPeople_65 ?_
      obtain ⟨s_7, hq7, hf⟩ := tb1_of hf
      refine tr_callv (va_runV (C := R_H) (As := [.int (e_5.2.2.2.1 1 e_5.1.toNatClampNeg), .int (e_5.2.2.1 1)]) (rest := []) ⟨hx, hb, hml, hown, ht⟩ (mc_H7_shareOut l hd hq7) ⟨(tw_cb (n := 2) ht wc_H_shareOut wd_37 wd_497 ⟨rfl, rfl⟩ (by decide +kernel) ⟨(Nat.le_of_ble_eq_true rfl), (Nat.le_of_ble_eq_true rfl)⟩), ht _ wd_498, ht _ wd_499⟩ ⟨tP_blind, va_recv hK hP (ci := 7) (q0 := 7) rfl rfl, fun U hU hW => ⟨rfl, by rw [hU]; exact hP, va_K.moved hW.alike hK, tW_warm hW hN⟩⟩ rfl rfl hl.1 rfl (lv_room (Nat.le_of_ble_eq_true rfl)) d_B_shareAllPeople_68 ⟨Nat.zero_le _, Nat.zero_le _⟩) hS (fun _ h => h) (fun _ h => h) (fun H locs hP hS => ?_)
      refine lv_iconst (v := (0 : Int32)) hx hb d_B_shareAllPeople_71 (by decide) ?_
      refine lv_istore_n (lv' := [(3, .int (0 : Int32)), (0, .ref (ad 2)), (1, .ref (ad 1)), (2, .int e_5.1)]) hx hb d_B_shareAllPeople_72 rfl hl (by decide) rfl (fun ls hl => ?_)
      obtain ⟨e_11, hq11, hf⟩ := tb1_of hf
      refine mw_B_shareAllPeople_73 CX hd _ _ _ _ _ hq11 _ _ hP hS _ (lv_sub hl [1, 2, 3, 0] rfl) (fun H locs hP hS ls hl => ?_)
      refine lv_iinc (v := (e_11.1 + (1 : Int32))) (lv' := [(2, .int (e_11.1 + (1 : Int32))), (0, .ref (ad 2)), (1, .ref (ad 1)), (3, .int e_11.2.1)]) hx hb d_B_shareAllPeople_106 hl (k := 2) rfl rfl (by decide) rfl (fun ls hl => ?_)
      refine lv_goto (tgt := 2) hx hb d_B_shareAllPeople_109 (by decide) ?_
      exact ih _ _ _ hf _ _ hP hS _ (lv_sub hl [1, 2, 0] rfl)
set_option maxHeartbeats 4000000 in
set_option maxRecDepth 100000 in
theorem mc_B_shareAllPeople (l : Launch) {D : va_G} {ad : Nat → Nat} {ta : Nat → ClassId} (hd : tD 37 ad) {σ σ' : tS}  (hf : mf_B_shareAllPeople  σ = some σ') : Met l y_B_shareAllPeople (.code y_B_shareAllPeople b_B_shareAllPeople 4 none :: tw) rm_B_shareAllPeople (tP D clS (tyC ta) (cwC ad ta σ) [.ref (ad 2), .ref (ad 1)]) (tQ D clS (cwC ad ta σ') none (tA 37 ad)) 0 0 (tA 37 ad) := by
  refine Met.ofW (cc := b_B_shareAllPeople) (maxL := 4) (ret := none) (by decide) rfl ?_
  intro p e s m args below meth c s₁ B hml hv
  obtain ⟨rfl, hP, hK, hN⟩ := hv
  have hx := B.exec
  have hb := B.bytes
  have hr := B.returns
  have ht : ∀ w ∈ tw, w.before [.ref (ad 2), .ref (ad 1)].toArray s = true := fun w h => atoms_spec (ws := (.code y_B_shareAllPeople b_B_shareAllPeople 4 none :: tw)) B.pre w (List.mem_cons_of_mem _ h)
  have hown : s.vm.findClass R_B = some m.cls := findClass_of_methodNamed B.named
  have hlocks := B.notSynchronized
  have CX : tC p s m [.ref (ad 2), .ref (ad 1)].toArray meth c b_B_shareAllPeople none 4 R_B D clS (tyC ta) := ⟨hx, hb, hr, hml, hown, ht, hlocks, hK, hN⟩
  have hS : va_S (tA 37 ad) s.heap s.heap [] := va_S.rf
  have hl := lv_entry ([.ref (ad 2), .ref (ad 1)]) (n := 4) (Nat.le_of_ble_eq_true rfl)
  rw [lg_entry_eq]
  generalize (lg_sl ([.ref (ad 2), .ref (ad 1)]) ++ List.replicate (4 - (lg_sl ([.ref (ad 2), .ref (ad 1)])).length) Slot.unset).toArray = ls at hl ⊢
  replace hl : lv_has ls 4 [(0, .ref (ad 2)), (1, .ref (ad 1))] := hl
  unfold mf_B_shareAllPeople at hf
  refine lv_iconst (v := (0 : Int32)) hx hb d_B_shareAllPeople_0 (by decide) ?_
  refine lv_istore_n (lv' := [(2, .int (0 : Int32)), (0, .ref (ad 2)), (1, .ref (ad 1))]) hx hb d_B_shareAllPeople_1 rfl hl (by decide) rfl (fun ls hl => ?_)
  exact mw_B_shareAllPeople_2 CX hd _ _ _ _ hf _ _ hP hS _ (lv_sub hl [1, 2, 0] rfl)
abbrev rm_B_sumTo : Room := { frames := 1, cells := 0, slots := 0, locals := 21 }
set_option maxHeartbeats 4000000 in
set_option maxRecDepth 100000 in
theorem mw_B_sumTo_4 {p : Program} {l : Launch} {e : Env} {s : State} {m : MethodId} {args : Array Value} {below : List Frame} {meth : Method} {c : Code} {D : va_G} {ad : Nat → Nat} {ta : Nat → ClassId} (CX : tC p s m args meth c b_B_sumTo (some .int) 4 R_B D clS (tyC ta)) (hd : tD 37 ad) : ∀ (k : Nat) (v1 : Int32) (v2 : Int32) (v3 : Int32) (σ : tS) (res : (Int32 × tS)), ml_B_sumTo_4 k v1 v2 v3 σ = some res → ∀ (H : Heap) (locs : List Loc), va_P D clS (cwC ad ta σ) H → va_S tNo s.heap H locs → ∀ (ls : Array Slot), lv_has ls 4 [(0, .ref (ad 2)), (1, .int v1), (2, .int v2), (3, .int v3)] → W p l e rm_B_sumTo s m args below meth c H locs 0 0 (MQ below (tQ D clS (cwC ad ta res.2) (some (.int res.1)) tNo) args s 0 0 tNo) (F0 m 4 ls []) := by
  obtain ⟨hx, hb, hr, hml, hown, ht, hlocks, hK, hN⟩ := id CX
  intro k
  induction k with
  | zero =>
    intro v1 v2 v3 σ res hf
    exact tn_no hf
  | succ k ih =>
    intro v1 v2 v3 σ res hf H locs hP hS ls hl
    replace hf : ms_B_sumTo_4 (ml_B_sumTo_4 k) v1 v2 v3 σ = some res := hf
    unfold ms_B_sumTo_4 at hf
    refine lv_iload_n hx hb d_B_sumTo_4 rfl (lv_at hl 3 rfl) ?_
    refine lv_bipush (v := (6 : Int32)) hx hb d_B_sumTo_5 (by decide) ?_
    refine lv_icmp_ge (tgt := 29) hx hb d_B_sumTo_7 (by decide) (fun hc => ?_) (fun hc => ?_)
    · replace hf := ti_pos hc hf
      refine lv_iload_n hx hb d_B_sumTo_29 rfl (lv_at hl 2 rfl) ?_
      obtain rfl := ts_of hf
      exact W.iret (v := v2) hx hb hr (fun t ht hW => ⟨rfl, by rw [ht]; exact hP, hS.F ht⟩) hS.2.2 d_B_sumTo_30
    · replace hf := ti_neg hc hf
      refine lv_iload_n hx hb d_B_sumTo_10 rfl (lv_at hl 2 rfl) ?_
      refine lv_aload_n hx hb d_B_sumTo_11 rfl (lv_at hl 0 rfl) ?_
      refine va_get (ci := 2) (v := .ref (ad 13)) (C := R_B) (T := F_B) (N := 4) hx hb ht iw_B hown hK hP 2 rfl rfl 1 (by decide) (ht _ wd_117) (fun _ h9 => h9) rfl d_B_sumTo_12 ?_
      refine lv_iload_n hx hb d_B_sumTo_15 rfl (lv_at hl 3 rfl) ?_
      refine lv_iload_n hx hb d_B_sumTo_16 rfl (lv_at hl 1 rfl) ?_
      obtain ⟨r_1, s_1, hq1, hf⟩ := tb2_of hf
      refine tr_calli (va_runSN (As := [.int v3, .int v1]) (rest := [.ref (ad 13), .int v2]) ⟨hx, hb, hml, hown, ht⟩ (mc_T_pairOf l hd hq1) ⟨va_cnB 2 ht (tw_G wc_T_pairOf) rfl rfl rfl hN (ht _ wd_34) (by decide +kernel) ⟨(Nat.le_of_ble_eq_true rfl), (Nat.le_of_ble_eq_true rfl)⟩, ht _ wd_314, trivial⟩ ⟨tP_blind, fun U hU hW => ⟨rfl, by rw [hU]; exact hP, va_K.moved hW.alike hK, tW_warm hW hN⟩⟩ rfl rfl hl.1 rfl (lv_room (Nat.le_of_ble_eq_true rfl)) d_B_sumTo_17 ⟨Nat.zero_le _, Nat.zero_le _⟩) hS (fun _ h => h.elim) (fun _ h => h.elim) (fun H locs hP hS => ?_)
      obtain ⟨hi2, hf⟩ := tg_of hf
      refine va_iald (f := s_1.2.1 4) hx hb hK hP 13 4 rfl rfl hi2 d_B_sumTo_20 ?_
      refine lv_iadd hx hb d_B_sumTo_21 ?_
      refine lv_istore_n (lv' := [(2, .int (v2 + (s_1.2.1 4 r_1.toNatClampNeg))), (0, .ref (ad 2)), (1, .int v1), (3, .int v3)]) hx hb d_B_sumTo_22 rfl hl (by decide) rfl (fun ls hl => ?_)
      refine lv_iinc (v := (v3 + (1 : Int32))) (lv' := [(3, .int (v3 + (1 : Int32))), (2, .int (v2 + (s_1.2.1 4 r_1.toNatClampNeg))), (0, .ref (ad 2)), (1, .int v1)]) hx hb d_B_sumTo_23 hl (k := 3) rfl rfl (by decide) rfl (fun ls hl => ?_)
      refine lv_goto (tgt := 4) hx hb d_B_sumTo_26 (by decide) ?_
      exact ih _ _ _ _ _ hf _ _ hP hS _ (lv_sub hl [2, 3, 1, 0] rfl)
set_option maxHeartbeats 4000000 in
set_option maxRecDepth 100000 in
theorem mc_B_sumTo (l : Launch) {D : va_G} {ad : Nat → Nat} {ta : Nat → ClassId} (hd : tD 37 ad) {σ σ' : tS} {p0 : Int32} {r : Int32} (hf : mf_B_sumTo p0 σ = some (r, σ')) : Met l y_B_sumTo (.code y_B_sumTo b_B_sumTo 4 (some .int) :: tw) rm_B_sumTo (tP D clS (tyC ta) (cwC ad ta σ) [.ref (ad 2), .int p0]) (tQ D clS (cwC ad ta σ') (some (.int r)) tNo) 0 0 tNo := by
  refine Met.ofW (cc := b_B_sumTo) (maxL := 4) (ret := (some .int)) (by decide) rfl ?_
  intro p e s m args below meth c s₁ B hml hv
  obtain ⟨rfl, hP, hK, hN⟩ := hv
  have hx := B.exec
  have hb := B.bytes
  have hr := B.returns
  have ht : ∀ w ∈ tw, w.before [.ref (ad 2), .int p0].toArray s = true := fun w h => atoms_spec (ws := (.code y_B_sumTo b_B_sumTo 4 (some .int) :: tw)) B.pre w (List.mem_cons_of_mem _ h)
  have hown : s.vm.findClass R_B = some m.cls := findClass_of_methodNamed B.named
  have hlocks := B.notSynchronized
  have CX : tC p s m [.ref (ad 2), .int p0].toArray meth c b_B_sumTo (some .int) 4 R_B D clS (tyC ta) := ⟨hx, hb, hr, hml, hown, ht, hlocks, hK, hN⟩
  have hS : va_S tNo s.heap s.heap [] := va_S.rf
  have hl := lv_entry ([.ref (ad 2), .int p0]) (n := 4) (Nat.le_of_ble_eq_true rfl)
  rw [lg_entry_eq]
  generalize (lg_sl ([.ref (ad 2), .int p0]) ++ List.replicate (4 - (lg_sl ([.ref (ad 2), .int p0])).length) Slot.unset).toArray = ls at hl ⊢
  replace hl : lv_has ls 4 [(0, .ref (ad 2)), (1, .int p0)] := hl
  unfold mf_B_sumTo at hf
  refine lv_iconst (v := (0 : Int32)) hx hb d_B_sumTo_0 (by decide) ?_
  refine lv_istore_n (lv' := [(2, .int (0 : Int32)), (0, .ref (ad 2)), (1, .int p0)]) hx hb d_B_sumTo_1 rfl hl (by decide) rfl (fun ls hl => ?_)
  refine lv_iconst (v := (0 : Int32)) hx hb d_B_sumTo_2 (by decide) ?_
  refine lv_istore_n (lv' := [(3, .int (0 : Int32)), (2, .int (0 : Int32)), (0, .ref (ad 2)), (1, .int p0)]) hx hb d_B_sumTo_3 rfl hl (by decide) rfl (fun ls hl => ?_)
  exact mw_B_sumTo_4 CX hd _ _ _ _ _ _ hf _ _ hP hS _ (lv_sub hl [2, 3, 1, 0] rfl)
abbrev rm_B_isMet : Room := { frames := 2, cells := 0, slots := 0, locals := 44 }
set_option maxHeartbeats 4000000 in
set_option maxRecDepth 100000 in
theorem mw_B_isMet_2 {p : Program} {l : Launch} {e : Env} {s : State} {m : MethodId} {args : Array Value} {below : List Frame} {meth : Method} {c : Code} {D : va_G} {ad : Nat → Nat} {ta : Nat → ClassId} (CX : tC p s m args meth c b_B_isMet (some .boolean) 4 R_B D clS (tyC ta)) (hd : tD 37 ad) : ∀ (k : Nat) (v2 : Int32) (v3 : Int32) (σ : tS) (res : (Int32 × tS)), ml_B_isMet_2 k v2 v3 σ = some res → ∀ (H : Heap) (locs : List Loc), va_P D clS (cwC ad ta σ) H → va_S tNo s.heap H locs → ∀ (ls : Array Slot), lv_has ls 4 [(0, .ref (ad 2)), (1, .ref (ad 1)), (2, .int v2), (3, .int v3)] → W p l e rm_B_isMet s m args below meth c H locs 0 0 (MQ below (tQ D clS (cwC ad ta res.2) (some (.int res.1)) tNo) args s 0 0 tNo) (F0 m 2 ls []) := by
  obtain ⟨hx, hb, hr, hml, hown, ht, hlocks, hK, hN⟩ := id CX
  intro k
  induction k with
  | zero =>
    intro v2 v3 σ res hf
    exact tn_no hf
  | succ k ih =>
    intro v2 v3 σ res hf H locs hP hS ls hl
    replace hf : ms_B_isMet_2 (ml_B_isMet_2 k) v2 v3 σ = some res := hf
    unfold ms_B_isMet_2 at hf
    refine lv_iload_n hx hb d_B_isMet_2 rfl (lv_at hl 3 rfl) ?_
    refine lv_aload_n hx hb d_B_isMet_3 rfl (lv_at hl 1 rfl) ?_
    refine va_get (ci := 1) (v := .int (σ.1 1)) (C := R_Z) (T := F_Z) (N := 4) hx hb ht iw_Z hown hK hP 1 rfl rfl 0 (by decide) (ht _ wd_65) (fun _ h9 => h9) rfl d_B_isMet_4 ?_
    refine lv_icmp_ge (tgt := 37) hx hb d_B_isMet_7 (by decide) (fun hc => ?_) (fun hc => ?_)
    · replace hf := ti_pos hc hf
      refine lv_iconst (v := (1 : Int32)) hx hb d_B_isMet_37 (by decide) ?_
      obtain ⟨hb01, hf⟩ := tb_of hf
      obtain rfl := ts_of hf
      exact W.zret (v := (1 : Int32)) (ty := .boolean) hx hb hr (tb_nar hb01) (fun t ht hW => ⟨rfl, by rw [ht]; exact hP, hS.F ht⟩) hS.2.2 d_B_isMet_38
    · replace hf := ti_neg hc hf
      refine lv_aload_n hx hb d_B_isMet_10 rfl (lv_at hl 0 rfl) ?_
      refine lv_iload_n hx hb d_B_isMet_11 rfl (lv_at hl 3 rfl) ?_
      obtain ⟨r_1, s_1, hq1, hf⟩ := tb2_of hf
      refine tr_calli (va_runV (C := R_B) (As := [.int v3]) (rest := []) ⟨hx, hb, hml, hown, ht⟩ (mc_B_sumTo l hd hq1) ⟨(tw_cb (n := 1) ht wc_B_sumTo wd_36 wd_511 ⟨rfl, rfl⟩ (by decide +kernel) ⟨(Nat.le_of_ble_eq_true rfl), (Nat.le_of_ble_eq_true rfl)⟩), ht _ wd_512, ht _ wd_513⟩ ⟨tP_blind, va_recv hK hP (ci := 2) (q0 := 2) rfl rfl, fun U hU hW => ⟨rfl, by rw [hU]; exact hP, va_K.moved hW.alike hK, tW_warm hW hN⟩⟩ rfl rfl hl.1 rfl (lv_room (Nat.le_of_ble_eq_true rfl)) d_B_isMet_12 ⟨Nat.zero_le _, Nat.zero_le _⟩) hS (fun _ h => h.elim) (fun _ h => h.elim) (fun H locs hP hS => ?_)
      refine lv_aload_n hx hb d_B_isMet_15 rfl (lv_at hl 1 rfl) ?_
      refine va_get (ci := 1) (v := .ref (ad 11)) (C := R_Z) (T := F_Z) (N := 4) hx hb ht iw_Z hown hK hP 1 rfl rfl 3 (by decide) (ht _ wd_73) (fun _ h9 => h9) rfl d_B_isMet_16 ?_
      refine lv_iload_n hx hb d_B_isMet_19 rfl (lv_at hl 3 rfl) ?_
      obtain ⟨hi2, hf⟩ := tg_of hf
      refine va_iald (f := s_1.2.1 2) hx hb hK hP 11 2 rfl rfl hi2 d_B_isMet_20 ?_
      refine lv_isub hx hb d_B_isMet_21 ?_
      refine va_mabs hx hb (hml.trans hl.1.symm) hown (ht _ wd_515) (ht _ wd_516) (ht _ wd_49) (ht _ wm_abs) (Nat.le_of_ble_eq_true rfl) (Nat.le_of_ble_eq_true rfl) (Nat.zero_le _) (Nat.zero_le _) d_B_isMet_22 ?_
      refine lv_iload_n hx hb d_B_isMet_25 rfl (lv_at hl 2 rfl) ?_
      refine lv_icmp_le (tgt := 31) hx hb d_B_isMet_26 (by decide) (fun hc => ?_) (fun hc => ?_)
      · replace hf := ti_pos hc hf
        refine lv_iinc (v := (v3 + (1 : Int32))) (lv' := [(3, .int (v3 + (1 : Int32))), (0, .ref (ad 2)), (1, .ref (ad 1)), (2, .int v2)]) hx hb d_B_isMet_31 hl (k := 3) rfl rfl (by decide) rfl (fun ls hl => ?_)
        refine lv_goto (tgt := 2) hx hb d_B_isMet_34 (by decide) ?_
        exact ih _ _ _ _ hf _ _ hP hS _ (lv_sub hl [1, 2, 3, 0] rfl)
      · replace hf := ti_neg hc hf
        refine lv_iconst (v := (0 : Int32)) hx hb d_B_isMet_29 (by decide) ?_
        obtain ⟨hb01, hf⟩ := tb_of hf
        obtain rfl := ts_of hf
        exact W.zret (v := (0 : Int32)) (ty := .boolean) hx hb hr (tb_nar hb01) (fun t ht hW => ⟨rfl, by rw [ht]; exact hP, hS.F ht⟩) hS.2.2 d_B_isMet_30
set_option maxHeartbeats 4000000 in
set_option maxRecDepth 100000 in
theorem mc_B_isMet (l : Launch) {D : va_G} {ad : Nat → Nat} {ta : Nat → ClassId} (hd : tD 37 ad) {σ σ' : tS} {p0 : Int32} {r : Int32} (hf : mf_B_isMet p0 σ = some (r, σ')) : Met l y_B_isMet (.code y_B_isMet b_B_isMet 4 (some .boolean) :: tw) rm_B_isMet (tP D clS (tyC ta) (cwC ad ta σ) [.ref (ad 2), .ref (ad 1), .int p0]) (tQ D clS (cwC ad ta σ') (some (.int r)) tNo) 0 0 tNo := by
  refine Met.ofW (cc := b_B_isMet) (maxL := 4) (ret := (some .boolean)) (by decide) rfl ?_
  intro p e s m args below meth c s₁ B hml hv
  obtain ⟨rfl, hP, hK, hN⟩ := hv
  have hx := B.exec
  have hb := B.bytes
  have hr := B.returns
  have ht : ∀ w ∈ tw, w.before [.ref (ad 2), .ref (ad 1), .int p0].toArray s = true := fun w h => atoms_spec (ws := (.code y_B_isMet b_B_isMet 4 (some .boolean) :: tw)) B.pre w (List.mem_cons_of_mem _ h)
  have hown : s.vm.findClass R_B = some m.cls := findClass_of_methodNamed B.named
  have hlocks := B.notSynchronized
  have CX : tC p s m [.ref (ad 2), .ref (ad 1), .int p0].toArray meth c b_B_isMet (some .boolean) 4 R_B D clS (tyC ta) := ⟨hx, hb, hr, hml, hown, ht, hlocks, hK, hN⟩
  have hS : va_S tNo s.heap s.heap [] := va_S.rf
  have hl := lv_entry ([.ref (ad 2), .ref (ad 1), .int p0]) (n := 4) (Nat.le_of_ble_eq_true rfl)
  rw [lg_entry_eq]
  generalize (lg_sl ([.ref (ad 2), .ref (ad 1), .int p0]) ++ List.replicate (4 - (lg_sl ([.ref (ad 2), .ref (ad 1), .int p0])).length) Slot.unset).toArray = ls at hl ⊢
  replace hl : lv_has ls 4 [(0, .ref (ad 2)), (1, .ref (ad 1)), (2, .int p0)] := hl
  unfold mf_B_isMet at hf
  refine lv_iconst (v := (0 : Int32)) hx hb d_B_isMet_0 (by decide) ?_
  refine lv_istore_n (lv' := [(3, .int (0 : Int32)), (0, .ref (ad 2)), (1, .ref (ad 1)), (2, .int p0)]) hx hb d_B_isMet_1 rfl hl (by decide) rfl (fun ls hl => ?_)
  exact mw_B_isMet_2 CX hd _ _ _ _ _ hf _ _ hP hS _ (lv_sub hl [1, 2, 3, 0] rfl)
abbrev rm_B_changeFactors : Room := { frames := 2, cells := 0, slots := 0, locals := 44 }
set_option maxHeartbeats 4000000 in
set_option maxRecDepth 100000 in
theorem mw_B_changeFactors_2 {p : Program} {l : Launch} {e : Env} {s : State} {m : MethodId} {args : Array Value} {below : List Frame} {meth : Method} {c : Code} {D : va_G} {ad : Nat → Nat} {ta : Nat → ClassId} (CX : tC p s m args meth c b_B_changeFactors none 6 R_B D clS (tyC ta)) (hd : tD 37 ad) : ∀ (k : Nat) (v2 : Int32) (σ : tS) (res : tS), ml_B_changeFactors_2 k v2 σ = some res → ∀ (H : Heap) (locs : List Loc), va_P D clS (cwC ad ta σ) H → va_S (tA 37 ad) s.heap H locs → ∀ (ls : Array Slot), lv_has ls 6 [(0, .ref (ad 2)), (1, .ref (ad 1)), (2, .int v2)] → W p l e rm_B_changeFactors s m args below meth c H locs 0 0 (MQ below (tQ D clS (cwC ad ta res) none (tA 37 ad)) args s 0 0 (tA 37 ad)) (F0 m 2 ls []) := by
  obtain ⟨hx, hb, hr, hml, hown, ht, hlocks, hK, hN⟩ := id CX
  intro k
  induction k with
  | zero =>
    intro v2 σ res hf
    exact tn_no hf
  | succ k ih =>
    intro v2 σ res hf H locs hP hS ls hl
    replace hf : ms_B_changeFactors_2 (ml_B_changeFactors_2 k) v2 σ = some res := hf
    unfold ms_B_changeFactors_2 at hf
    refine lv_iload_n hx hb d_B_changeFactors_2 rfl (lv_at hl 2 rfl) ?_
    refine lv_aload_n hx hb d_B_changeFactors_3 rfl (lv_at hl 1 rfl) ?_
    refine va_get (ci := 1) (v := .int (σ.1 1)) (C := R_Z) (T := F_Z) (N := 4) hx hb ht iw_Z hown hK hP 1 rfl rfl 0 (by decide) (ht _ wd_65) (fun _ h9 => h9) rfl d_B_changeFactors_4 ?_
    refine lv_icmp_ge (tgt := 65) hx hb d_B_changeFactors_7 (by decide) (fun hc => ?_) (fun hc => ?_)
    · replace hf := ti_pos hc hf
      obtain rfl := ts_of hf
      exact W.vret hx hb hr (fun t ht hW => ⟨rfl, by rw [ht]; exact hP, hS.F ht⟩) hS.2.2 d_B_changeFactors_65
    · replace hf := ti_neg hc hf
      refine lv_aload_n hx hb d_B_changeFactors_10 rfl (lv_at hl 0 rfl) ?_
      refine lv_iload_n hx hb d_B_changeFactors_11 rfl (lv_at hl 2 rfl) ?_
      obtain ⟨r_1, s_1, hq1, hf⟩ := tb2_of hf
      refine tr_calli (va_runV (C := R_B) (As := [.int v2]) (rest := []) ⟨hx, hb, hml, hown, ht⟩ (mc_B_sumTo l hd hq1) ⟨(tw_cb (n := 1) ht wc_B_sumTo wd_36 wd_511 ⟨rfl, rfl⟩ (by decide +kernel) ⟨(Nat.le_of_ble_eq_true rfl), (Nat.le_of_ble_eq_true rfl)⟩), ht _ wd_512, ht _ wd_513⟩ ⟨tP_blind, va_recv hK hP (ci := 2) (q0 := 2) rfl rfl, fun U hU hW => ⟨rfl, by rw [hU]; exact hP, va_K.moved hW.alike hK, tW_warm hW hN⟩⟩ rfl rfl hl.1 rfl (lv_room (Nat.le_of_ble_eq_true rfl)) d_B_changeFactors_12 ⟨Nat.zero_le _, Nat.zero_le _⟩) hS (fun _ h => h.elim) (fun _ h => h.elim) (fun H locs hP hS => ?_)
      refine lv_istore_n (lv' := [(3, .int r_1), (0, .ref (ad 2)), (1, .ref (ad 1)), (2, .int v2)]) hx hb d_B_changeFactors_15 rfl hl (by decide) rfl (fun ls hl => ?_)
      refine lv_iload_n hx hb d_B_changeFactors_16 rfl (lv_at hl 0 rfl) ?_
      refine lv_if_le (tgt := 59) hx hb d_B_changeFactors_17 (by decide) (fun hc => ?_) (fun hc => ?_)
      · replace hf := ti_pos hc hf
        refine lv_iinc (v := (v2 + (1 : Int32))) (lv' := [(2, .int (v2 + (1 : Int32))), (3, .int r_1), (0, .ref (ad 2)), (1, .ref (ad 1))]) hx hb d_B_changeFactors_59 hl (k := 3) rfl rfl (by decide) rfl (fun ls hl => ?_)
        refine lv_goto (tgt := 2) hx hb d_B_changeFactors_62 (by decide) ?_
        exact ih _ _ _ hf _ _ hP hS _ (lv_sub hl [2, 3, 0] rfl)
      · replace hf := ti_neg hc hf
        refine lv_aload_n hx hb d_B_changeFactors_20 rfl (lv_at hl 1 rfl) ?_
        refine va_get (ci := 2) (v := .ref (ad 14)) (C := R_B) (T := F_B) (N := 4) hx hb ht iw_B hown hK hP 2 rfl rfl 2 (by decide) (ht _ wd_119) (fun _ h9 => h9) rfl d_B_changeFactors_21 ?_
        refine lv_iload_n hx hb d_B_changeFactors_24 rfl (lv_at hl 3 rfl) ?_
        obtain ⟨hi2, hf⟩ := tg_of hf
        refine va_iald (f := s_1.2.1 5) hx hb hK hP 14 5 rfl rfl hi2 d_B_changeFactors_25 ?_
        refine lv_i2l hx hb d_B_changeFactors_26 rfl ?_
        refine lv_aload_n hx hb d_B_changeFactors_27 rfl (lv_at hl 2 rfl) ?_
        refine va_get (ci := 1) (v := .ref (ad 11)) (C := R_Z) (T := F_Z) (N := 4) hx hb ht iw_Z hown hK hP 1 rfl rfl 3 (by decide) (ht _ wd_73) (fun _ h9 => h9) rfl d_B_changeFactors_28 ?_
        refine lv_iload_n hx hb d_B_changeFactors_31 rfl (lv_at hl 3 rfl) ?_
        obtain ⟨hi3, hf⟩ := tg_of hf
        refine va_iald (f := s_1.2.1 2) hx hb hK hP 11 2 rfl rfl hi3 d_B_changeFactors_32 ?_
        refine lv_i2l hx hb d_B_changeFactors_33 rfl ?_
        refine lv_lmul hx hb d_B_changeFactors_34 ?_
        refine lv_iload_n hx hb d_B_changeFactors_35 rfl (lv_at hl 0 rfl) ?_
        refine lv_i2l hx hb d_B_changeFactors_36 rfl ?_
        obtain ⟨hz4, hf⟩ := tz_of hf
        refine lv_ldiv hx hb d_B_changeFactors_37 hz4 ?_
        refine lv_lstore (lv' := [(4, .long ((((s_1.2.1 5 v2.toNatClampNeg)).toInt64 * ((s_1.2.1 2 v2.toNatClampNeg)).toInt64) / (r_1).toInt64)), (3, .int r_1), (0, .ref (ad 2)), (1, .ref (ad 1)), (2, .int v2)]) hx hb d_B_changeFactors_38 hl (by decide) rfl (fun ls hl => ?_)
        refine lv_aload_n hx hb d_B_changeFactors_40 rfl (lv_at hl 2 rfl) ?_
        refine va_get (ci := 2) (v := .ref (ad 14)) (C := R_B) (T := F_B) (N := 4) hx hb ht iw_B hown hK hP 2 rfl rfl 2 (by decide) (ht _ wd_119) (fun _ h9 => h9) rfl d_B_changeFactors_41 ?_
        refine lv_iload_n hx hb d_B_changeFactors_44 rfl (lv_at hl 4 rfl) ?_
        refine lv_lconst (v := (1 : Int64)) hx hb d_B_changeFactors_45 (by decide) ?_
        refine lv_lload hx hb d_B_changeFactors_46 (lv_at hl 0 rfl) ?_
        refine lv_ldc2 (v := (1000000 : Int64)) hx hb hown (ht _ wd_522) d_B_changeFactors_48 ?_
        refine va_mmin_long hx hb (hml.trans hl.1.symm) hown (ht _ wd_523) (ht _ wd_281) (ht _ wd_49) (ht _ wm_min_long) (Nat.le_of_ble_eq_true rfl) (Nat.le_of_ble_eq_true rfl) (Nat.zero_le _) (Nat.zero_le _) d_B_changeFactors_51 ?_
        refine va_mmax_long hx hb (hml.trans hl.1.symm) hown (ht _ wd_524) (ht _ wd_525) (ht _ wd_49) (ht _ wm_max_long) (Nat.le_of_ble_eq_true rfl) (Nat.le_of_ble_eq_true rfl) (Nat.zero_le _) (Nat.zero_le _) d_B_changeFactors_54 ?_
        refine lv_l2i hx hb d_B_changeFactors_57 rfl ?_
        obtain ⟨hi5, hf⟩ := tg_of hf
        refine va_iast (f := s_1.2.1 5) hx hb hK hP (cwC_D hd) hS 14 5 rfl rfl hi5 d_B_changeFactors_58 (fun H locs hP _ hS => ?_)
        replace hP : va_P D clS (cwC ad ta (tI s_1 5 v2.toNatClampNeg (((if (if (1000000 : Int64) < ((((s_1.2.1 5 v2.toNatClampNeg)).toInt64 * ((s_1.2.1 2 v2.toNatClampNeg)).toInt64) / (r_1).toInt64) then (1000000 : Int64) else ((((s_1.2.1 5 v2.toNatClampNeg)).toInt64 * ((s_1.2.1 2 v2.toNatClampNeg)).toInt64) / (r_1).toInt64)) < (1 : Int64) then (1 : Int64) else (if (1000000 : Int64) < ((((s_1.2.1 5 v2.toNatClampNeg)).toInt64 * ((s_1.2.1 2 v2.toNatClampNeg)).toInt64) / (r_1).toInt64) then (1000000 : Int64) else ((((s_1.2.1 5 v2.toNatClampNeg)).toInt64 * ((s_1.2.1 2 v2.toNatClampNeg)).toInt64) / (r_1).toInt64)))).toInt32))) H := hP
        refine lv_iinc (v := (v2 + (1 : Int32))) (lv' := [(2, .int (v2 + (1 : Int32))), (4, .long ((((s_1.2.1 5 v2.toNatClampNeg)).toInt64 * ((s_1.2.1 2 v2.toNatClampNeg)).toInt64) / (r_1).toInt64)), (3, .int r_1), (0, .ref (ad 2)), (1, .ref (ad 1))]) hx hb d_B_changeFactors_59 hl (k := 4) rfl rfl (by decide) rfl (fun ls hl => ?_)
        refine lv_goto (tgt := 2) hx hb d_B_changeFactors_62 (by decide) ?_
        exact ih _ _ _ hf _ _ hP hS _ (lv_sub hl [3, 4, 0] rfl)
set_option maxHeartbeats 4000000 in
set_option maxRecDepth 100000 in
theorem mc_B_changeFactors (l : Launch) {D : va_G} {ad : Nat → Nat} {ta : Nat → ClassId} (hd : tD 37 ad) {σ σ' : tS}  (hf : mf_B_changeFactors  σ = some σ') : Met l y_B_changeFactors (.code y_B_changeFactors b_B_changeFactors 6 none :: tw) rm_B_changeFactors (tP D clS (tyC ta) (cwC ad ta σ) [.ref (ad 2), .ref (ad 1)]) (tQ D clS (cwC ad ta σ') none (tA 37 ad)) 0 0 (tA 37 ad) := by
  refine Met.ofW (cc := b_B_changeFactors) (maxL := 6) (ret := none) (by decide) rfl ?_
  intro p e s m args below meth c s₁ B hml hv
  obtain ⟨rfl, hP, hK, hN⟩ := hv
  have hx := B.exec
  have hb := B.bytes
  have hr := B.returns
  have ht : ∀ w ∈ tw, w.before [.ref (ad 2), .ref (ad 1)].toArray s = true := fun w h => atoms_spec (ws := (.code y_B_changeFactors b_B_changeFactors 6 none :: tw)) B.pre w (List.mem_cons_of_mem _ h)
  have hown : s.vm.findClass R_B = some m.cls := findClass_of_methodNamed B.named
  have hlocks := B.notSynchronized
  have CX : tC p s m [.ref (ad 2), .ref (ad 1)].toArray meth c b_B_changeFactors none 6 R_B D clS (tyC ta) := ⟨hx, hb, hr, hml, hown, ht, hlocks, hK, hN⟩
  have hS : va_S (tA 37 ad) s.heap s.heap [] := va_S.rf
  have hl := lv_entry ([.ref (ad 2), .ref (ad 1)]) (n := 6) (Nat.le_of_ble_eq_true rfl)
  rw [lg_entry_eq]
  generalize (lg_sl ([.ref (ad 2), .ref (ad 1)]) ++ List.replicate (6 - (lg_sl ([.ref (ad 2), .ref (ad 1)])).length) Slot.unset).toArray = ls at hl ⊢
  replace hl : lv_has ls 6 [(0, .ref (ad 2)), (1, .ref (ad 1))] := hl
  unfold mf_B_changeFactors at hf
  refine lv_iconst (v := (0 : Int32)) hx hb d_B_changeFactors_0 (by decide) ?_
  refine lv_istore_n (lv' := [(2, .int (0 : Int32)), (0, .ref (ad 2)), (1, .ref (ad 1))]) hx hb d_B_changeFactors_1 rfl hl (by decide) rfl (fun ls hl => ?_)
  exact mw_B_changeFactors_2 CX hd _ _ _ _ hf _ _ hP hS _ (lv_sub hl [1, 2, 0] rfl)
abbrev rm_B_goRounds : Room := { frames := 3, cells := 0, slots := 0, locals := 75 }
set_option maxHeartbeats 4000000 in
set_option maxRecDepth 100000 in
theorem mw_B_goRounds_31 {p : Program} {l : Launch} {e : Env} {s : State} {m : MethodId} {args : Array Value} {below : List Frame} {meth : Method} {c : Code} {D : va_G} {ad : Nat → Nat} {ta : Nat → ClassId} (CX : tC p s m args meth c b_B_goRounds (some .int) 5 R_B D clS (tyC ta)) (hd : tD 37 ad) : ∀ (k : Nat) (v2 : Int32) (v3 : Int32) (v4 : Int32) (σ : tS) (res : (Int32 × tS)), ml_B_goRounds_31 k v2 v3 v4 σ = some res → ∀ (H : Heap) (locs : List Loc), va_P D clS (cwC ad ta σ) H → va_S (tA 37 ad) s.heap H locs → ∀ (ls : Array Slot), lv_has ls 5 [(0, .ref (ad 2)), (1, .ref (ad 1)), (2, .int v2), (3, .int v3), (4, .int v4)] → W p l e rm_B_goRounds s m args below meth c H locs 0 0 (MQ below (tQ D clS (cwC ad ta res.2) (some (.int res.1)) (tA 37 ad)) args s 0 0 (tA 37 ad)) (F0 m 31 ls []) := by
  obtain ⟨hx, hb, hr, hml, hown, ht, hlocks, hK, hN⟩ := id CX
  intro k
  induction k with
  | zero =>
    intro v2 v3 v4 σ res hf
    exact tn_no hf
  | succ k ih =>
    intro v2 v3 v4 σ res hf H locs hP hS ls hl
    replace hf : ms_B_goRounds_31 (ml_B_goRounds_31 k) v2 v3 v4 σ = some res := hf
    unfold ms_B_goRounds_31 at hf
    refine lv_iload hx hb d_B_goRounds_31 (lv_at hl 4 rfl) ?_
    refine lv_iload_n hx hb d_B_goRounds_33 rfl (lv_at hl 2 rfl) ?_
    refine lv_icmp_gt (tgt := 71) hx hb d_B_goRounds_34 (by decide) (fun hc => ?_) (fun hc => ?_)
    · replace hf := ti_pos hc hf
      refine lv_iload_n hx hb d_B_goRounds_71 rfl (lv_at hl 2 rfl) ?_
      refine lv_ineg hx hb d_B_goRounds_72 ?_
      obtain rfl := ts_of hf
      exact W.iret (v := (-v2)) hx hb hr (fun t ht hW => ⟨rfl, by rw [ht]; exact hP, hS.F ht⟩) hS.2.2 d_B_goRounds_73
    · replace hf := ti_neg hc hf
      refine lv_aload_n hx hb d_B_goRounds_37 rfl (lv_at hl 0 rfl) ?_
      refine lv_aload_n hx hb d_B_goRounds_38 rfl (lv_at hl 1 rfl) ?_
      obtain ⟨s_1, hq1, hf⟩ := tb1_of hf
      refine tr_callv (va_runV (C := R_B) (As := [.ref (ad 1)]) (rest := []) ⟨hx, hb, hml, hown, ht⟩ (mc_B_shareAllPeople l hd hq1) ⟨(tw_cb (n := 1) ht wc_B_shareAllPeople wd_36 wd_492 ⟨rfl, rfl⟩ (by decide +kernel) ⟨(Nat.le_of_ble_eq_true rfl), (Nat.le_of_ble_eq_true rfl)⟩), ht _ wd_494, ht _ wd_8⟩ ⟨tP_blind, va_recv hK hP (ci := 2) (q0 := 2) rfl rfl, fun U hU hW => ⟨rfl, by rw [hU]; exact hP, va_K.moved hW.alike hK, tW_warm hW hN⟩⟩ rfl rfl hl.1 rfl (lv_room (Nat.le_of_ble_eq_true rfl)) d_B_goRounds_39 ⟨Nat.zero_le _, Nat.zero_le _⟩) hS (fun _ h => h) (fun _ h => h) (fun H locs hP hS => ?_)
      refine lv_aload_n hx hb d_B_goRounds_42 rfl (lv_at hl 0 rfl) ?_
      refine lv_aload_n hx hb d_B_goRounds_43 rfl (lv_at hl 1 rfl) ?_
      refine lv_iload_n hx hb d_B_goRounds_44 rfl (lv_at hl 3 rfl) ?_
      obtain ⟨r_2, s_2, hq2, hf⟩ := tb2_of hf
      refine tr_calli (va_runV (C := R_B) (As := [.ref (ad 1), .int v3]) (rest := []) ⟨hx, hb, hml, hown, ht⟩ (mc_B_isMet l hd hq2) ⟨(tw_cb (n := 2) ht wc_B_isMet wd_36 wd_507 ⟨rfl, rfl⟩ (by decide +kernel) ⟨(Nat.le_of_ble_eq_true rfl), (Nat.le_of_ble_eq_true rfl)⟩), ht _ wd_509, ht _ wd_10⟩ ⟨tP_blind, va_recv hK hP (ci := 2) (q0 := 2) rfl rfl, fun U hU hW => ⟨rfl, by rw [hU]; exact hP, va_K.moved hW.alike hK, tW_warm hW hN⟩⟩ rfl rfl hl.1 rfl (lv_room (Nat.le_of_ble_eq_true rfl)) d_B_goRounds_45 ⟨Nat.zero_le _, Nat.zero_le _⟩) hS (fun _ h => h.elim) (fun _ h => h.elim) (fun H locs hP hS => ?_)
      refine lv_if_eq (tgt := 54) hx hb d_B_goRounds_48 (by decide) (fun hc => ?_) (fun hc => ?_)
      · replace hf := ti_pos hc hf
        refine lv_iload hx hb d_B_goRounds_54 (lv_at hl 4 rfl) ?_
        refine lv_iload_n hx hb d_B_goRounds_56 rfl (lv_at hl 2 rfl) ?_
        refine lv_icmp_ge (tgt := 65) hx hb d_B_goRounds_57 (by decide) (fun hc => ?_) (fun hc => ?_)
        · replace hf := ti_pos hc hf
          refine lv_iinc (v := (v4 + (1 : Int32))) (lv' := [(4, .int (v4 + (1 : Int32))), (0, .ref (ad 2)), (1, .ref (ad 1)), (2, .int v2), (3, .int v3)]) hx hb d_B_goRounds_65 hl (k := 4) rfl rfl (by decide) rfl (fun ls hl => ?_)
          refine lv_goto (tgt := 31) hx hb d_B_goRounds_68 (by decide) ?_
          exact ih _ _ _ _ _ hf _ _ hP hS _ (lv_sub hl [1, 2, 3, 4, 0] rfl)
        · replace hf := ti_neg hc hf
          refine lv_aload_n hx hb d_B_goRounds_60 rfl (lv_at hl 0 rfl) ?_
          refine lv_aload_n hx hb d_B_goRounds_61 rfl (lv_at hl 1 rfl) ?_
          obtain ⟨s_3, hq3, hf⟩ := tb1_of hf
          refine tr_callv (va_runV (C := R_B) (As := [.ref (ad 1)]) (rest := []) ⟨hx, hb, hml, hown, ht⟩ (mc_B_changeFactors l hd hq3) ⟨(tw_cb (n := 1) ht wc_B_changeFactors wd_36 wd_518 ⟨rfl, rfl⟩ (by decide +kernel) ⟨(Nat.le_of_ble_eq_true rfl), (Nat.le_of_ble_eq_true rfl)⟩), ht _ wd_520, ht _ wd_11⟩ ⟨tP_blind, va_recv hK hP (ci := 2) (q0 := 2) rfl rfl, fun U hU hW => ⟨rfl, by rw [hU]; exact hP, va_K.moved hW.alike hK, tW_warm hW hN⟩⟩ rfl rfl hl.1 rfl (lv_room (Nat.le_of_ble_eq_true rfl)) d_B_goRounds_62 ⟨Nat.zero_le _, Nat.zero_le _⟩) hS (fun _ h => h) (fun _ h => h) (fun H locs hP hS => ?_)
          refine lv_iinc (v := (v4 + (1 : Int32))) (lv' := [(4, .int (v4 + (1 : Int32))), (0, .ref (ad 2)), (1, .ref (ad 1)), (2, .int v2), (3, .int v3)]) hx hb d_B_goRounds_65 hl (k := 4) rfl rfl (by decide) rfl (fun ls hl => ?_)
          refine lv_goto (tgt := 31) hx hb d_B_goRounds_68 (by decide) ?_
          exact ih _ _ _ _ _ hf _ _ hP hS _ (lv_sub hl [1, 2, 3, 4, 0] rfl)
      · replace hf := ti_neg hc hf
        refine lv_iload hx hb d_B_goRounds_51 (lv_at hl 4 rfl) ?_
        obtain rfl := ts_of hf
        exact W.iret (v := v4) hx hb hr (fun t ht hW => ⟨rfl, by rw [ht]; exact hP, hS.F ht⟩) hS.2.2 d_B_goRounds_53
set_option maxHeartbeats 4000000 in
set_option maxRecDepth 100000 in
theorem mw_B_goRounds_3 {p : Program} {l : Launch} {e : Env} {s : State} {m : MethodId} {args : Array Value} {below : List Frame} {meth : Method} {c : Code} {D : va_G} {ad : Nat → Nat} {ta : Nat → ClassId} (CX : tC p s m args meth c b_B_goRounds (some .int) 5 R_B D clS (tyC ta)) (hd : tD 37 ad) : ∀ (k : Nat) (v2 : Int32) (v3 : Int32) (v4 : Int32) (σ : tS) (res : (Int32 × tS)), ml_B_goRounds_3 k v2 v3 v4 σ = some res → ∀ (H : Heap) (locs : List Loc), va_P D clS (cwC ad ta σ) H → va_S (tA 37 ad) s.heap H locs → ∀ (ls : Array Slot), lv_has ls 5 [(0, .ref (ad 2)), (1, .ref (ad 1)), (2, .int v2), (3, .int v3), (4, .int v4)] → W p l e rm_B_goRounds s m args below meth c H locs 0 0 (MQ below (tQ D clS (cwC ad ta res.2) (some (.int res.1)) (tA 37 ad)) args s 0 0 (tA 37 ad)) (F0 m 3 ls []) := by
  obtain ⟨hx, hb, hr, hml, hown, ht, hlocks, hK, hN⟩ := id CX
  intro k
  induction k with
  | zero =>
    intro v2 v3 v4 σ res hf
    exact tn_no hf
  | succ k ih =>
    intro v2 v3 v4 σ res hf H locs hP hS ls hl
    replace hf : ms_B_goRounds_3 (ml_B_goRounds_3 k) v2 v3 v4 σ = some res := hf
    unfold ms_B_goRounds_3 at hf
    refine lv_iload hx hb d_B_goRounds_3 (lv_at hl 4 rfl) ?_
    refine lv_aload_n hx hb d_B_goRounds_5 rfl (lv_at hl 1 rfl) ?_
    refine va_get (ci := 1) (v := .int (σ.1 1)) (C := R_Z) (T := F_Z) (N := 4) hx hb ht iw_Z hown hK hP 1 rfl rfl 0 (by decide) (ht _ wd_65) (fun _ h9 => h9) rfl d_B_goRounds_6 ?_
    refine lv_icmp_ge (tgt := 28) hx hb d_B_goRounds_9 (by decide) (fun hc => ?_) (fun hc => ?_)
    · replace hf := ti_pos hc hf
      refine lv_iconst (v := (1 : Int32)) hx hb d_B_goRounds_28 (by decide) ?_
      refine lv_istore (lv' := [(4, .int (1 : Int32)), (0, .ref (ad 2)), (1, .ref (ad 1)), (2, .int v2), (3, .int v3)]) hx hb d_B_goRounds_29 hl (by decide) rfl (fun ls hl => ?_)
      exact mw_B_goRounds_31 CX hd _ _ _ _ _ _ hf _ _ hP hS _ (lv_sub hl [1, 2, 3, 4, 0] rfl)
    · replace hf := ti_neg hc hf
      refine lv_aload_n hx hb d_B_goRounds_12 rfl (lv_at hl 0 rfl) ?_
      refine va_get (ci := 2) (v := .ref (ad 14)) (C := R_B) (T := F_B) (N := 4) hx hb ht iw_B hown hK hP 2 rfl rfl 2 (by decide) (ht _ wd_119) (fun _ h9 => h9) rfl d_B_goRounds_13 ?_
      refine lv_iload hx hb d_B_goRounds_16 (lv_at hl 4 rfl) ?_
      refine lv_sipush (v := (1000 : Int32)) hx hb d_B_goRounds_18 (by decide) ?_
      obtain ⟨hi4, hf⟩ := tg_of hf
      refine va_iast (f := σ.2.1 5) hx hb hK hP (cwC_D hd) hS 14 5 rfl rfl hi4 d_B_goRounds_21 (fun H locs hP _ hS => ?_)
      replace hP : va_P D clS (cwC ad ta (tI σ 5 v4.toNatClampNeg (1000 : Int32))) H := hP
      refine lv_iinc (v := (v4 + (1 : Int32))) (lv' := [(4, .int (v4 + (1 : Int32))), (0, .ref (ad 2)), (1, .ref (ad 1)), (2, .int v2), (3, .int v3)]) hx hb d_B_goRounds_22 hl (k := 4) rfl rfl (by decide) rfl (fun ls hl => ?_)
      refine lv_goto (tgt := 3) hx hb d_B_goRounds_25 (by decide) ?_
      exact ih _ _ _ _ _ hf _ _ hP hS _ (lv_sub hl [1, 2, 3, 4, 0] rfl)
set_option maxHeartbeats 4000000 in
set_option maxRecDepth 100000 in
theorem mc_B_goRounds (l : Launch) {D : va_G} {ad : Nat → Nat} {ta : Nat → ClassId} (hd : tD 37 ad) {σ σ' : tS} {p0 : Int32} {p1 : Int32} {r : Int32} (hf : mf_B_goRounds p0 p1 σ = some (r, σ')) : Met l y_B_goRounds (.code y_B_goRounds b_B_goRounds 5 (some .int) :: tw) rm_B_goRounds (tP D clS (tyC ta) (cwC ad ta σ) [.ref (ad 2), .ref (ad 1), .int p0, .int p1]) (tQ D clS (cwC ad ta σ') (some (.int r)) (tA 37 ad)) 0 0 (tA 37 ad) := by
  refine Met.ofW (cc := b_B_goRounds) (maxL := 5) (ret := (some .int)) (by decide) rfl ?_
  intro p e s m args below meth c s₁ B hml hv
  obtain ⟨rfl, hP, hK, hN⟩ := hv
  have hx := B.exec
  have hb := B.bytes
  have hr := B.returns
  have ht : ∀ w ∈ tw, w.before [.ref (ad 2), .ref (ad 1), .int p0, .int p1].toArray s = true := fun w h => atoms_spec (ws := (.code y_B_goRounds b_B_goRounds 5 (some .int) :: tw)) B.pre w (List.mem_cons_of_mem _ h)
  have hown : s.vm.findClass R_B = some m.cls := findClass_of_methodNamed B.named
  have hlocks := B.notSynchronized
  have CX : tC p s m [.ref (ad 2), .ref (ad 1), .int p0, .int p1].toArray meth c b_B_goRounds (some .int) 5 R_B D clS (tyC ta) := ⟨hx, hb, hr, hml, hown, ht, hlocks, hK, hN⟩
  have hS : va_S (tA 37 ad) s.heap s.heap [] := va_S.rf
  have hl := lv_entry ([.ref (ad 2), .ref (ad 1), .int p0, .int p1]) (n := 5) (Nat.le_of_ble_eq_true rfl)
  rw [lg_entry_eq]
  generalize (lg_sl ([.ref (ad 2), .ref (ad 1), .int p0, .int p1]) ++ List.replicate (5 - (lg_sl ([.ref (ad 2), .ref (ad 1), .int p0, .int p1])).length) Slot.unset).toArray = ls at hl ⊢
  replace hl : lv_has ls 5 [(0, .ref (ad 2)), (1, .ref (ad 1)), (2, .int p0), (3, .int p1)] := hl
  unfold mf_B_goRounds at hf
  refine lv_iconst (v := (0 : Int32)) hx hb d_B_goRounds_0 (by decide) ?_
  refine lv_istore (lv' := [(4, .int (0 : Int32)), (0, .ref (ad 2)), (1, .ref (ad 1)), (2, .int p0), (3, .int p1)]) hx hb d_B_goRounds_1 hl (by decide) rfl (fun ls hl => ?_)
  exact mw_B_goRounds_3 CX hd _ _ _ _ _ _ hf _ _ hP hS _ (lv_sub hl [1, 2, 3, 4, 0] rfl)
abbrev rm_T_rounds : Room := { frames := 4, cells := 0, slots := 0, locals := 99 }
set_option maxHeartbeats 4000000 in
set_option maxRecDepth 100000 in
theorem mc_T_rounds (l : Launch) {D : va_G} {ad : Nat → Nat} {ta : Nat → ClassId} (hd : tD 37 ad) {σ σ' : tS} {p0 : Int32} {p1 : Int32} {r : Int32} (hf : mf_T_rounds p0 p1 σ = some (r, σ')) : Met l y_T_rounds (.code y_T_rounds b_T_rounds 3 (some .int) :: tw) rm_T_rounds (tP D clS (tyC ta) (cwC ad ta σ) [.ref (ad 0), .int p0, .int p1]) (tQ D clS (cwC ad ta σ') (some (.int r)) (tA 37 ad)) 0 0 (tA 37 ad) := by
  refine Met.ofW (cc := b_T_rounds) (maxL := 3) (ret := (some .int)) (by decide) rfl ?_
  intro p e s m args below meth c s₁ B hml hv
  obtain ⟨rfl, hP, hK, hN⟩ := hv
  have hx := B.exec
  have hb := B.bytes
  have hr := B.returns
  have ht : ∀ w ∈ tw, w.before [.ref (ad 0), .int p0, .int p1].toArray s = true := fun w h => atoms_spec (ws := (.code y_T_rounds b_T_rounds 3 (some .int) :: tw)) B.pre w (List.mem_cons_of_mem _ h)
  have hown : s.vm.findClass R_T = some m.cls := findClass_of_methodNamed B.named
  have hlocks := B.notSynchronized
  have CX : tC p s m [.ref (ad 0), .int p0, .int p1].toArray meth c b_T_rounds (some .int) 3 R_T D clS (tyC ta) := ⟨hx, hb, hr, hml, hown, ht, hlocks, hK, hN⟩
  have hS : va_S (tA 37 ad) s.heap s.heap [] := va_S.rf
  have hl := lv_entry ([.ref (ad 0), .int p0, .int p1]) (n := 3) (Nat.le_of_ble_eq_true rfl)
  rw [lg_entry_eq]
  generalize (lg_sl ([.ref (ad 0), .int p0, .int p1]) ++ List.replicate (3 - (lg_sl ([.ref (ad 0), .int p0, .int p1])).length) Slot.unset).toArray = ls at hl ⊢
  replace hl : lv_has ls 3 [(0, .ref (ad 0)), (1, .int p0), (2, .int p1)] := hl
  unfold mf_T_rounds at hf
  refine lv_iload_n hx hb d_T_rounds_0 rfl (lv_at hl 1 rfl) ?_
  refine lv_iconst (v := (1 : Int32)) hx hb d_T_rounds_1 (by decide) ?_
  refine lv_bipush (v := (50 : Int32)) hx hb d_T_rounds_2 (by decide) ?_
  obtain ⟨s_1, hq1, hf⟩ := tb1_of hf
  refine tr_callv (va_runS (As := [.int p0, .int (1 : Int32), .int (50 : Int32)]) (rest := []) ⟨hx, hb, hml, hown, ht⟩ (mc_T_needWithin l hd hq1) ⟨(tw_cb (n := 3) ht wc_T_needWithin wd_34 wd_420 ⟨rfl, rfl⟩ (by decide +kernel) ⟨(Nat.le_of_ble_eq_true rfl), (Nat.le_of_ble_eq_true rfl)⟩), ht _ wd_421⟩ ⟨tP_blind, fun U hU hW => ⟨rfl, by rw [hU]; exact hP, va_K.moved hW.alike hK, tW_warm hW hN⟩⟩ rfl rfl hl.1 rfl (lv_room (Nat.le_of_ble_eq_true rfl)) d_T_rounds_4 ⟨Nat.zero_le _, Nat.zero_le _⟩) hS (fun _ h => h.elim) (fun _ h => h.elim) (fun H locs hP hS => ?_)
  refine lv_iload_n hx hb d_T_rounds_7 rfl (lv_at hl 2 rfl) ?_
  refine lv_iconst (v := (0 : Int32)) hx hb d_T_rounds_8 (by decide) ?_
  refine lv_ldc (v := (100000 : Int32)) hx hb hown (ht _ wd_419) d_T_rounds_9 ?_
  obtain ⟨s_2, hq2, hf⟩ := tb1_of hf
  refine tr_callv (va_runS (As := [.int p1, .int (0 : Int32), .int (100000 : Int32)]) (rest := []) ⟨hx, hb, hml, hown, ht⟩ (mc_T_needWithin l hd hq2) ⟨(tw_cb (n := 3) ht wc_T_needWithin wd_34 wd_420 ⟨rfl, rfl⟩ (by decide +kernel) ⟨(Nat.le_of_ble_eq_true rfl), (Nat.le_of_ble_eq_true rfl)⟩), ht _ wd_421⟩ ⟨tP_blind, fun U hU hW => ⟨rfl, by rw [hU]; exact hP, va_K.moved hW.alike hK, tW_warm hW hN⟩⟩ rfl rfl hl.1 rfl (lv_room (Nat.le_of_ble_eq_true rfl)) d_T_rounds_11 ⟨Nat.zero_le _, Nat.zero_le _⟩) hS (fun _ h => h.elim) (fun _ h => h.elim) (fun H locs hP hS => ?_)
  refine lv_aload_n hx hb d_T_rounds_14 rfl (lv_at hl 0 rfl) ?_
  refine va_get (ci := 0) (v := .ref (ad 2)) (C := R_T) (T := F_T) (N := 7) hx hb ht iw_T hown hK hP 0 rfl rfl 2 (by decide) (ht _ wd_247) (fun _ h9 => h9) rfl d_T_rounds_15 ?_
  refine lv_aload_n hx hb d_T_rounds_18 rfl (lv_at hl 0 rfl) ?_
  refine va_get (ci := 0) (v := .ref (ad 1)) (C := R_T) (T := F_T) (N := 7) hx hb ht iw_T hown hK hP 0 rfl rfl 1 (by decide) (ht _ wd_246) (fun _ h9 => h9) rfl d_T_rounds_19 ?_
  refine lv_iload_n hx hb d_T_rounds_22 rfl (lv_at hl 1 rfl) ?_
  refine lv_iload_n hx hb d_T_rounds_23 rfl (lv_at hl 2 rfl) ?_
  obtain ⟨r_3, s_3, hq3, hf⟩ := tb2_of hf
  refine tr_calli (va_runV (C := R_B) (As := [.ref (ad 1), .int p0, .int p1]) (rest := []) ⟨hx, hb, hml, hown, ht⟩ (mc_B_goRounds l hd hq3) ⟨(tw_cb (n := 3) ht wc_B_goRounds wd_36 wd_488 ⟨rfl, rfl⟩ (by decide +kernel) ⟨(Nat.le_of_ble_eq_true rfl), (Nat.le_of_ble_eq_true rfl)⟩), ht _ wd_489, ht _ wd_490⟩ ⟨tP_blind, va_recv hK hP (ci := 2) (q0 := 2) rfl rfl, fun U hU hW => ⟨rfl, by rw [hU]; exact hP, va_K.moved hW.alike hK, tW_warm hW hN⟩⟩ rfl rfl hl.1 rfl (lv_room (Nat.le_of_ble_eq_true rfl)) d_T_rounds_24 ⟨Nat.zero_le _, Nat.zero_le _⟩) hS (fun _ h => h) (fun _ h => h) (fun H locs hP hS => ?_)
  obtain ⟨rfl, rfl⟩ := tp_of hf
  exact W.iret (v := r_3) hx hb hr (fun t ht hW => ⟨rfl, by rw [ht]; exact hP, hS.F ht⟩) hS.2.2 d_T_rounds_27
abbrev rm_T_trips : Room := { frames := 1, cells := 0, slots := 0, locals := 21 }
set_option maxHeartbeats 4000000 in
set_option maxRecDepth 100000 in
theorem mc_T_trips (l : Launch) {D : va_G} {ad : Nat → Nat} {ta : Nat → ClassId} (hd : tD 37 ad) {σ σ' : tS} {p0 : Int32} {p1 : Int32} {r : Int32} (hf : mf_T_trips p0 p1 σ = some (r, σ')) : Met l y_T_trips (.code y_T_trips b_T_trips 3 (some .int) :: tw) rm_T_trips (tP D clS (tyC ta) (cwC ad ta σ) [.ref (ad 0), .int p0, .int p1]) (tQ D clS (cwC ad ta σ') (some (.int r)) tNo) 0 0 tNo := by
  refine Met.ofW (cc := b_T_trips) (maxL := 3) (ret := (some .int)) (by decide) rfl ?_
  intro p e s m args below meth c s₁ B hml hv
  obtain ⟨rfl, hP, hK, hN⟩ := hv
  have hx := B.exec
  have hb := B.bytes
  have hr := B.returns
  have ht : ∀ w ∈ tw, w.before [.ref (ad 0), .int p0, .int p1].toArray s = true := fun w h => atoms_spec (ws := (.code y_T_trips b_T_trips 3 (some .int) :: tw)) B.pre w (List.mem_cons_of_mem _ h)
  have hown : s.vm.findClass R_T = some m.cls := findClass_of_methodNamed B.named
  have hlocks := B.notSynchronized
  have CX : tC p s m [.ref (ad 0), .int p0, .int p1].toArray meth c b_T_trips (some .int) 3 R_T D clS (tyC ta) := ⟨hx, hb, hr, hml, hown, ht, hlocks, hK, hN⟩
  have hS : va_S tNo s.heap s.heap [] := va_S.rf
  have hl := lv_entry ([.ref (ad 0), .int p0, .int p1]) (n := 3) (Nat.le_of_ble_eq_true rfl)
  rw [lg_entry_eq]
  generalize (lg_sl ([.ref (ad 0), .int p0, .int p1]) ++ List.replicate (3 - (lg_sl ([.ref (ad 0), .int p0, .int p1])).length) Slot.unset).toArray = ls at hl ⊢
  replace hl : lv_has ls 3 [(0, .ref (ad 0)), (1, .int p0), (2, .int p1)] := hl
  unfold mf_T_trips at hf
  refine lv_aload_n hx hb d_T_trips_0 rfl (lv_at hl 0 rfl) ?_
  refine lv_iload_n hx hb d_T_trips_1 rfl (lv_at hl 1 rfl) ?_
  obtain ⟨s_1, hq1, hf⟩ := tb1_of hf
  refine tr_callv (va_runV (C := R_T) (As := [.int p0]) (rest := []) ⟨hx, hb, hml, hown, ht⟩ (mc_T_needZone l hd hq1) ⟨(tw_cb (n := 1) ht wc_T_needZone wd_34 wd_469 ⟨rfl, rfl⟩ (by decide +kernel) ⟨(Nat.le_of_ble_eq_true rfl), (Nat.le_of_ble_eq_true rfl)⟩), ht _ wd_471, ht _ wd_7⟩ ⟨tP_blind, va_recv hK hP (ci := 0) (q0 := 0) rfl rfl, fun U hU hW => ⟨rfl, by rw [hU]; exact hP, va_K.moved hW.alike hK, tW_warm hW hN⟩⟩ rfl rfl hl.1 rfl (lv_room (Nat.le_of_ble_eq_true rfl)) d_T_trips_2 ⟨Nat.zero_le _, Nat.zero_le _⟩) hS (fun _ h => h.elim) (fun _ h => h.elim) (fun H locs hP hS => ?_)
  refine lv_aload_n hx hb d_T_trips_5 rfl (lv_at hl 0 rfl) ?_
  refine lv_iload_n hx hb d_T_trips_6 rfl (lv_at hl 2 rfl) ?_
  obtain ⟨s_2, hq2, hf⟩ := tb1_of hf
  refine tr_callv (va_runV (C := R_T) (As := [.int p1]) (rest := []) ⟨hx, hb, hml, hown, ht⟩ (mc_T_needZone l hd hq2) ⟨(tw_cb (n := 1) ht wc_T_needZone wd_34 wd_469 ⟨rfl, rfl⟩ (by decide +kernel) ⟨(Nat.le_of_ble_eq_true rfl), (Nat.le_of_ble_eq_true rfl)⟩), ht _ wd_471, ht _ wd_7⟩ ⟨tP_blind, va_recv hK hP (ci := 0) (q0 := 0) rfl rfl, fun U hU hW => ⟨rfl, by rw [hU]; exact hP, va_K.moved hW.alike hK, tW_warm hW hN⟩⟩ rfl rfl hl.1 rfl (lv_room (Nat.le_of_ble_eq_true rfl)) d_T_trips_7 ⟨Nat.zero_le _, Nat.zero_le _⟩) hS (fun _ h => h.elim) (fun _ h => h.elim) (fun H locs hP hS => ?_)
  refine lv_aload_n hx hb d_T_trips_10 rfl (lv_at hl 0 rfl) ?_
  refine va_get (ci := 0) (v := .ref (ad 2)) (C := R_T) (T := F_T) (N := 7) hx hb ht iw_T hown hK hP 0 rfl rfl 2 (by decide) (ht _ wd_247) (fun _ h9 => h9) rfl d_T_trips_11 ?_
  refine va_get (ci := 2) (v := .ref (ad 13)) (C := R_B) (T := F_B) (N := 4) hx hb ht iw_B hown hK hP 2 rfl rfl 1 (by decide) (ht _ wd_118) (fun _ h9 => h9) rfl d_T_trips_14 ?_
  refine lv_iload_n hx hb d_T_trips_17 rfl (lv_at hl 1 rfl) ?_
  refine lv_iload_n hx hb d_T_trips_18 rfl (lv_at hl 2 rfl) ?_
  obtain ⟨r_3, s_3, hq3, hf⟩ := tb2_of hf
  refine tr_calli (va_runS (As := [.int p0, .int p1]) (rest := [.ref (ad 13)]) ⟨hx, hb, hml, hown, ht⟩ (mc_T_pairOf l hd hq3) ⟨(tw_cb (n := 2) ht wc_T_pairOf wd_34 wd_313 ⟨rfl, rfl⟩ (by decide +kernel) ⟨(Nat.le_of_ble_eq_true rfl), (Nat.le_of_ble_eq_true rfl)⟩), ht _ wd_314⟩ ⟨tP_blind, fun U hU hW => ⟨rfl, by rw [hU]; exact hP, va_K.moved hW.alike hK, tW_warm hW hN⟩⟩ rfl rfl hl.1 rfl (lv_room (Nat.le_of_ble_eq_true rfl)) d_T_trips_19 ⟨Nat.zero_le _, Nat.zero_le _⟩) hS (fun _ h => h.elim) (fun _ h => h.elim) (fun H locs hP hS => ?_)
  obtain ⟨hi4, hf⟩ := tg_of hf
  refine va_iald (f := s_3.2.1 4) hx hb hK hP 13 4 rfl rfl hi4 d_T_trips_22 ?_
  obtain ⟨rfl, rfl⟩ := tp_of hf
  exact W.iret (v := (s_3.2.1 4 r_3.toNatClampNeg)) hx hb hr (fun t ht hW => ⟨rfl, by rw [ht]; exact hP, hS.F ht⟩) hS.2.2 d_T_trips_23
abbrev rm_B_sumFrom : Room := { frames := 1, cells := 0, slots := 0, locals := 21 }
set_option maxHeartbeats 4000000 in
set_option maxRecDepth 100000 in
theorem mw_B_sumFrom_4 {p : Program} {l : Launch} {e : Env} {s : State} {m : MethodId} {args : Array Value} {below : List Frame} {meth : Method} {c : Code} {D : va_G} {ad : Nat → Nat} {ta : Nat → ClassId} (CX : tC p s m args meth c b_B_sumFrom (some .int) 4 R_B D clS (tyC ta)) (hd : tD 37 ad) : ∀ (k : Nat) (v1 : Int32) (v2 : Int32) (v3 : Int32) (σ : tS) (res : (Int32 × tS)), ml_B_sumFrom_4 k v1 v2 v3 σ = some res → ∀ (H : Heap) (locs : List Loc), va_P D clS (cwC ad ta σ) H → va_S tNo s.heap H locs → ∀ (ls : Array Slot), lv_has ls 4 [(0, .ref (ad 2)), (1, .int v1), (2, .int v2), (3, .int v3)] → W p l e rm_B_sumFrom s m args below meth c H locs 0 0 (MQ below (tQ D clS (cwC ad ta res.2) (some (.int res.1)) tNo) args s 0 0 tNo) (F0 m 4 ls []) := by
  obtain ⟨hx, hb, hr, hml, hown, ht, hlocks, hK, hN⟩ := id CX
  intro k
  induction k with
  | zero =>
    intro v1 v2 v3 σ res hf
    exact tn_no hf
  | succ k ih =>
    intro v1 v2 v3 σ res hf H locs hP hS ls hl
    replace hf : ms_B_sumFrom_4 (ml_B_sumFrom_4 k) v1 v2 v3 σ = some res := hf
    unfold ms_B_sumFrom_4 at hf
    refine lv_iload_n hx hb d_B_sumFrom_4 rfl (lv_at hl 3 rfl) ?_
    refine lv_bipush (v := (6 : Int32)) hx hb d_B_sumFrom_5 (by decide) ?_
    refine lv_icmp_ge (tgt := 29) hx hb d_B_sumFrom_7 (by decide) (fun hc => ?_) (fun hc => ?_)
    · replace hf := ti_pos hc hf
      refine lv_iload_n hx hb d_B_sumFrom_29 rfl (lv_at hl 2 rfl) ?_
      obtain rfl := ts_of hf
      exact W.iret (v := v2) hx hb hr (fun t ht hW => ⟨rfl, by rw [ht]; exact hP, hS.F ht⟩) hS.2.2 d_B_sumFrom_30
    · replace hf := ti_neg hc hf
      refine lv_iload_n hx hb d_B_sumFrom_10 rfl (lv_at hl 2 rfl) ?_
      refine lv_aload_n hx hb d_B_sumFrom_11 rfl (lv_at hl 0 rfl) ?_
      refine va_get (ci := 2) (v := .ref (ad 13)) (C := R_B) (T := F_B) (N := 4) hx hb ht iw_B hown hK hP 2 rfl rfl 1 (by decide) (ht _ wd_117) (fun _ h9 => h9) rfl d_B_sumFrom_12 ?_
      refine lv_iload_n hx hb d_B_sumFrom_15 rfl (lv_at hl 1 rfl) ?_
      refine lv_iload_n hx hb d_B_sumFrom_16 rfl (lv_at hl 3 rfl) ?_
      obtain ⟨r_1, s_1, hq1, hf⟩ := tb2_of hf
      refine tr_calli (va_runSN (As := [.int v1, .int v3]) (rest := [.ref (ad 13), .int v2]) ⟨hx, hb, hml, hown, ht⟩ (mc_T_pairOf l hd hq1) ⟨va_cnB 2 ht (tw_G wc_T_pairOf) rfl rfl rfl hN (ht _ wd_34) (by decide +kernel) ⟨(Nat.le_of_ble_eq_true rfl), (Nat.le_of_ble_eq_true rfl)⟩, ht _ wd_314, trivial⟩ ⟨tP_blind, fun U hU hW => ⟨rfl, by rw [hU]; exact hP, va_K.moved hW.alike hK, tW_warm hW hN⟩⟩ rfl rfl hl.1 rfl (lv_room (Nat.le_of_ble_eq_true rfl)) d_B_sumFrom_17 ⟨Nat.zero_le _, Nat.zero_le _⟩) hS (fun _ h => h.elim) (fun _ h => h.elim) (fun H locs hP hS => ?_)
      obtain ⟨hi2, hf⟩ := tg_of hf
      refine va_iald (f := s_1.2.1 4) hx hb hK hP 13 4 rfl rfl hi2 d_B_sumFrom_20 ?_
      refine lv_iadd hx hb d_B_sumFrom_21 ?_
      refine lv_istore_n (lv' := [(2, .int (v2 + (s_1.2.1 4 r_1.toNatClampNeg))), (0, .ref (ad 2)), (1, .int v1), (3, .int v3)]) hx hb d_B_sumFrom_22 rfl hl (by decide) rfl (fun ls hl => ?_)
      refine lv_iinc (v := (v3 + (1 : Int32))) (lv' := [(3, .int (v3 + (1 : Int32))), (2, .int (v2 + (s_1.2.1 4 r_1.toNatClampNeg))), (0, .ref (ad 2)), (1, .int v1)]) hx hb d_B_sumFrom_23 hl (k := 3) rfl rfl (by decide) rfl (fun ls hl => ?_)
      refine lv_goto (tgt := 4) hx hb d_B_sumFrom_26 (by decide) ?_
      exact ih _ _ _ _ _ hf _ _ hP hS _ (lv_sub hl [2, 3, 1, 0] rfl)
set_option maxHeartbeats 4000000 in
set_option maxRecDepth 100000 in
theorem mc_B_sumFrom (l : Launch) {D : va_G} {ad : Nat → Nat} {ta : Nat → ClassId} (hd : tD 37 ad) {σ σ' : tS} {p0 : Int32} {r : Int32} (hf : mf_B_sumFrom p0 σ = some (r, σ')) : Met l y_B_sumFrom (.code y_B_sumFrom b_B_sumFrom 4 (some .int) :: tw) rm_B_sumFrom (tP D clS (tyC ta) (cwC ad ta σ) [.ref (ad 2), .int p0]) (tQ D clS (cwC ad ta σ') (some (.int r)) tNo) 0 0 tNo := by
  refine Met.ofW (cc := b_B_sumFrom) (maxL := 4) (ret := (some .int)) (by decide) rfl ?_
  intro p e s m args below meth c s₁ B hml hv
  obtain ⟨rfl, hP, hK, hN⟩ := hv
  have hx := B.exec
  have hb := B.bytes
  have hr := B.returns
  have ht : ∀ w ∈ tw, w.before [.ref (ad 2), .int p0].toArray s = true := fun w h => atoms_spec (ws := (.code y_B_sumFrom b_B_sumFrom 4 (some .int) :: tw)) B.pre w (List.mem_cons_of_mem _ h)
  have hown : s.vm.findClass R_B = some m.cls := findClass_of_methodNamed B.named
  have hlocks := B.notSynchronized
  have CX : tC p s m [.ref (ad 2), .int p0].toArray meth c b_B_sumFrom (some .int) 4 R_B D clS (tyC ta) := ⟨hx, hb, hr, hml, hown, ht, hlocks, hK, hN⟩
  have hS : va_S tNo s.heap s.heap [] := va_S.rf
  have hl := lv_entry ([.ref (ad 2), .int p0]) (n := 4) (Nat.le_of_ble_eq_true rfl)
  rw [lg_entry_eq]
  generalize (lg_sl ([.ref (ad 2), .int p0]) ++ List.replicate (4 - (lg_sl ([.ref (ad 2), .int p0])).length) Slot.unset).toArray = ls at hl ⊢
  replace hl : lv_has ls 4 [(0, .ref (ad 2)), (1, .int p0)] := hl
  unfold mf_B_sumFrom at hf
  refine lv_iconst (v := (0 : Int32)) hx hb d_B_sumFrom_0 (by decide) ?_
  refine lv_istore_n (lv' := [(2, .int (0 : Int32)), (0, .ref (ad 2)), (1, .int p0)]) hx hb d_B_sumFrom_1 rfl hl (by decide) rfl (fun ls hl => ?_)
  refine lv_iconst (v := (0 : Int32)) hx hb d_B_sumFrom_2 (by decide) ?_
  refine lv_istore_n (lv' := [(3, .int (0 : Int32)), (2, .int (0 : Int32)), (0, .ref (ad 2)), (1, .int p0)]) hx hb d_B_sumFrom_3 rfl hl (by decide) rfl (fun ls hl => ?_)
  exact mw_B_sumFrom_4 CX hd _ _ _ _ _ _ hf _ _ hP hS _ (lv_sub hl [2, 3, 1, 0] rfl)
abbrev rm_T_sum : Room := { frames := 2, cells := 0, slots := 0, locals := 44 }
set_option maxHeartbeats 4000000 in
set_option maxRecDepth 100000 in
theorem mc_T_sum (l : Launch) {D : va_G} {ad : Nat → Nat} {ta : Nat → ClassId} (hd : tD 37 ad) {σ σ' : tS} {p0 : Int32} {p1 : Int32} {r : Int32} (hf : mf_T_sum p0 p1 σ = some (r, σ')) : Met l y_T_sum (.code y_T_sum b_T_sum 3 (some .int) :: tw) rm_T_sum (tP D clS (tyC ta) (cwC ad ta σ) [.ref (ad 0), .int p0, .int p1]) (tQ D clS (cwC ad ta σ') (some (.int r)) tNo) 0 0 tNo := by
  refine Met.ofW (cc := b_T_sum) (maxL := 3) (ret := (some .int)) (by decide) rfl ?_
  intro p e s m args below meth c s₁ B hml hv
  obtain ⟨rfl, hP, hK, hN⟩ := hv
  have hx := B.exec
  have hb := B.bytes
  have hr := B.returns
  have ht : ∀ w ∈ tw, w.before [.ref (ad 0), .int p0, .int p1].toArray s = true := fun w h => atoms_spec (ws := (.code y_T_sum b_T_sum 3 (some .int) :: tw)) B.pre w (List.mem_cons_of_mem _ h)
  have hown : s.vm.findClass R_T = some m.cls := findClass_of_methodNamed B.named
  have hlocks := B.notSynchronized
  have CX : tC p s m [.ref (ad 0), .int p0, .int p1].toArray meth c b_T_sum (some .int) 3 R_T D clS (tyC ta) := ⟨hx, hb, hr, hml, hown, ht, hlocks, hK, hN⟩
  have hS : va_S tNo s.heap s.heap [] := va_S.rf
  have hl := lv_entry ([.ref (ad 0), .int p0, .int p1]) (n := 3) (Nat.le_of_ble_eq_true rfl)
  rw [lg_entry_eq]
  generalize (lg_sl ([.ref (ad 0), .int p0, .int p1]) ++ List.replicate (3 - (lg_sl ([.ref (ad 0), .int p0, .int p1])).length) Slot.unset).toArray = ls at hl ⊢
  replace hl : lv_has ls 3 [(0, .ref (ad 0)), (1, .int p0), (2, .int p1)] := hl
  unfold mf_T_sum at hf
  refine lv_aload_n hx hb d_T_sum_0 rfl (lv_at hl 0 rfl) ?_
  refine lv_iload_n hx hb d_T_sum_1 rfl (lv_at hl 1 rfl) ?_
  obtain ⟨s_1, hq1, hf⟩ := tb1_of hf
  refine tr_callv (va_runV (C := R_T) (As := [.int p0]) (rest := []) ⟨hx, hb, hml, hown, ht⟩ (mc_T_needZone l hd hq1) ⟨(tw_cb (n := 1) ht wc_T_needZone wd_34 wd_469 ⟨rfl, rfl⟩ (by decide +kernel) ⟨(Nat.le_of_ble_eq_true rfl), (Nat.le_of_ble_eq_true rfl)⟩), ht _ wd_471, ht _ wd_7⟩ ⟨tP_blind, va_recv hK hP (ci := 0) (q0 := 0) rfl rfl, fun U hU hW => ⟨rfl, by rw [hU]; exact hP, va_K.moved hW.alike hK, tW_warm hW hN⟩⟩ rfl rfl hl.1 rfl (lv_room (Nat.le_of_ble_eq_true rfl)) d_T_sum_2 ⟨Nat.zero_le _, Nat.zero_le _⟩) hS (fun _ h => h.elim) (fun _ h => h.elim) (fun H locs hP hS => ?_)
  refine lv_iload_n hx hb d_T_sum_5 rfl (lv_at hl 2 rfl) ?_
  refine lv_iconst (v := (0 : Int32)) hx hb d_T_sum_6 (by decide) ?_
  refine lv_iconst (v := (1 : Int32)) hx hb d_T_sum_7 (by decide) ?_
  obtain ⟨s_2, hq2, hf⟩ := tb1_of hf
  refine tr_callv (va_runS (As := [.int p1, .int (0 : Int32), .int (1 : Int32)]) (rest := []) ⟨hx, hb, hml, hown, ht⟩ (mc_T_needWithin l hd hq2) ⟨(tw_cb (n := 3) ht wc_T_needWithin wd_34 wd_420 ⟨rfl, rfl⟩ (by decide +kernel) ⟨(Nat.le_of_ble_eq_true rfl), (Nat.le_of_ble_eq_true rfl)⟩), ht _ wd_421⟩ ⟨tP_blind, fun U hU hW => ⟨rfl, by rw [hU]; exact hP, va_K.moved hW.alike hK, tW_warm hW hN⟩⟩ rfl rfl hl.1 rfl (lv_room (Nat.le_of_ble_eq_true rfl)) d_T_sum_8 ⟨Nat.zero_le _, Nat.zero_le _⟩) hS (fun _ h => h.elim) (fun _ h => h.elim) (fun H locs hP hS => ?_)
  refine lv_iload_n hx hb d_T_sum_11 rfl (lv_at hl 2 rfl) ?_
  refine lv_if_ne (tgt := 26) hx hb d_T_sum_12 (by decide) (fun hc => ?_) (fun hc => ?_)
  · replace hf := ti_neg hc hf
    refine lv_aload_n hx hb d_T_sum_26 rfl (lv_at hl 0 rfl) ?_
    refine va_get (ci := 0) (v := .ref (ad 2)) (C := R_T) (T := F_T) (N := 7) hx hb ht iw_T hown hK hP 0 rfl rfl 2 (by decide) (ht _ wd_247) (fun _ h9 => h9) rfl d_T_sum_27 ?_
    refine lv_iload_n hx hb d_T_sum_30 rfl (lv_at hl 1 rfl) ?_
    obtain ⟨r_3, s_3, hq3, hf⟩ := tb2_of hf
    refine tr_calli (va_runV (C := R_B) (As := [.int p0]) (rest := []) ⟨hx, hb, hml, hown, ht⟩ (mc_B_sumTo l hd hq3) ⟨(tw_cb (n := 1) ht wc_B_sumTo wd_36 wd_545 ⟨rfl, rfl⟩ (by decide +kernel) ⟨(Nat.le_of_ble_eq_true rfl), (Nat.le_of_ble_eq_true rfl)⟩), ht _ wd_512, ht _ wd_513⟩ ⟨tP_blind, va_recv hK hP (ci := 2) (q0 := 2) rfl rfl, fun U hU hW => ⟨rfl, by rw [hU]; exact hP, va_K.moved hW.alike hK, tW_warm hW hN⟩⟩ rfl rfl hl.1 rfl (lv_room (Nat.le_of_ble_eq_true rfl)) d_T_sum_31 ⟨Nat.zero_le _, Nat.zero_le _⟩) hS (fun _ h => h.elim) (fun _ h => h.elim) (fun H locs hP hS => ?_)
    obtain ⟨rfl, rfl⟩ := tp_of hf
    exact W.iret (v := r_3) hx hb hr (fun t ht hW => ⟨rfl, by rw [ht]; exact hP, hS.F ht⟩) hS.2.2 d_T_sum_34
  · replace hf := ti_pos hc hf
    refine lv_aload_n hx hb d_T_sum_15 rfl (lv_at hl 0 rfl) ?_
    refine va_get (ci := 0) (v := .ref (ad 2)) (C := R_T) (T := F_T) (N := 7) hx hb ht iw_T hown hK hP 0 rfl rfl 2 (by decide) (ht _ wd_247) (fun _ h9 => h9) rfl d_T_sum_16 ?_
    refine lv_iload_n hx hb d_T_sum_19 rfl (lv_at hl 1 rfl) ?_
    obtain ⟨r_4, s_4, hq4, hf⟩ := tb2_of hf
    refine tr_calli (va_runV (C := R_B) (As := [.int p0]) (rest := []) ⟨hx, hb, hml, hown, ht⟩ (mc_B_sumFrom l hd hq4) ⟨(tw_cb (n := 1) ht wc_B_sumFrom wd_36 wd_541 ⟨rfl, rfl⟩ (by decide +kernel) ⟨(Nat.le_of_ble_eq_true rfl), (Nat.le_of_ble_eq_true rfl)⟩), ht _ wd_542, ht _ wd_543⟩ ⟨tP_blind, va_recv hK hP (ci := 2) (q0 := 2) rfl rfl, fun U hU hW => ⟨rfl, by rw [hU]; exact hP, va_K.moved hW.alike hK, tW_warm hW hN⟩⟩ rfl rfl hl.1 rfl (lv_room (Nat.le_of_ble_eq_true rfl)) d_T_sum_20 ⟨Nat.zero_le _, Nat.zero_le _⟩) hS (fun _ h => h.elim) (fun _ h => h.elim) (fun H locs hP hS => ?_)
    refine lv_goto (tgt := 34) hx hb d_T_sum_23 (by decide) ?_
    obtain ⟨rfl, rfl⟩ := tp_of hf
    exact W.iret (v := r_4) hx hb hr (fun t ht hW => ⟨rfl, by rw [ht]; exact hP, hS.F ht⟩) hS.2.2 d_T_sum_34
abbrev rm_T_factor : Room := { frames := 1, cells := 0, slots := 0, locals := 21 }
set_option maxHeartbeats 4000000 in
set_option maxRecDepth 100000 in
theorem mc_T_factor (l : Launch) {D : va_G} {ad : Nat → Nat} {ta : Nat → ClassId} (hd : tD 37 ad) {σ σ' : tS} {p0 : Int32} {r : Int32} (hf : mf_T_factor p0 σ = some (r, σ')) : Met l y_T_factor (.code y_T_factor b_T_factor 2 (some .int) :: tw) rm_T_factor (tP D clS (tyC ta) (cwC ad ta σ) [.ref (ad 0), .int p0]) (tQ D clS (cwC ad ta σ') (some (.int r)) tNo) 0 0 tNo := by
  refine Met.ofW (cc := b_T_factor) (maxL := 2) (ret := (some .int)) (by decide) rfl ?_
  intro p e s m args below meth c s₁ B hml hv
  obtain ⟨rfl, hP, hK, hN⟩ := hv
  have hx := B.exec
  have hb := B.bytes
  have hr := B.returns
  have ht : ∀ w ∈ tw, w.before [.ref (ad 0), .int p0].toArray s = true := fun w h => atoms_spec (ws := (.code y_T_factor b_T_factor 2 (some .int) :: tw)) B.pre w (List.mem_cons_of_mem _ h)
  have hown : s.vm.findClass R_T = some m.cls := findClass_of_methodNamed B.named
  have hlocks := B.notSynchronized
  have CX : tC p s m [.ref (ad 0), .int p0].toArray meth c b_T_factor (some .int) 2 R_T D clS (tyC ta) := ⟨hx, hb, hr, hml, hown, ht, hlocks, hK, hN⟩
  have hS : va_S tNo s.heap s.heap [] := va_S.rf
  have hl := lv_entry ([.ref (ad 0), .int p0]) (n := 2) (Nat.le_of_ble_eq_true rfl)
  rw [lg_entry_eq]
  generalize (lg_sl ([.ref (ad 0), .int p0]) ++ List.replicate (2 - (lg_sl ([.ref (ad 0), .int p0])).length) Slot.unset).toArray = ls at hl ⊢
  replace hl : lv_has ls 2 [(0, .ref (ad 0)), (1, .int p0)] := hl
  unfold mf_T_factor at hf
  refine lv_aload_n hx hb d_T_factor_0 rfl (lv_at hl 0 rfl) ?_
  refine lv_iload_n hx hb d_T_factor_1 rfl (lv_at hl 1 rfl) ?_
  obtain ⟨s_1, hq1, hf⟩ := tb1_of hf
  refine tr_callv (va_runV (C := R_T) (As := [.int p0]) (rest := []) ⟨hx, hb, hml, hown, ht⟩ (mc_T_needZone l hd hq1) ⟨(tw_cb (n := 1) ht wc_T_needZone wd_34 wd_469 ⟨rfl, rfl⟩ (by decide +kernel) ⟨(Nat.le_of_ble_eq_true rfl), (Nat.le_of_ble_eq_true rfl)⟩), ht _ wd_471, ht _ wd_7⟩ ⟨tP_blind, va_recv hK hP (ci := 0) (q0 := 0) rfl rfl, fun U hU hW => ⟨rfl, by rw [hU]; exact hP, va_K.moved hW.alike hK, tW_warm hW hN⟩⟩ rfl rfl hl.1 rfl (lv_room (Nat.le_of_ble_eq_true rfl)) d_T_factor_2 ⟨Nat.zero_le _, Nat.zero_le _⟩) hS (fun _ h => h.elim) (fun _ h => h.elim) (fun H locs hP hS => ?_)
  refine lv_aload_n hx hb d_T_factor_5 rfl (lv_at hl 0 rfl) ?_
  refine va_get (ci := 0) (v := .ref (ad 2)) (C := R_T) (T := F_T) (N := 7) hx hb ht iw_T hown hK hP 0 rfl rfl 2 (by decide) (ht _ wd_247) (fun _ h9 => h9) rfl d_T_factor_6 ?_
  refine va_get (ci := 2) (v := .ref (ad 14)) (C := R_B) (T := F_B) (N := 4) hx hb ht iw_B hown hK hP 2 rfl rfl 2 (by decide) (ht _ wd_120) (fun _ h9 => h9) rfl d_T_factor_9 ?_
  refine lv_iload_n hx hb d_T_factor_12 rfl (lv_at hl 1 rfl) ?_
  obtain ⟨hi2, hf⟩ := tg_of hf
  refine va_iald (f := s_1.2.1 5) hx hb hK hP 14 5 rfl rfl hi2 d_T_factor_13 ?_
  obtain ⟨rfl, rfl⟩ := tp_of hf
  exact W.iret (v := (s_1.2.1 5 p0.toNatClampNeg)) hx hb hr (fun t ht hW => ⟨rfl, by rw [ht]; exact hP, hS.F ht⟩) hS.2.2 d_T_factor_14
abbrev rm_M_placeOf : Room := { frames := 0, cells := 0, slots := 0, locals := 0 }
set_option maxHeartbeats 4000000 in
set_option maxRecDepth 100000 in
theorem mc_M_placeOf (l : Launch) {D : va_G} {ad : Nat → Nat} {ta : Nat → ClassId} (hd : tD 37 ad) {σ σ' : tS} {p0 : Int32} {p1 : Int32} {r : Int32} (hf : mf_M_placeOf p0 p1 σ = some (r, σ')) : Met l y_M_placeOf (.code y_M_placeOf b_M_placeOf 2 (some .int) :: tw) rm_M_placeOf (tP D clS (tyC ta) (cwC ad ta σ) [.int p0, .int p1]) (tQ D clS (cwC ad ta σ') (some (.int r)) tNo) 0 0 tNo := by
  refine Met.ofW (cc := b_M_placeOf) (maxL := 2) (ret := (some .int)) (by decide) rfl ?_
  intro p e s m args below meth c s₁ B hml hv
  obtain ⟨rfl, hP, hK, hN⟩ := hv
  have hx := B.exec
  have hb := B.bytes
  have hr := B.returns
  have ht : ∀ w ∈ tw, w.before [.int p0, .int p1].toArray s = true := fun w h => atoms_spec (ws := (.code y_M_placeOf b_M_placeOf 2 (some .int) :: tw)) B.pre w (List.mem_cons_of_mem _ h)
  have hown : s.vm.findClass R_M = some m.cls := findClass_of_methodNamed B.named
  have hlocks := B.notSynchronized
  have CX : tC p s m [.int p0, .int p1].toArray meth c b_M_placeOf (some .int) 2 R_M D clS (tyC ta) := ⟨hx, hb, hr, hml, hown, ht, hlocks, hK, hN⟩
  have hS : va_S tNo s.heap s.heap [] := va_S.rf
  have hl := lv_entry ([.int p0, .int p1]) (n := 2) (Nat.le_of_ble_eq_true rfl)
  rw [lg_entry_eq]
  generalize (lg_sl ([.int p0, .int p1]) ++ List.replicate (2 - (lg_sl ([.int p0, .int p1])).length) Slot.unset).toArray = ls at hl ⊢
  replace hl : lv_has ls 2 [(0, .int p0), (1, .int p1)] := hl
  unfold mf_M_placeOf at hf
  refine lv_iload_n hx hb d_M_placeOf_0 rfl (lv_at hl 0 rfl) ?_
  refine lv_bipush (v := (36 : Int32)) hx hb d_M_placeOf_1 (by decide) ?_
  refine lv_imul hx hb d_M_placeOf_3 ?_
  refine lv_iload_n hx hb d_M_placeOf_4 rfl (lv_at hl 1 rfl) ?_
  refine lv_iadd hx hb d_M_placeOf_5 ?_
  obtain ⟨rfl, rfl⟩ := tp_of hf
  exact W.iret (v := ((p0 * (36 : Int32)) + p1)) hx hb hr (fun t ht hW => ⟨rfl, by rw [ht]; exact hP, hS.F ht⟩) hS.2.2 d_M_placeOf_6
abbrev rm_T_pull : Room := { frames := 1, cells := 0, slots := 0, locals := 22 }
set_option maxHeartbeats 4000000 in
set_option maxRecDepth 100000 in
theorem mc_T_pull (l : Launch) {D : va_G} {ad : Nat → Nat} {ta : Nat → ClassId} (hd : tD 37 ad) {σ σ' : tS} {p0 : Int32} {p1 : Int32} {p2 : Int32} {p3 : Int32} {r : Int32} (hf : mf_T_pull p0 p1 p2 p3 σ = some (r, σ')) : Met l y_T_pull (.code y_T_pull b_T_pull 7 (some .int) :: tw) rm_T_pull (tP D clS (tyC ta) (cwC ad ta σ) [.ref (ad 0), .int p0, .int p1, .int p2, .int p3]) (tQ D clS (cwC ad ta σ') (some (.int r)) (tA 37 ad)) 0 0 (tA 37 ad) := by
  refine Met.ofW (cc := b_T_pull) (maxL := 7) (ret := (some .int)) (by decide) rfl ?_
  intro p e s m args below meth c s₁ B hml hv
  obtain ⟨rfl, hP, hK, hN⟩ := hv
  have hx := B.exec
  have hb := B.bytes
  have hr := B.returns
  have ht : ∀ w ∈ tw, w.before [.ref (ad 0), .int p0, .int p1, .int p2, .int p3].toArray s = true := fun w h => atoms_spec (ws := (.code y_T_pull b_T_pull 7 (some .int) :: tw)) B.pre w (List.mem_cons_of_mem _ h)
  have hown : s.vm.findClass R_T = some m.cls := findClass_of_methodNamed B.named
  have hlocks := B.notSynchronized
  have CX : tC p s m [.ref (ad 0), .int p0, .int p1, .int p2, .int p3].toArray meth c b_T_pull (some .int) 7 R_T D clS (tyC ta) := ⟨hx, hb, hr, hml, hown, ht, hlocks, hK, hN⟩
  have hS : va_S (tA 37 ad) s.heap s.heap [] := va_S.rf
  have hl := lv_entry ([.ref (ad 0), .int p0, .int p1, .int p2, .int p3]) (n := 7) (Nat.le_of_ble_eq_true rfl)
  rw [lg_entry_eq]
  generalize (lg_sl ([.ref (ad 0), .int p0, .int p1, .int p2, .int p3]) ++ List.replicate (7 - (lg_sl ([.ref (ad 0), .int p0, .int p1, .int p2, .int p3])).length) Slot.unset).toArray = ls at hl ⊢
  replace hl : lv_has ls 7 [(0, .ref (ad 0)), (1, .int p0), (2, .int p1), (3, .int p2), (4, .int p3)] := hl
  unfold mf_T_pull at hf
  refine lv_iload_n hx hb d_T_pull_0 rfl (lv_at hl 1 rfl) ?_
  refine lv_iconst (v := (0 : Int32)) hx hb d_T_pull_1 (by decide) ?_
  refine lv_iconst (v := (2 : Int32)) hx hb d_T_pull_2 (by decide) ?_
  obtain ⟨s_1, hq1, hf⟩ := tb1_of hf
  refine tr_callv (va_runS (As := [.int p0, .int (0 : Int32), .int (2 : Int32)]) (rest := []) ⟨hx, hb, hml, hown, ht⟩ (mc_T_needWithin l hd hq1) ⟨(tw_cb (n := 3) ht wc_T_needWithin wd_34 wd_420 ⟨rfl, rfl⟩ (by decide +kernel) ⟨(Nat.le_of_ble_eq_true rfl), (Nat.le_of_ble_eq_true rfl)⟩), ht _ wd_421⟩ ⟨tP_blind, fun U hU hW => ⟨rfl, by rw [hU]; exact hP, va_K.moved hW.alike hK, tW_warm hW hN⟩⟩ rfl rfl hl.1 rfl (lv_room (Nat.le_of_ble_eq_true rfl)) d_T_pull_3 ⟨Nat.zero_le _, Nat.zero_le _⟩) hS (fun _ h => h.elim) (fun _ h => h.elim) (fun H locs hP hS => ?_)
  refine lv_aload_n hx hb d_T_pull_6 rfl (lv_at hl 0 rfl) ?_
  refine lv_iload_n hx hb d_T_pull_7 rfl (lv_at hl 2 rfl) ?_
  obtain ⟨s_2, hq2, hf⟩ := tb1_of hf
  refine tr_callv (va_runV (C := R_T) (As := [.int p1]) (rest := []) ⟨hx, hb, hml, hown, ht⟩ (mc_T_needZone l hd hq2) ⟨(tw_cb (n := 1) ht wc_T_needZone wd_34 wd_469 ⟨rfl, rfl⟩ (by decide +kernel) ⟨(Nat.le_of_ble_eq_true rfl), (Nat.le_of_ble_eq_true rfl)⟩), ht _ wd_471, ht _ wd_7⟩ ⟨tP_blind, va_recv hK hP (ci := 0) (q0 := 0) rfl rfl, fun U hU hW => ⟨rfl, by rw [hU]; exact hP, va_K.moved hW.alike hK, tW_warm hW hN⟩⟩ rfl rfl hl.1 rfl (lv_room (Nat.le_of_ble_eq_true rfl)) d_T_pull_8 ⟨Nat.zero_le _, Nat.zero_le _⟩) hS (fun _ h => h.elim) (fun _ h => h.elim) (fun H locs hP hS => ?_)
  refine lv_aload_n hx hb d_T_pull_11 rfl (lv_at hl 0 rfl) ?_
  refine lv_iload_n hx hb d_T_pull_12 rfl (lv_at hl 3 rfl) ?_
  obtain ⟨s_3, hq3, hf⟩ := tb1_of hf
  refine tr_callv (va_runV (C := R_T) (As := [.int p2]) (rest := []) ⟨hx, hb, hml, hown, ht⟩ (mc_T_needZone l hd hq3) ⟨(tw_cb (n := 1) ht wc_T_needZone wd_34 wd_469 ⟨rfl, rfl⟩ (by decide +kernel) ⟨(Nat.le_of_ble_eq_true rfl), (Nat.le_of_ble_eq_true rfl)⟩), ht _ wd_471, ht _ wd_7⟩ ⟨tP_blind, va_recv hK hP (ci := 0) (q0 := 0) rfl rfl, fun U hU hW => ⟨rfl, by rw [hU]; exact hP, va_K.moved hW.alike hK, tW_warm hW hN⟩⟩ rfl rfl hl.1 rfl (lv_room (Nat.le_of_ble_eq_true rfl)) d_T_pull_13 ⟨Nat.zero_le _, Nat.zero_le _⟩) hS (fun _ h => h.elim) (fun _ h => h.elim) (fun H locs hP hS => ?_)
  refine lv_iload hx hb d_T_pull_16 (lv_at hl 4 rfl) ?_
  refine lv_iconst (v := (0 : Int32)) hx hb d_T_pull_18 (by decide) ?_
  refine lv_sipush (v := (1000 : Int32)) hx hb d_T_pull_19 (by decide) ?_
  obtain ⟨s_4, hq4, hf⟩ := tb1_of hf
  refine tr_callv (va_runS (As := [.int p3, .int (0 : Int32), .int (1000 : Int32)]) (rest := []) ⟨hx, hb, hml, hown, ht⟩ (mc_T_needWithin l hd hq4) ⟨(tw_cb (n := 3) ht wc_T_needWithin wd_34 wd_420 ⟨rfl, rfl⟩ (by decide +kernel) ⟨(Nat.le_of_ble_eq_true rfl), (Nat.le_of_ble_eq_true rfl)⟩), ht _ wd_421⟩ ⟨tP_blind, fun U hU hW => ⟨rfl, by rw [hU]; exact hP, va_K.moved hW.alike hK, tW_warm hW hN⟩⟩ rfl rfl hl.1 rfl (lv_room (Nat.le_of_ble_eq_true rfl)) d_T_pull_22 ⟨Nat.zero_le _, Nat.zero_le _⟩) hS (fun _ h => h.elim) (fun _ h => h.elim) (fun H locs hP hS => ?_)
  refine lv_iload_n hx hb d_T_pull_25 rfl (lv_at hl 1 rfl) ?_
  refine lv_iload_n hx hb d_T_pull_26 rfl (lv_at hl 2 rfl) ?_
  refine lv_iload_n hx hb d_T_pull_27 rfl (lv_at hl 3 rfl) ?_
  obtain ⟨r_5, s_5, hq5, hf⟩ := tb2_of hf
  refine tr_calli (va_runS (As := [.int p1, .int p2]) (rest := [.int p0]) ⟨hx, hb, hml, hown, ht⟩ (mc_T_pairOf l hd hq5) ⟨(tw_cb (n := 2) ht wc_T_pairOf wd_34 wd_313 ⟨rfl, rfl⟩ (by decide +kernel) ⟨(Nat.le_of_ble_eq_true rfl), (Nat.le_of_ble_eq_true rfl)⟩), ht _ wd_314⟩ ⟨tP_blind, fun U hU hW => ⟨rfl, by rw [hU]; exact hP, va_K.moved hW.alike hK, tW_warm hW hN⟩⟩ rfl rfl hl.1 rfl (lv_room (Nat.le_of_ble_eq_true rfl)) d_T_pull_28 ⟨Nat.zero_le _, Nat.zero_le _⟩) hS (fun _ h => h.elim) (fun _ h => h.elim) (fun H locs hP hS => ?_)
  obtain ⟨r_6, s_6, hq6, hf⟩ := tb2_of hf
  refine tr_calli (va_runS (As := [.int p0, .int r_5]) (rest := []) ⟨hx, hb, hml, hown, ht⟩ (mc_M_placeOf l hd hq6) ⟨(tw_cb (n := 2) ht wc_M_placeOf wd_39 wd_560 ⟨rfl, rfl⟩ (by decide +kernel) ⟨(Nat.le_of_ble_eq_true rfl), (Nat.le_of_ble_eq_true rfl)⟩), ht _ wd_140⟩ ⟨tP_blind, fun U hU hW => ⟨rfl, by rw [hU]; exact hP, va_K.moved hW.alike hK, tW_warm hW hN⟩⟩ rfl rfl hl.1 rfl (lv_room (Nat.le_of_ble_eq_true rfl)) d_T_pull_31 ⟨Nat.zero_le _, Nat.zero_le _⟩) hS (fun _ h => h.elim) (fun _ h => h.elim) (fun H locs hP hS => ?_)
  refine lv_istore (lv' := [(5, .int r_6), (0, .ref (ad 0)), (1, .int p0), (2, .int p1), (3, .int p2), (4, .int p3)]) hx hb d_T_pull_34 hl (by decide) rfl (fun ls hl => ?_)
  refine lv_aload_n hx hb d_T_pull_36 rfl (lv_at hl 1 rfl) ?_
  refine va_get (ci := 0) (v := .ref (ad 3)) (C := R_T) (T := F_T) (N := 7) hx hb ht iw_T hown hK hP 0 rfl rfl 3 (by decide) (ht _ wd_248) (fun _ h9 => h9) rfl d_T_pull_37 ?_
  refine va_get (ci := 3) (v := .ref (ad 15)) (C := R_M) (T := F_M) (N := 2) hx hb ht iw_M hown hK hP 3 rfl rfl 0 (by decide) (ht _ wd_143) (fun _ h9 => h9) rfl d_T_pull_40 ?_
  refine lv_iload hx hb d_T_pull_43 (lv_at hl 0 rfl) ?_
  obtain ⟨hi7, hf⟩ := tg_of hf
  refine va_iald (f := s_6.2.1 6) hx hb hK hP 15 6 rfl rfl hi7 d_T_pull_45 ?_
  refine lv_istore (lv' := [(6, .int (s_6.2.1 6 r_6.toNatClampNeg)), (5, .int r_6), (0, .ref (ad 0)), (1, .int p0), (2, .int p1), (3, .int p2), (4, .int p3)]) hx hb d_T_pull_46 hl (by decide) rfl (fun ls hl => ?_)
  refine lv_aload_n hx hb d_T_pull_48 rfl (lv_at hl 2 rfl) ?_
  refine va_get (ci := 0) (v := .ref (ad 3)) (C := R_T) (T := F_T) (N := 7) hx hb ht iw_T hown hK hP 0 rfl rfl 3 (by decide) (ht _ wd_248) (fun _ h9 => h9) rfl d_T_pull_49 ?_
  refine va_get (ci := 3) (v := .ref (ad 15)) (C := R_M) (T := F_M) (N := 2) hx hb ht iw_M hown hK hP 3 rfl rfl 0 (by decide) (ht _ wd_143) (fun _ h9 => h9) rfl d_T_pull_52 ?_
  refine lv_iload hx hb d_T_pull_55 (lv_at hl 1 rfl) ?_
  refine lv_iload hx hb d_T_pull_57 (lv_at hl 6 rfl) ?_
  obtain ⟨hi8, hf⟩ := tg_of hf
  refine va_iast (f := s_6.2.1 6) hx hb hK hP (cwC_D hd) hS 15 6 rfl rfl hi8 d_T_pull_59 (fun H locs hP _ hS => ?_)
  replace hP : va_P D clS (cwC ad ta (tI s_6 6 r_6.toNatClampNeg p3)) H := hP
  refine lv_iload hx hb d_T_pull_60 (lv_at hl 0 rfl) ?_
  obtain ⟨rfl, rfl⟩ := tp_of hf
  exact W.iret (v := (s_6.2.1 6 r_6.toNatClampNeg)) hx hb hr (fun t ht hW => ⟨rfl, by rw [ht]; exact hP, hS.F ht⟩) hS.2.2 d_T_pull_62
abbrev rm_H8_giveOne : Room := { frames := 0, cells := 0, slots := 0, locals := 0 }
set_option maxHeartbeats 4000000 in
set_option maxRecDepth 100000 in
theorem mw_H8_giveOne_4 {p : Program} {l : Launch} {e : Env} {s : State} {m : MethodId} {args : Array Value} {below : List Frame} {meth : Method} {c : Code} {D : va_G} {ad : Nat → Nat} {ta : Nat → ClassId} (CX : tC p s m args meth c b_H_giveOne none 4 R_H D clS (tyC ta)) (hd : tD 37 ad) : ∀ (k : Nat) (v1 : Int32) (v2 : Int32) (v3 : Int32) (σ : tS) (res : tS), ml_H8_giveOne_4 k v1 v2 v3 σ = some res → ∀ (H : Heap) (locs : List Loc), va_P D clS (cwC ad ta σ) H → va_S (tA 37 ad) s.heap H locs → ∀ (ls : Array Slot), lv_has ls 4 [(0, .ref (ad 8)), (1, .int v1), (2, .int v2), (3, .int v3)] → W p l e rm_H8_giveOne s m args below meth c H locs 0 0 (MQ below (tQ D clS (cwC ad ta res) none (tA 37 ad)) args s 0 0 (tA 37 ad)) (F0 m 4 ls []) := by
  obtain ⟨hx, hb, hr, hml, hown, ht, hlocks, hK, hN⟩ := id CX
  intro k
  induction k with
  | zero =>
    intro v1 v2 v3 σ res hf
    exact tn_no hf
  | succ k ih =>
    intro v1 v2 v3 σ res hf H locs hP hS ls hl
    replace hf : ms_H8_giveOne_4 (ml_H8_giveOne_4 k) v1 v2 v3 σ = some res := hf
    unfold ms_H8_giveOne_4 at hf
    refine lv_iload_n hx hb d_H_giveOne_4 rfl (lv_at hl 3 rfl) ?_
    refine lv_iload_n hx hb d_H_giveOne_5 rfl (lv_at hl 1 rfl) ?_
    refine lv_icmp_ge (tgt := 33) hx hb d_H_giveOne_6 (by decide) (fun hc => ?_) (fun hc => ?_)
    · replace hf := ti_pos hc hf
      refine lv_aload_n hx hb d_H_giveOne_33 rfl (lv_at hl 0 rfl) ?_
      refine va_get (ci := 7) (v := .ref (ad 36)) (C := R_H) (T := F_H) (N := 3) hx hb ht iw_H hown hK hP 8 rfl rfl 2 (by decide) (ht _ wd_101) (fun _ h9 => h9) rfl d_H_giveOne_34 ?_
      refine lv_iload_n hx hb d_H_giveOne_37 rfl (lv_at hl 2 rfl) ?_
      refine lv_dup2_11 hx hb d_H_giveOne_38 rfl rfl ?_
      obtain ⟨hi1, hf⟩ := tg_of hf
      refine va_iald (f := σ.2.1 22) hx hb hK hP 36 27 rfl rfl hi1 d_H_giveOne_39 ?_
      refine lv_iconst (v := (1 : Int32)) hx hb d_H_giveOne_40 (by decide) ?_
      refine lv_iadd hx hb d_H_giveOne_41 ?_
      obtain ⟨hi2, hf⟩ := tg_of hf
      refine va_iast (f := σ.2.1 22) hx hb hK hP (cwC_D hd) hS 36 27 rfl rfl hi2 d_H_giveOne_42 (fun H locs hP _ hS => ?_)
      replace hP : va_P D clS (cwC ad ta (tI σ 22 v2.toNatClampNeg ((σ.2.1 22 v2.toNatClampNeg) + (1 : Int32)))) H := hP
      refine lv_aload_n hx hb d_H_giveOne_43 rfl (lv_at hl 0 rfl) ?_
      refine va_get (ci := 7) (v := .ref (ad 35)) (C := R_H) (T := F_H) (N := 3) hx hb ht iw_H hown hK hP 8 rfl rfl 1 (by decide) (ht _ wd_100) (fun _ h9 => h9) rfl d_H_giveOne_44 ?_
      refine lv_iload_n hx hb d_H_giveOne_47 rfl (lv_at hl 2 rfl) ?_
      refine lv_ldc2 (v := ((-1) : Int64)) hx hb hown (ht _ wd_506) d_H_giveOne_48 ?_
      obtain ⟨hi3, hf⟩ := tg_of hf
      refine va_last (f := σ.2.2 4) hx hb hK hP (cwC_D hd) hS 35 26 rfl rfl hi3 d_H_giveOne_51 (fun H locs hP _ hS => ?_)
      replace hP : va_P D clS (cwC ad ta (tJ (tI σ 22 v2.toNatClampNeg ((σ.2.1 22 v2.toNatClampNeg) + (1 : Int32))) 4 v2.toNatClampNeg ((-1) : Int64))) H := hP
      obtain rfl := ts_of hf
      exact W.vret hx hb hr (fun t ht hW => ⟨rfl, by rw [ht]; exact hP, hS.F ht⟩) hS.2.2 d_H_giveOne_52
    · replace hf := ti_neg hc hf
      refine lv_aload_n hx hb d_H_giveOne_9 rfl (lv_at hl 0 rfl) ?_
      refine va_get (ci := 7) (v := .ref (ad 35)) (C := R_H) (T := F_H) (N := 3) hx hb ht iw_H hown hK hP 8 rfl rfl 1 (by decide) (ht _ wd_100) (fun _ h9 => h9) rfl d_H_giveOne_10 ?_
      refine lv_iload_n hx hb d_H_giveOne_13 rfl (lv_at hl 3 rfl) ?_
      obtain ⟨hi4, hf⟩ := tg_of hf
      refine va_lald (f := σ.2.2 4) hx hb hK hP 35 26 rfl rfl hi4 d_H_giveOne_14 ?_
      refine lv_aload_n hx hb d_H_giveOne_15 rfl (lv_at hl 0 rfl) ?_
      refine va_get (ci := 7) (v := .ref (ad 35)) (C := R_H) (T := F_H) (N := 3) hx hb ht iw_H hown hK hP 8 rfl rfl 1 (by decide) (ht _ wd_100) (fun _ h9 => h9) rfl d_H_giveOne_16 ?_
      refine lv_iload_n hx hb d_H_giveOne_19 rfl (lv_at hl 2 rfl) ?_
      obtain ⟨hi5, hf⟩ := tg_of hf
      refine va_lald (f := σ.2.2 4) hx hb hK hP 35 26 rfl rfl hi5 d_H_giveOne_20 ?_
      refine W.lcmp hx hb d_H_giveOne_21 ?_
      refine lv_if_le (tgt := 27) hx hb d_H_giveOne_22 (by decide) (fun hc => ?_) (fun hc => ?_)
      · replace hf := ti_pos hc hf
        refine lv_iinc (v := (v3 + (1 : Int32))) (lv' := [(3, .int (v3 + (1 : Int32))), (0, .ref (ad 8)), (1, .int v1), (2, .int v2)]) hx hb d_H_giveOne_27 hl (k := 3) rfl rfl (by decide) rfl (fun ls hl => ?_)
        refine lv_goto (tgt := 4) hx hb d_H_giveOne_30 (by decide) ?_
        exact ih _ _ _ _ _ hf _ _ hP hS _ (lv_sub hl [1, 2, 3, 0] rfl)
      · replace hf := ti_neg hc hf
        refine lv_iload_n hx hb d_H_giveOne_25 rfl (lv_at hl 3 rfl) ?_
        refine lv_istore_n (lv' := [(2, .int v3), (0, .ref (ad 8)), (1, .int v1), (3, .int v3)]) hx hb d_H_giveOne_26 rfl hl (by decide) rfl (fun ls hl => ?_)
        refine lv_iinc (v := (v3 + (1 : Int32))) (lv' := [(3, .int (v3 + (1 : Int32))), (2, .int v3), (0, .ref (ad 8)), (1, .int v1)]) hx hb d_H_giveOne_27 hl (k := 3) rfl rfl (by decide) rfl (fun ls hl => ?_)
        refine lv_goto (tgt := 4) hx hb d_H_giveOne_30 (by decide) ?_
        exact ih _ _ _ _ _ hf _ _ hP hS _ (lv_sub hl [2, 3, 1, 0] rfl)
set_option maxHeartbeats 4000000 in
set_option maxRecDepth 100000 in
theorem mc_H8_giveOne (l : Launch) {D : va_G} {ad : Nat → Nat} {ta : Nat → ClassId} (hd : tD 37 ad) {σ σ' : tS} {p0 : Int32} (hf : mf_H8_giveOne p0 σ = some σ') : Met l y_H_giveOne (.code y_H_giveOne b_H_giveOne 4 none :: tw) rm_H8_giveOne (tP D clS (tyC ta) (cwC ad ta σ) [.ref (ad 8), .int p0]) (tQ D clS (cwC ad ta σ') none (tA 37 ad)) 0 0 (tA 37 ad) := by
  refine Met.ofW (cc := b_H_giveOne) (maxL := 4) (ret := none) (by decide) rfl ?_
  intro p e s m args below meth c s₁ B hml hv
  obtain ⟨rfl, hP, hK, hN⟩ := hv
  have hx := B.exec
  have hb := B.bytes
  have hr := B.returns
  have ht : ∀ w ∈ tw, w.before [.ref (ad 8), .int p0].toArray s = true := fun w h => atoms_spec (ws := (.code y_H_giveOne b_H_giveOne 4 none :: tw)) B.pre w (List.mem_cons_of_mem _ h)
  have hown : s.vm.findClass R_H = some m.cls := findClass_of_methodNamed B.named
  have hlocks := B.notSynchronized
  have CX : tC p s m [.ref (ad 8), .int p0].toArray meth c b_H_giveOne none 4 R_H D clS (tyC ta) := ⟨hx, hb, hr, hml, hown, ht, hlocks, hK, hN⟩
  have hS : va_S (tA 37 ad) s.heap s.heap [] := va_S.rf
  have hl := lv_entry ([.ref (ad 8), .int p0]) (n := 4) (Nat.le_of_ble_eq_true rfl)
  rw [lg_entry_eq]
  generalize (lg_sl ([.ref (ad 8), .int p0]) ++ List.replicate (4 - (lg_sl ([.ref (ad 8), .int p0])).length) Slot.unset).toArray = ls at hl ⊢
  replace hl : lv_has ls 4 [(0, .ref (ad 8)), (1, .int p0)] := hl
  unfold mf_H8_giveOne at hf
  refine lv_iconst (v := (0 : Int32)) hx hb d_H_giveOne_0 (by decide) ?_
  refine lv_istore_n (lv' := [(2, .int (0 : Int32)), (0, .ref (ad 8)), (1, .int p0)]) hx hb d_H_giveOne_1 rfl hl (by decide) rfl (fun ls hl => ?_)
  refine lv_iconst (v := (1 : Int32)) hx hb d_H_giveOne_2 (by decide) ?_
  refine lv_istore_n (lv' := [(3, .int (1 : Int32)), (2, .int (0 : Int32)), (0, .ref (ad 8)), (1, .int p0)]) hx hb d_H_giveOne_3 rfl hl (by decide) rfl (fun ls hl => ?_)
  exact mw_H8_giveOne_4 CX hd _ _ _ _ _ _ hf _ _ hP hS _ (lv_sub hl [2, 3, 1, 0] rfl)
abbrev rm_H8_shareOut : Room := { frames := 1, cells := 0, slots := 0, locals := 24 }
set_option maxHeartbeats 4000000 in
set_option maxRecDepth 100000 in
theorem mw_H8_shareOut_110 {p : Program} {l : Launch} {e : Env} {s : State} {m : MethodId} {args : Array Value} {below : List Frame} {meth : Method} {c : Code} {D : va_G} {ad : Nat → Nat} {ta : Nat → ClassId} (CX : tC p s m args meth c b_H_shareOut none 9 R_H D clS (tyC ta)) (hd : tD 37 ad) : ∀ (k : Nat) (v1 : Int32) (v2 : Int32) (v3 : Int64) (v5 : Int32) (v6 : Int32) (σ : tS) (res : tS), ml_H8_shareOut_110 k v1 v2 v3 v5 v6 σ = some res → ∀ (H : Heap) (locs : List Loc), va_P D clS (cwC ad ta σ) H → va_S (tA 37 ad) s.heap H locs → ∀ (ls : Array Slot), lv_has ls 9 [(0, .ref (ad 8)), (1, .int v1), (2, .int v2), (3, .long v3), (5, .int v5), (6, .int v6)] → W p l e rm_H8_shareOut s m args below meth c H locs 0 0 (MQ below (tQ D clS (cwC ad ta res) none (tA 37 ad)) args s 0 0 (tA 37 ad)) (F0 m 110 ls []) := by
  obtain ⟨hx, hb, hr, hml, hown, ht, hlocks, hK, hN⟩ := id CX
  intro k
  induction k with
  | zero =>
    intro v1 v2 v3 v5 v6 σ res hf
    exact tn_no hf
  | succ k ih =>
    intro v1 v2 v3 v5 v6 σ res hf H locs hP hS ls hl
    replace hf : ms_H8_shareOut_110 (ml_H8_shareOut_110 k) v1 v2 v3 v5 v6 σ = some res := hf
    unfold ms_H8_shareOut_110 at hf
    refine lv_iload hx hb d_H_shareOut_110 (lv_at hl 5 rfl) ?_
    refine lv_iload hx hb d_H_shareOut_112 (lv_at hl 4 rfl) ?_
    refine lv_icmp_ge (tgt := 128) hx hb d_H_shareOut_114 (by decide) (fun hc => ?_) (fun hc => ?_)
    · replace hf := ti_pos hc hf
      obtain rfl := ts_of hf
      exact W.vret hx hb hr (fun t ht hW => ⟨rfl, by rw [ht]; exact hP, hS.F ht⟩) hS.2.2 d_H_shareOut_128
    · replace hf := ti_neg hc hf
      refine lv_aload_n hx hb d_H_shareOut_117 rfl (lv_at hl 0 rfl) ?_
      refine lv_iload_n hx hb d_H_shareOut_118 rfl (lv_at hl 2 rfl) ?_
      obtain ⟨s_1, hq1, hf⟩ := tb1_of hf
      refine tr_callv (va_runV (C := R_H) (As := [.int v2]) (rest := []) ⟨hx, hb, hml, hown, ht⟩ (mc_H8_giveOne l hd hq1) ⟨(tw_cb (n := 1) ht wc_H_giveOne wd_37 wd_502 ⟨rfl, rfl⟩ (by decide +kernel) ⟨(Nat.le_of_ble_eq_true rfl), (Nat.le_of_ble_eq_true rfl)⟩), ht _ wd_504, ht _ wd_9⟩ ⟨tP_blind, va_recv hK hP (ci := 7) (q0 := 8) rfl rfl, fun U hU hW => ⟨rfl, by rw [hU]; exact hP, va_K.moved hW.alike hK, tW_warm hW hN⟩⟩ rfl rfl hl.1 rfl (lv_room (Nat.le_of_ble_eq_true rfl)) d_H_shareOut_119 ⟨Nat.zero_le _, Nat.zero_le _⟩) hS (fun _ h => h) (fun _ h => h) (fun H locs hP hS => ?_)
      refine lv_iinc (v := (v6 + (1 : Int32))) (lv' := [(6, .int (v6 + (1 : Int32))), (0, .ref (ad 8)), (1, .int v1), (2, .int v2), (3, .long v3), (5, .int v5)]) hx hb d_H_shareOut_122 hl (k := 5) rfl rfl (by decide) rfl (fun ls hl => ?_)
      refine lv_goto (tgt := 110) hx hb d_H_shareOut_125 (by decide) ?_
      exact ih _ _ _ _ _ _ _ hf _ _ hP hS _ (lv_sub hl [1, 2, 3, 4, 5, 0] rfl)
set_option maxHeartbeats 4000000 in
set_option maxRecDepth 100000 in
theorem mw_H8_shareOut_48 {p : Program} {l : Launch} {e : Env} {s : State} {m : MethodId} {args : Array Value} {below : List Frame} {meth : Method} {c : Code} {D : va_G} {ad : Nat → Nat} {ta : Nat → ClassId} (CX : tC p s m args meth c b_H_shareOut none 9 R_H D clS (tyC ta)) (hd : tD 37 ad) : ∀ (k : Nat) (v1 : Int32) (v2 : Int32) (v3 : Int64) (v5 : Int32) (v6 : Int32) (σ : tS) (res : tS), ml_H8_shareOut_48 k v1 v2 v3 v5 v6 σ = some res → ∀ (H : Heap) (locs : List Loc), va_P D clS (cwC ad ta σ) H → va_S (tA 37 ad) s.heap H locs → ∀ (ls : Array Slot), lv_has ls 9 [(0, .ref (ad 8)), (1, .int v1), (2, .int v2), (3, .long v3), (5, .int v5), (6, .int v6)] → W p l e rm_H8_shareOut s m args below meth c H locs 0 0 (MQ below (tQ D clS (cwC ad ta res) none (tA 37 ad)) args s 0 0 (tA 37 ad)) (F0 m 48 ls []) := by
  obtain ⟨hx, hb, hr, hml, hown, ht, hlocks, hK, hN⟩ := id CX
  intro k
  induction k with
  | zero =>
    intro v1 v2 v3 v5 v6 σ res hf
    exact tn_no hf
  | succ k ih =>
    intro v1 v2 v3 v5 v6 σ res hf H locs hP hS ls hl
    replace hf : ms_H8_shareOut_48 (ml_H8_shareOut_48 k) v1 v2 v3 v5 v6 σ = some res := hf
    unfold ms_H8_shareOut_48 at hf
    refine lv_iload hx hb d_H_shareOut_48 (lv_at hl 5 rfl) ?_
    refine lv_iload_n hx hb d_H_shareOut_50 rfl (lv_at hl 2 rfl) ?_
    refine lv_icmp_ge (tgt := 107) hx hb d_H_shareOut_51 (by decide) (fun hc => ?_) (fun hc => ?_)
    · replace hf := ti_pos hc hf
      refine lv_iconst (v := (0 : Int32)) hx hb d_H_shareOut_107 (by decide) ?_
      refine lv_istore (lv' := [(6, .int (0 : Int32)), (0, .ref (ad 8)), (1, .int v1), (2, .int v2), (3, .long v3), (5, .int v5)]) hx hb d_H_shareOut_108 hl (by decide) rfl (fun ls hl => ?_)
      exact mw_H8_shareOut_110 CX hd _ _ _ _ _ _ _ _ hf _ _ hP hS _ (lv_sub hl [1, 2, 3, 4, 5, 0] rfl)
    · replace hf := ti_neg hc hf
      refine lv_iload_n hx hb d_H_shareOut_54 rfl (lv_at hl 1 rfl) ?_
      refine lv_i2l hx hb d_H_shareOut_55 rfl ?_
      refine lv_aload_n hx hb d_H_shareOut_56 rfl (lv_at hl 0 rfl) ?_
      refine va_get (ci := 7) (v := .ref (ad 34)) (C := R_H) (T := F_H) (N := 3) hx hb ht iw_H hown hK hP 8 rfl rfl 0 (by decide) (ht _ wd_97) (fun _ h9 => h9) rfl d_H_shareOut_57 ?_
      refine lv_iload hx hb d_H_shareOut_60 (lv_at hl 5 rfl) ?_
      obtain ⟨hi2, hf⟩ := tg_of hf
      refine va_lald (f := σ.2.2 3) hx hb hK hP 34 25 rfl rfl hi2 d_H_shareOut_62 ?_
      refine lv_lmul hx hb d_H_shareOut_63 ?_
      refine lv_lstore (lv' := [(7, .long ((v1).toInt64 * (σ.2.2 3 v6.toNatClampNeg))), (0, .ref (ad 8)), (1, .int v1), (2, .int v2), (3, .long v3), (5, .int v5), (6, .int v6)]) hx hb d_H_shareOut_64 hl (by decide) rfl (fun ls hl => ?_)
      refine lv_aload_n hx hb d_H_shareOut_66 rfl (lv_at hl 1 rfl) ?_
      refine va_get (ci := 7) (v := .ref (ad 36)) (C := R_H) (T := F_H) (N := 3) hx hb ht iw_H hown hK hP 8 rfl rfl 2 (by decide) (ht _ wd_101) (fun _ h9 => h9) rfl d_H_shareOut_67 ?_
      refine lv_iload hx hb d_H_shareOut_70 (lv_at hl 6 rfl) ?_
      refine lv_lload hx hb d_H_shareOut_72 (lv_at hl 0 rfl) ?_
      refine lv_lload_n hx hb d_H_shareOut_74 rfl (lv_at hl 4 rfl) ?_
      obtain ⟨hz3, hf⟩ := tz_of hf
      refine lv_ldiv hx hb d_H_shareOut_75 hz3 ?_
      refine lv_l2i hx hb d_H_shareOut_76 rfl ?_
      obtain ⟨hi4, hf⟩ := tg_of hf
      refine va_iast (f := σ.2.1 22) hx hb hK hP (cwC_D hd) hS 36 27 rfl rfl hi4 d_H_shareOut_77 (fun H locs hP _ hS => ?_)
      replace hP : va_P D clS (cwC ad ta (tI σ 22 v6.toNatClampNeg (((((v1).toInt64 * (σ.2.2 3 v6.toNatClampNeg)) / v3)).toInt32))) H := hP
      refine lv_aload_n hx hb d_H_shareOut_78 rfl (lv_at hl 1 rfl) ?_
      refine va_get (ci := 7) (v := .ref (ad 35)) (C := R_H) (T := F_H) (N := 3) hx hb ht iw_H hown hK hP 8 rfl rfl 1 (by decide) (ht _ wd_100) (fun _ h9 => h9) rfl d_H_shareOut_79 ?_
      refine lv_iload hx hb d_H_shareOut_82 (lv_at hl 6 rfl) ?_
      refine lv_lload hx hb d_H_shareOut_84 (lv_at hl 0 rfl) ?_
      refine lv_lload_n hx hb d_H_shareOut_86 rfl (lv_at hl 4 rfl) ?_
      obtain ⟨hz5, hf⟩ := tz_of hf
      refine lv_lrem hx hb d_H_shareOut_87 hz5 ?_
      obtain ⟨hi6, hf⟩ := tg_of hf
      refine va_last (f := σ.2.2 4) hx hb hK hP (cwC_D hd) hS 35 26 rfl rfl hi6 d_H_shareOut_88 (fun H locs hP _ hS => ?_)
      replace hP : va_P D clS (cwC ad ta (tJ (tI σ 22 v6.toNatClampNeg (((((v1).toInt64 * (σ.2.2 3 v6.toNatClampNeg)) / v3)).toInt32)) 4 v6.toNatClampNeg (((v1).toInt64 * (σ.2.2 3 v6.toNatClampNeg)) - ((v1).toInt64 * (σ.2.2 3 v6.toNatClampNeg)) / v3 * v3))) H := hP
      refine lv_iload hx hb d_H_shareOut_89 (lv_at hl 5 rfl) ?_
      refine lv_aload_n hx hb d_H_shareOut_91 rfl (lv_at hl 1 rfl) ?_
      refine va_get (ci := 7) (v := .ref (ad 36)) (C := R_H) (T := F_H) (N := 3) hx hb ht iw_H hown hK hP 8 rfl rfl 2 (by decide) (ht _ wd_101) (fun _ h9 => h9) rfl d_H_shareOut_92 ?_
      refine lv_iload hx hb d_H_shareOut_95 (lv_at hl 6 rfl) ?_
      obtain ⟨hi7, hf⟩ := tg_of hf
      refine va_iald (f := (tI σ 22 v6.toNatClampNeg (((((v1).toInt64 * (σ.2.2 3 v6.toNatClampNeg)) / v3)).toInt32)).2.1 22) hx hb hK hP 36 27 rfl rfl hi7 d_H_shareOut_97 ?_
      refine lv_isub hx hb d_H_shareOut_98 ?_
      refine lv_istore (lv' := [(5, .int (v5 - ((tI σ 22 v6.toNatClampNeg (((((v1).toInt64 * (σ.2.2 3 v6.toNatClampNeg)) / v3)).toInt32)).2.1 22 v6.toNatClampNeg))), (7, .long ((v1).toInt64 * (σ.2.2 3 v6.toNatClampNeg))), (0, .ref (ad 8)), (1, .int v1), (2, .int v2), (3, .long v3), (6, .int v6)]) hx hb d_H_shareOut_99 hl (by decide) rfl (fun ls hl => ?_)
      refine lv_iinc (v := (v6 + (1 : Int32))) (lv' := [(6, .int (v6 + (1 : Int32))), (5, .int (v5 - ((tI σ 22 v6.toNatClampNeg (((((v1).toInt64 * (σ.2.2 3 v6.toNatClampNeg)) / v3)).toInt32)).2.1 22 v6.toNatClampNeg))), (7, .long ((v1).toInt64 * (σ.2.2 3 v6.toNatClampNeg))), (0, .ref (ad 8)), (1, .int v1), (2, .int v2), (3, .long v3)]) hx hb d_H_shareOut_101 hl (k := 6) rfl rfl (by decide) rfl (fun ls hl => ?_)
      refine lv_goto (tgt := 48) hx hb d_H_shareOut_104 (by decide) ?_
      exact ih _ _ _ _ _ _ _ hf _ _ hP hS _ (lv_sub hl [3, 4, 5, 6, 1, 0] rfl)
set_option maxHeartbeats 4000000 in
set_option maxRecDepth 100000 in
theorem mw_H8_shareOut_5 {p : Program} {l : Launch} {e : Env} {s : State} {m : MethodId} {args : Array Value} {below : List Frame} {meth : Method} {c : Code} {D : va_G} {ad : Nat → Nat} {ta : Nat → ClassId} (CX : tC p s m args meth c b_H_shareOut none 9 R_H D clS (tyC ta)) (hd : tD 37 ad) : ∀ (k : Nat) (v1 : Int32) (v2 : Int32) (v3 : Int64) (v5 : Int32) (σ : tS) (res : tS), ml_H8_shareOut_5 k v1 v2 v3 v5 σ = some res → ∀ (H : Heap) (locs : List Loc), va_P D clS (cwC ad ta σ) H → va_S (tA 37 ad) s.heap H locs → ∀ (ls : Array Slot), lv_has ls 9 [(0, .ref (ad 8)), (1, .int v1), (2, .int v2), (3, .long v3), (5, .int v5)] → W p l e rm_H8_shareOut s m args below meth c H locs 0 0 (MQ below (tQ D clS (cwC ad ta res) none (tA 37 ad)) args s 0 0 (tA 37 ad)) (F0 m 5 ls []) := by
  obtain ⟨hx, hb, hr, hml, hown, ht, hlocks, hK, hN⟩ := id CX
  intro k
  induction k with
  | zero =>
    intro v1 v2 v3 v5 σ res hf
    exact tn_no hf
  | succ k ih =>
    intro v1 v2 v3 v5 σ res hf H locs hP hS ls hl
    replace hf : ms_H8_shareOut_5 (ml_H8_shareOut_5 k) v1 v2 v3 v5 σ = some res := hf
    unfold ms_H8_shareOut_5 at hf
    refine lv_iload hx hb d_H_shareOut_5 (lv_at hl 4 rfl) ?_
    refine lv_iload_n hx hb d_H_shareOut_7 rfl (lv_at hl 2 rfl) ?_
    refine lv_icmp_ge (tgt := 27) hx hb d_H_shareOut_8 (by decide) (fun hc => ?_) (fun hc => ?_)
    · replace hf := ti_pos hc hf
      refine lv_lload_n hx hb d_H_shareOut_27 rfl (lv_at hl 3 rfl) ?_
      refine lv_lconst (v := (0 : Int64)) hx hb d_H_shareOut_28 (by decide) ?_
      refine W.lcmp hx hb d_H_shareOut_29 ?_
      refine lv_if_ne (tgt := 42) hx hb d_H_shareOut_30 (by decide) (fun hc => ?_) (fun hc => ?_)
      · replace hf := ti_neg hc hf
        refine lv_iload_n hx hb d_H_shareOut_42 rfl (lv_at hl 1 rfl) ?_
        refine lv_istore (lv' := [(5, .int v1), (0, .ref (ad 8)), (1, .int v1), (2, .int v2), (3, .long v3)]) hx hb d_H_shareOut_43 hl (by decide) rfl (fun ls hl => ?_)
        refine lv_iconst (v := (0 : Int32)) hx hb d_H_shareOut_45 (by decide) ?_
        refine lv_istore (lv' := [(6, .int (0 : Int32)), (5, .int v1), (0, .ref (ad 8)), (1, .int v1), (2, .int v2), (3, .long v3)]) hx hb d_H_shareOut_46 hl (by decide) rfl (fun ls hl => ?_)
        exact mw_H8_shareOut_48 CX hd _ _ _ _ _ _ _ _ hf _ _ hP hS _ (lv_sub hl [2, 3, 4, 5, 1, 0] rfl)
      · replace hf := ti_pos hc hf
        refine lv_aload_n hx hb d_H_shareOut_33 rfl (lv_at hl 0 rfl) ?_
        refine va_get (ci := 7) (v := .ref (ad 36)) (C := R_H) (T := F_H) (N := 3) hx hb ht iw_H hown hK hP 8 rfl rfl 2 (by decide) (ht _ wd_101) (fun _ h9 => h9) rfl d_H_shareOut_34 ?_
        refine lv_iconst (v := (0 : Int32)) hx hb d_H_shareOut_37 (by decide) ?_
        refine tr_fillI (f := σ.2.1 22) ⟨hx, hb, hml, hown, ht⟩ ⟨(tw_cb (n := 2) ht wf_I wd_38 wd_501 ⟨rfl, rfl⟩ (by decide +kernel) ⟨(Nat.le_of_ble_eq_true rfl), (Nat.le_of_ble_eq_true rfl)⟩), ht _ wd_113⟩ hK hN hP (cwC_D hd) hS 36 27 rfl rfl (by decide) hl.1 (lv_room (Nat.le_of_ble_eq_true rfl)) d_H_shareOut_38 (fun H locs hP hS => ?_) ⟨Nat.zero_le _, Nat.zero_le _⟩
        replace hP : va_P D clS (cwC ad ta (tIf σ 22 (0 : Int32))) H := hP
        obtain rfl := ts_of hf
        exact W.vret hx hb hr (fun t ht hW => ⟨rfl, by rw [ht]; exact hP, hS.F ht⟩) hS.2.2 d_H_shareOut_41
    · replace hf := ti_neg hc hf
      refine lv_lload_n hx hb d_H_shareOut_11 rfl (lv_at hl 3 rfl) ?_
      refine lv_aload_n hx hb d_H_shareOut_12 rfl (lv_at hl 0 rfl) ?_
      refine va_get (ci := 7) (v := .ref (ad 34)) (C := R_H) (T := F_H) (N := 3) hx hb ht iw_H hown hK hP 8 rfl rfl 0 (by decide) (ht _ wd_97) (fun _ h9 => h9) rfl d_H_shareOut_13 ?_
      refine lv_iload hx hb d_H_shareOut_16 (lv_at hl 4 rfl) ?_
      obtain ⟨hi8, hf⟩ := tg_of hf
      refine va_lald (f := σ.2.2 3) hx hb hK hP 34 25 rfl rfl hi8 d_H_shareOut_18 ?_
      refine lv_ladd hx hb d_H_shareOut_19 ?_
      refine lv_lstore_n (lv' := [(3, .long (v3 + (σ.2.2 3 v5.toNatClampNeg))), (0, .ref (ad 8)), (1, .int v1), (2, .int v2), (5, .int v5)]) hx hb d_H_shareOut_20 rfl hl (by decide) rfl (fun ls hl => ?_)
      refine lv_iinc (v := (v5 + (1 : Int32))) (lv' := [(5, .int (v5 + (1 : Int32))), (3, .long (v3 + (σ.2.2 3 v5.toNatClampNeg))), (0, .ref (ad 8)), (1, .int v1), (2, .int v2)]) hx hb d_H_shareOut_21 hl (k := 4) rfl rfl (by decide) rfl (fun ls hl => ?_)
      refine lv_goto (tgt := 5) hx hb d_H_shareOut_24 (by decide) ?_
      exact ih _ _ _ _ _ _ hf _ _ hP hS _ (lv_sub hl [2, 3, 4, 1, 0] rfl)
set_option maxHeartbeats 4000000 in
set_option maxRecDepth 100000 in
theorem mc_H8_shareOut (l : Launch) {D : va_G} {ad : Nat → Nat} {ta : Nat → ClassId} (hd : tD 37 ad) {σ σ' : tS} {p0 : Int32} {p1 : Int32} (hf : mf_H8_shareOut p0 p1 σ = some σ') : Met l y_H_shareOut (.code y_H_shareOut b_H_shareOut 9 none :: tw) rm_H8_shareOut (tP D clS (tyC ta) (cwC ad ta σ) [.ref (ad 8), .int p0, .int p1]) (tQ D clS (cwC ad ta σ') none (tA 37 ad)) 0 0 (tA 37 ad) := by
  refine Met.ofW (cc := b_H_shareOut) (maxL := 9) (ret := none) (by decide) rfl ?_
  intro p e s m args below meth c s₁ B hml hv
  obtain ⟨rfl, hP, hK, hN⟩ := hv
  have hx := B.exec
  have hb := B.bytes
  have hr := B.returns
  have ht : ∀ w ∈ tw, w.before [.ref (ad 8), .int p0, .int p1].toArray s = true := fun w h => atoms_spec (ws := (.code y_H_shareOut b_H_shareOut 9 none :: tw)) B.pre w (List.mem_cons_of_mem _ h)
  have hown : s.vm.findClass R_H = some m.cls := findClass_of_methodNamed B.named
  have hlocks := B.notSynchronized
  have CX : tC p s m [.ref (ad 8), .int p0, .int p1].toArray meth c b_H_shareOut none 9 R_H D clS (tyC ta) := ⟨hx, hb, hr, hml, hown, ht, hlocks, hK, hN⟩
  have hS : va_S (tA 37 ad) s.heap s.heap [] := va_S.rf
  have hl := lv_entry ([.ref (ad 8), .int p0, .int p1]) (n := 9) (Nat.le_of_ble_eq_true rfl)
  rw [lg_entry_eq]
  generalize (lg_sl ([.ref (ad 8), .int p0, .int p1]) ++ List.replicate (9 - (lg_sl ([.ref (ad 8), .int p0, .int p1])).length) Slot.unset).toArray = ls at hl ⊢
  replace hl : lv_has ls 9 [(0, .ref (ad 8)), (1, .int p0), (2, .int p1)] := hl
  unfold mf_H8_shareOut at hf
  refine lv_lconst (v := (0 : Int64)) hx hb d_H_shareOut_0 (by decide) ?_
  refine lv_lstore_n (lv' := [(3, .long (0 : Int64)), (0, .ref (ad 8)), (1, .int p0), (2, .int p1)]) hx hb d_H_shareOut_1 rfl hl (by decide) rfl (fun ls hl => ?_)
  refine lv_iconst (v := (0 : Int32)) hx hb d_H_shareOut_2 (by decide) ?_
  refine lv_istore (lv' := [(5, .int (0 : Int32)), (3, .long (0 : Int64)), (0, .ref (ad 8)), (1, .int p0), (2, .int p1)]) hx hb d_H_shareOut_3 hl (by decide) rfl (fun ls hl => ?_)
  exact mw_H8_shareOut_5 CX hd _ _ _ _ _ _ _ hf _ _ hP hS _ (lv_sub hl [2, 3, 4, 1, 0] rfl)
