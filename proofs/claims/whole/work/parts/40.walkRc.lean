abbrev rm_R_oneRound : Room := { frames := 1, cells := 0, slots := 0, locals := 29 }
set_option maxHeartbeats 4000000 in
set_option maxRecDepth 100000 in
theorem mw_R_oneRound_12 {p : Program} {l : Launch} {e : Env} {s : State} {m : MethodId} {args : Array Value} {below : List Frame} {meth : Method} {c : Code} {D : va_G} {ad : Nat → Nat} {ta : Nat → ClassId} {Q : State → Prop} (CX : tC p s m args meth c b_R_oneRound none 3 R_R D clS (tyR ta)) (hd : tD 26 ad) : ∀ (k : Nat) (v1 : Int32) (v2 : Int32) (σ : tS) (res : (Int32 × Int32 × tS)), ml_R_oneRound_12 k v1 v2 σ = some res → ∀ (H : Heap) (locs : List Loc), va_P D clS (cwR ad ta σ) H → va_S (tA 26 ad) s.heap H locs → ∀ (ls : Array Slot), lv_has ls 3 [(0, .ref (ad 0)), (1, .int v1), (2, .int v2)] → (∀ (H : Heap) (locs : List Loc), va_P D clS (cwR ad ta res.2.2) H → va_S (tA 26 ad) s.heap H locs → ∀ (ls : Array Slot), lv_has ls 3 [(0, .ref (ad 0)), (1, .int res.1), (2, .int res.2.1)] → W p l e rm_R_oneRound s m args below meth c H locs 0 0 Q (F0 m 52 ls [])) → W p l e rm_R_oneRound s m args below meth c H locs 0 0 Q (F0 m 12 ls []) := by
  obtain ⟨hx, hb, hr, hml, hown, ht, hlocks, hK, hN⟩ := id CX
  intro k
  induction k with
  | zero =>
    intro v1 v2 σ res hf
    exact tn_no hf
  | succ k ih =>
    intro v1 v2 σ res hf H locs hP hS ls hl kk
    replace hf : ms_R_oneRound_12 (ml_R_oneRound_12 k) v1 v2 σ = some res := hf
    unfold ms_R_oneRound_12 at hf
    refine lv_iload_n hx hb d_R_oneRound_12 rfl (lv_at hl 2 rfl) ?_
    refine lv_aload_n hx hb d_R_oneRound_13 rfl (lv_at hl 0 rfl) ?_
    refine va_get (ci := 8) (v := .int (σ.1 2)) (C := R_R) (T := F_R) (N := 32) hx hb ht iw_R hown hK hP 0 rfl rfl 2 (by decide) (ht _ wd_679) (fun _ h9 => h9) rfl d_R_oneRound_14 ?_
    refine lv_icmp_ge (tgt := 52) hx hb d_R_oneRound_17 (by decide) (fun hc => ?_) (fun hc => ?_)
    · replace hf := ti_pos hc hf
      obtain rfl := ts_of hf
      exact kk _ _ hP hS _ (lv_sub hl [0, 1, 2] rfl)
    · replace hf := ti_neg hc hf
      refine lv_aload_n hx hb d_R_oneRound_20 rfl (lv_at hl 0 rfl) ?_
      refine va_get (ci := 8) (v := .ref (ad 19)) (C := R_R) (T := F_R) (N := 32) hx hb ht iw_R hown hK hP 0 rfl rfl 24 (by decide) (ht _ wd_701) (fun _ h9 => h9) rfl d_R_oneRound_21 ?_
      refine lv_iload_n hx hb d_R_oneRound_24 rfl (lv_at hl 2 rfl) ?_
      refine lv_aload_n hx hb d_R_oneRound_25 rfl (lv_at hl 0 rfl) ?_
      refine va_get (ci := 8) (v := .ref (ad 13)) (C := R_R) (T := F_R) (N := 32) hx hb ht iw_R hown hK hP 0 rfl rfl 16 (by decide) (ht _ wd_693) (fun _ h9 => h9) rfl d_R_oneRound_26 ?_
      refine lv_bipush (v := (6 : Int32)) hx hb d_R_oneRound_29 (by decide) ?_
      refine lv_iload_n hx hb d_R_oneRound_31 rfl (lv_at hl 1 rfl) ?_
      refine lv_imul hx hb d_R_oneRound_32 ?_
      refine lv_iload_n hx hb d_R_oneRound_33 rfl (lv_at hl 2 rfl) ?_
      refine lv_iadd hx hb d_R_oneRound_34 ?_
      obtain ⟨hi1, hf⟩ := tg_of hf
      refine va_iald (f := σ.2.1 11) hx hb hK hP 13 12 rfl rfl hi1 d_R_oneRound_35 ?_
      refine lv_i2l hx hb d_R_oneRound_36 rfl ?_
      refine lv_aload_n hx hb d_R_oneRound_37 rfl (lv_at hl 0 rfl) ?_
      refine va_get (ci := 8) (v := .ref (ad 18)) (C := R_R) (T := F_R) (N := 32) hx hb ht iw_R hown hK hP 0 rfl rfl 21 (by decide) (ht _ wd_698) (fun _ h9 => h9) rfl d_R_oneRound_38 ?_
      refine lv_iload_n hx hb d_R_oneRound_41 rfl (lv_at hl 2 rfl) ?_
      obtain ⟨hi2, hf⟩ := tg_of hf
      refine va_iald (f := σ.2.1 16) hx hb hK hP 18 17 rfl rfl hi2 d_R_oneRound_42 ?_
      refine lv_i2l hx hb d_R_oneRound_43 rfl ?_
      refine lv_lmul hx hb d_R_oneRound_44 ?_
      obtain ⟨hi3, hf⟩ := tg_of hf
      refine va_last (f := σ.2.2 1) hx hb hK hP (cwR_D hd) hS 19 18 rfl rfl hi3 d_R_oneRound_45 (fun H locs hP _ hS => ?_)
      replace hP : va_P D clS (cwR ad ta (tJ σ 1 v2.toNatClampNeg (((σ.2.1 11 (((6 : Int32) * v1) + v2).toNatClampNeg)).toInt64 * ((σ.2.1 16 v2.toNatClampNeg)).toInt64))) H := hP
      refine lv_iinc (v := (v2 + (1 : Int32))) (lv' := [(2, .int (v2 + (1 : Int32))), (0, .ref (ad 0)), (1, .int v1)]) hx hb d_R_oneRound_46 hl (k := 2) rfl rfl (by decide) rfl (fun ls hl => ?_)
      refine lv_goto (tgt := 12) hx hb d_R_oneRound_49 (by decide) ?_
      exact ih _ _ _ _ hf _ _ hP hS _ (lv_sub hl [1, 2, 0] rfl) kk
set_option maxHeartbeats 4000000 in
set_option maxRecDepth 100000 in
theorem mw_R_oneRound_69 {p : Program} {l : Launch} {e : Env} {s : State} {m : MethodId} {args : Array Value} {below : List Frame} {meth : Method} {c : Code} {D : va_G} {ad : Nat → Nat} {ta : Nat → ClassId} {Q : State → Prop} (CX : tC p s m args meth c b_R_oneRound none 3 R_R D clS (tyR ta)) (hd : tD 26 ad) : ∀ (k : Nat) (v1 : Int32) (v2 : Int32) (σ : tS) (res : (Int32 × Int32 × tS)), ml_R_oneRound_69 k v1 v2 σ = some res → ∀ (H : Heap) (locs : List Loc), va_P D clS (cwR ad ta σ) H → va_S (tA 26 ad) s.heap H locs → ∀ (ls : Array Slot), lv_has ls 3 [(0, .ref (ad 0)), (1, .int v1), (2, .int v2)] → (∀ (H : Heap) (locs : List Loc), va_P D clS (cwR ad ta res.2.2) H → va_S (tA 26 ad) s.heap H locs → ∀ (ls : Array Slot), lv_has ls 3 [(0, .ref (ad 0)), (1, .int res.1), (2, .int res.2.1)] → W p l e rm_R_oneRound s m args below meth c H locs 0 0 Q (F0 m 100 ls [])) → W p l e rm_R_oneRound s m args below meth c H locs 0 0 Q (F0 m 69 ls []) := by
  obtain ⟨hx, hb, hr, hml, hown, ht, hlocks, hK, hN⟩ := id CX
  intro k
  induction k with
  | zero =>
    intro v1 v2 σ res hf
    exact tn_no hf
  | succ k ih =>
    intro v1 v2 σ res hf H locs hP hS ls hl kk
    replace hf : ms_R_oneRound_69 (ml_R_oneRound_69 k) v1 v2 σ = some res := hf
    unfold ms_R_oneRound_69 at hf
    refine lv_iload_n hx hb d_R_oneRound_69 rfl (lv_at hl 2 rfl) ?_
    refine lv_aload_n hx hb d_R_oneRound_70 rfl (lv_at hl 0 rfl) ?_
    refine va_get (ci := 8) (v := .int (σ.1 2)) (C := R_R) (T := F_R) (N := 32) hx hb ht iw_R hown hK hP 0 rfl rfl 2 (by decide) (ht _ wd_679) (fun _ h9 => h9) rfl d_R_oneRound_71 ?_
    refine lv_icmp_ge (tgt := 100) hx hb d_R_oneRound_74 (by decide) (fun hc => ?_) (fun hc => ?_)
    · replace hf := ti_pos hc hf
      obtain rfl := ts_of hf
      exact kk _ _ hP hS _ (lv_sub hl [0, 1, 2] rfl)
    · replace hf := ti_neg hc hf
      refine lv_aload_n hx hb d_R_oneRound_77 rfl (lv_at hl 0 rfl) ?_
      refine va_get (ci := 8) (v := .ref (ad 14)) (C := R_R) (T := F_R) (N := 32) hx hb ht iw_R hown hK hP 0 rfl rfl 17 (by decide) (ht _ wd_694) (fun _ h9 => h9) rfl d_R_oneRound_78 ?_
      refine lv_bipush (v := (6 : Int32)) hx hb d_R_oneRound_81 (by decide) ?_
      refine lv_iload_n hx hb d_R_oneRound_83 rfl (lv_at hl 1 rfl) ?_
      refine lv_imul hx hb d_R_oneRound_84 ?_
      refine lv_iload_n hx hb d_R_oneRound_85 rfl (lv_at hl 2 rfl) ?_
      refine lv_iadd hx hb d_R_oneRound_86 ?_
      refine lv_aload_n hx hb d_R_oneRound_87 rfl (lv_at hl 0 rfl) ?_
      refine va_get (ci := 8) (v := .ref (ad 21)) (C := R_R) (T := F_R) (N := 32) hx hb ht iw_R hown hK hP 0 rfl rfl 26 (by decide) (ht _ wd_703) (fun _ h9 => h9) rfl d_R_oneRound_88 ?_
      refine lv_iload_n hx hb d_R_oneRound_91 rfl (lv_at hl 2 rfl) ?_
      obtain ⟨hi7, hf⟩ := tg_of hf
      refine va_iald (f := σ.2.1 17) hx hb hK hP 21 20 rfl rfl hi7 d_R_oneRound_92 ?_
      obtain ⟨hi8, hf⟩ := tg_of hf
      refine va_iast (f := σ.2.1 12) hx hb hK hP (cwR_D hd) hS 14 13 rfl rfl hi8 d_R_oneRound_93 (fun H locs hP _ hS => ?_)
      replace hP : va_P D clS (cwR ad ta (tI σ 12 ((((6 : Int32) * v1) + v2).toNatClampNeg) (σ.2.1 17 v2.toNatClampNeg))) H := hP
      refine lv_iinc (v := (v2 + (1 : Int32))) (lv' := [(2, .int (v2 + (1 : Int32))), (0, .ref (ad 0)), (1, .int v1)]) hx hb d_R_oneRound_94 hl (k := 2) rfl rfl (by decide) rfl (fun ls hl => ?_)
      refine lv_goto (tgt := 69) hx hb d_R_oneRound_97 (by decide) ?_
      exact ih _ _ _ _ hf _ _ hP hS _ (lv_sub hl [1, 2, 0] rfl) kk
set_option maxHeartbeats 4000000 in
set_option maxRecDepth 100000 in
theorem mw_R_oneRound_2 {p : Program} {l : Launch} {e : Env} {s : State} {m : MethodId} {args : Array Value} {below : List Frame} {meth : Method} {c : Code} {D : va_G} {ad : Nat → Nat} {ta : Nat → ClassId} (CX : tC p s m args meth c b_R_oneRound none 3 R_R D clS (tyR ta)) (hd : tD 26 ad) : ∀ (k : Nat) (v1 : Int32) (σ : tS) (res : tS), ml_R_oneRound_2 k v1 σ = some res → ∀ (H : Heap) (locs : List Loc), va_P D clS (cwR ad ta σ) H → va_S (tA 26 ad) s.heap H locs → ∀ (ls : Array Slot), lv_has ls 3 [(0, .ref (ad 0)), (1, .int v1)] → W p l e rm_R_oneRound s m args below meth c H locs 0 0 (MQ below (tQ D clS (cwR ad ta res) none (tA 26 ad)) args s 0 0 (tA 26 ad)) (F0 m 2 ls []) := by
  obtain ⟨hx, hb, hr, hml, hown, ht, hlocks, hK, hN⟩ := id CX
  intro k
  induction k with
  | zero =>
    intro v1 σ res hf
    exact tn_no hf
  | succ k ih =>
    intro v1 σ res hf H locs hP hS ls hl
    replace hf : ms_R_oneRound_2 (ml_R_oneRound_2 k) v1 σ = some res := hf
    unfold ms_R_oneRound_2 at hf
    refine lv_iload_n hx hb d_R_oneRound_2 rfl (lv_at hl 1 rfl) ?_
    refine lv_aload_n hx hb d_R_oneRound_3 rfl (lv_at hl 0 rfl) ?_
    refine va_get (ci := 8) (v := .int (σ.1 2)) (C := R_R) (T := F_R) (N := 32) hx hb ht iw_R hown hK hP 0 rfl rfl 2 (by decide) (ht _ wd_679) (fun _ h9 => h9) rfl d_R_oneRound_4 ?_
    refine lv_icmp_ge (tgt := 106) hx hb d_R_oneRound_7 (by decide) (fun hc => ?_) (fun hc => ?_)
    · replace hf := ti_pos hc hf
      obtain rfl := ts_of hf
      exact W.vret hx hb hr (fun t ht hW => ⟨rfl, by rw [ht]; exact hP, hS.F ht⟩) hS.2.2 d_R_oneRound_106
    · replace hf := ti_neg hc hf
      refine lv_iconst (v := (0 : Int32)) hx hb d_R_oneRound_10 (by decide) ?_
      refine lv_istore_n (lv' := [(2, .int (0 : Int32)), (0, .ref (ad 0)), (1, .int v1)]) hx hb d_R_oneRound_11 rfl hl (by decide) rfl (fun ls hl => ?_)
      obtain ⟨e_4, hq4, hf⟩ := tb1_of hf
      refine mw_R_oneRound_12 CX hd _ _ _ _ _ hq4 _ _ hP hS _ (lv_sub hl [1, 2, 0] rfl) (fun H locs hP hS ls hl => ?_)
      refine lv_aload_n hx hb d_R_oneRound_52 rfl (lv_at hl 0 rfl) ?_
      refine lv_aload_n hx hb d_R_oneRound_53 rfl (lv_at hl 0 rfl) ?_
      refine va_get (ci := 8) (v := .ref (ad 2)) (C := R_R) (T := F_R) (N := 32) hx hb ht iw_R hown hK hP 0 rfl rfl 5 (by decide) (ht _ wd_682) (fun _ h9 => h9) rfl d_R_oneRound_54 ?_
      refine lv_iload_n hx hb d_R_oneRound_57 rfl (lv_at hl 1 rfl) ?_
      obtain ⟨hi5, hf⟩ := tg_of hf
      refine va_iald (f := e_4.2.2.2.1 1) hx hb hK hP 2 1 rfl rfl hi5 d_R_oneRound_58 ?_
      refine lv_i2l hx hb d_R_oneRound_59 rfl ?_
      refine lv_aload_n hx hb d_R_oneRound_60 rfl (lv_at hl 0 rfl) ?_
      refine va_get (ci := 8) (v := .int (e_4.2.2.1 2)) (C := R_R) (T := F_R) (N := 32) hx hb ht iw_R hown hK hP 0 rfl rfl 2 (by decide) (ht _ wd_679) (fun _ h9 => h9) rfl d_R_oneRound_61 ?_
      obtain ⟨s_6, hq6, hf⟩ := tb1_of hf
      refine tr_callv (va_runV (C := R_R) (As := [.long (((e_4.2.2.2.1 1 e_4.1.toNatClampNeg)).toInt64), .int (e_4.2.2.1 2)]) (rest := []) ⟨hx, hb, hml, hown, ht⟩ (mc_R_share l hd hq6) ⟨(tw_cb (n := 2) ht wc_R_share wd_43 wd_835 ⟨rfl, rfl⟩ (by decide +kernel) ⟨(Nat.le_of_ble_eq_true rfl), (Nat.le_of_ble_eq_true rfl)⟩), ht _ wd_837, ht _ wd_21⟩ ⟨tP_blind, va_recv hK hP (ci := 8) (q0 := 0) rfl rfl, fun U hU hW => ⟨rfl, by rw [hU]; exact hP, va_K.moved hW.alike hK, tW_warm hW hN⟩⟩ rfl rfl hl.1 rfl (lv_room (Nat.le_of_ble_eq_true rfl)) d_R_oneRound_64 ⟨Nat.zero_le _, Nat.zero_le _⟩) hS (fun _ h => h) (fun _ h => h) (fun H locs hP hS => ?_)
      refine lv_iconst (v := (0 : Int32)) hx hb d_R_oneRound_67 (by decide) ?_
      refine lv_istore_n (lv' := [(2, .int (0 : Int32)), (0, .ref (ad 0)), (1, .int e_4.1)]) hx hb d_R_oneRound_68 rfl hl (by decide) rfl (fun ls hl => ?_)
      obtain ⟨e_9, hq9, hf⟩ := tb1_of hf
      refine mw_R_oneRound_69 CX hd _ _ _ _ _ hq9 _ _ hP hS _ (lv_sub hl [1, 2, 0] rfl) (fun H locs hP hS ls hl => ?_)
      refine lv_iinc (v := (e_9.1 + (1 : Int32))) (lv' := [(1, .int (e_9.1 + (1 : Int32))), (0, .ref (ad 0)), (2, .int e_9.2.1)]) hx hb d_R_oneRound_100 hl (k := 1) rfl rfl (by decide) rfl (fun ls hl => ?_)
      refine lv_goto (tgt := 2) hx hb d_R_oneRound_103 (by decide) ?_
      exact ih _ _ _ hf _ _ hP hS _ (lv_sub hl [1, 0] rfl)
set_option maxHeartbeats 4000000 in
set_option maxRecDepth 100000 in
theorem mc_R_oneRound (l : Launch) {D : va_G} {ad : Nat → Nat} {ta : Nat → ClassId} (hd : tD 26 ad) {σ σ' : tS}  (hf : mf_R_oneRound  σ = some σ') : Met l y_R_oneRound (.code y_R_oneRound b_R_oneRound 3 none :: tw) rm_R_oneRound (tP D clS (tyR ta) (cwR ad ta σ) [.ref (ad 0)]) (tQ D clS (cwR ad ta σ') none (tA 26 ad)) 0 0 (tA 26 ad) := by
  refine Met.ofW (cc := b_R_oneRound) (maxL := 3) (ret := none) (by decide) rfl ?_
  intro p e s m args below meth c s₁ B hml hv
  obtain ⟨rfl, hP, hK, hN⟩ := hv
  have hx := B.exec
  have hb := B.bytes
  have hr := B.returns
  have ht : ∀ w ∈ tw, w.before [.ref (ad 0)].toArray s = true := fun w h => atoms_spec (ws := (.code y_R_oneRound b_R_oneRound 3 none :: tw)) B.pre w (List.mem_cons_of_mem _ h)
  have hown : s.vm.findClass R_R = some m.cls := findClass_of_methodNamed B.named
  have hlocks := B.notSynchronized
  have CX : tC p s m [.ref (ad 0)].toArray meth c b_R_oneRound none 3 R_R D clS (tyR ta) := ⟨hx, hb, hr, hml, hown, ht, hlocks, hK, hN⟩
  have hS : va_S (tA 26 ad) s.heap s.heap [] := va_S.rf
  have hl := lv_entry ([.ref (ad 0)]) (n := 3) (Nat.le_of_ble_eq_true rfl)
  rw [lg_entry_eq]
  generalize (lg_sl ([.ref (ad 0)]) ++ List.replicate (3 - (lg_sl ([.ref (ad 0)])).length) Slot.unset).toArray = ls at hl ⊢
  replace hl : lv_has ls 3 [(0, .ref (ad 0))] := hl
  unfold mf_R_oneRound at hf
  refine lv_iconst (v := (0 : Int32)) hx hb d_R_oneRound_0 (by decide) ?_
  refine lv_istore_n (lv' := [(1, .int (0 : Int32)), (0, .ref (ad 0))]) hx hb d_R_oneRound_1 rfl hl (by decide) rfl (fun ls hl => ?_)
  exact mw_R_oneRound_2 CX hd _ _ _ _ hf _ _ hP hS _ (lv_sub hl [1, 0] rfl)
abbrev rm_R_sumTo : Room := { frames := 0, cells := 0, slots := 0, locals := 0 }
set_option maxHeartbeats 4000000 in
set_option maxRecDepth 100000 in
theorem mw_R_sumTo_5 {p : Program} {l : Launch} {e : Env} {s : State} {m : MethodId} {args : Array Value} {below : List Frame} {meth : Method} {c : Code} {D : va_G} {ad : Nat → Nat} {ta : Nat → ClassId} (CX : tC p s m args meth c b_R_sumTo (some .long) 5 R_R D clS (tyR ta)) (hd : tD 26 ad) : ∀ (k : Nat) (v1 : Int32) (v2 : Int64) (v4 : Int32) (σ : tS) (res : (Int64 × tS)), ml_R_sumTo_5 k v1 v2 v4 σ = some res → ∀ (H : Heap) (locs : List Loc), va_P D clS (cwR ad ta σ) H → va_S tNo s.heap H locs → ∀ (ls : Array Slot), lv_has ls 5 [(0, .ref (ad 0)), (1, .int v1), (2, .long v2), (4, .int v4)] → W p l e rm_R_sumTo s m args below meth c H locs 0 0 (MQ below (tQ D clS (cwR ad ta res.2) (some (.long res.1)) tNo) args s 0 0 tNo) (F0 m 5 ls []) := by
  obtain ⟨hx, hb, hr, hml, hown, ht, hlocks, hK, hN⟩ := id CX
  intro k
  induction k with
  | zero =>
    intro v1 v2 v4 σ res hf
    exact tn_no hf
  | succ k ih =>
    intro v1 v2 v4 σ res hf H locs hP hS ls hl
    replace hf : ms_R_sumTo_5 (ml_R_sumTo_5 k) v1 v2 v4 σ = some res := hf
    unfold ms_R_sumTo_5 at hf
    refine lv_iload hx hb d_R_sumTo_5 (lv_at hl 3 rfl) ?_
    refine lv_aload_n hx hb d_R_sumTo_7 rfl (lv_at hl 0 rfl) ?_
    refine va_get (ci := 8) (v := .int (σ.1 2)) (C := R_R) (T := F_R) (N := 32) hx hb ht iw_R hown hK hP 0 rfl rfl 2 (by decide) (ht _ wd_679) (fun _ h9 => h9) rfl d_R_sumTo_8 ?_
    refine lv_icmp_ge (tgt := 36) hx hb d_R_sumTo_11 (by decide) (fun hc => ?_) (fun hc => ?_)
    · replace hf := ti_pos hc hf
      refine lv_lload_n hx hb d_R_sumTo_36 rfl (lv_at hl 2 rfl) ?_
      obtain rfl := ts_of hf
      exact W.lret (v := v2) hx hb hr (fun t ht hW => ⟨rfl, by rw [ht]; exact hP, hS.F ht⟩) hS.2.2 d_R_sumTo_37
    · replace hf := ti_neg hc hf
      refine lv_lload_n hx hb d_R_sumTo_14 rfl (lv_at hl 2 rfl) ?_
      refine lv_aload_n hx hb d_R_sumTo_15 rfl (lv_at hl 0 rfl) ?_
      refine va_get (ci := 8) (v := .ref (ad 14)) (C := R_R) (T := F_R) (N := 32) hx hb ht iw_R hown hK hP 0 rfl rfl 17 (by decide) (ht _ wd_694) (fun _ h9 => h9) rfl d_R_sumTo_16 ?_
      refine lv_bipush (v := (6 : Int32)) hx hb d_R_sumTo_19 (by decide) ?_
      refine lv_iload hx hb d_R_sumTo_21 (lv_at hl 3 rfl) ?_
      refine lv_imul hx hb d_R_sumTo_23 ?_
      refine lv_iload_n hx hb d_R_sumTo_24 rfl (lv_at hl 1 rfl) ?_
      refine lv_iadd hx hb d_R_sumTo_25 ?_
      obtain ⟨hi1, hf⟩ := tg_of hf
      refine va_iald (f := σ.2.1 12) hx hb hK hP 14 13 rfl rfl hi1 d_R_sumTo_26 ?_
      refine lv_i2l hx hb d_R_sumTo_27 rfl ?_
      refine lv_ladd hx hb d_R_sumTo_28 ?_
      refine lv_lstore_n (lv' := [(2, .long (v2 + ((σ.2.1 12 (((6 : Int32) * v4) + v1).toNatClampNeg)).toInt64)), (0, .ref (ad 0)), (1, .int v1), (4, .int v4)]) hx hb d_R_sumTo_29 rfl hl (by decide) rfl (fun ls hl => ?_)
      refine lv_iinc (v := (v4 + (1 : Int32))) (lv' := [(4, .int (v4 + (1 : Int32))), (2, .long (v2 + ((σ.2.1 12 (((6 : Int32) * v4) + v1).toNatClampNeg)).toInt64)), (0, .ref (ad 0)), (1, .int v1)]) hx hb d_R_sumTo_30 hl (k := 3) rfl rfl (by decide) rfl (fun ls hl => ?_)
      refine lv_goto (tgt := 5) hx hb d_R_sumTo_33 (by decide) ?_
      exact ih _ _ _ _ _ hf _ _ hP hS _ (lv_sub hl [2, 3, 1, 0] rfl)
set_option maxHeartbeats 4000000 in
set_option maxRecDepth 100000 in
theorem mc_R_sumTo (l : Launch) {D : va_G} {ad : Nat → Nat} {ta : Nat → ClassId} (hd : tD 26 ad) {σ σ' : tS} {p0 : Int32} {r : Int64} (hf : mf_R_sumTo p0 σ = some (r, σ')) : Met l y_R_sumTo (.code y_R_sumTo b_R_sumTo 5 (some .long) :: tw) rm_R_sumTo (tP D clS (tyR ta) (cwR ad ta σ) [.ref (ad 0), .int p0]) (tQ D clS (cwR ad ta σ') (some (.long r)) tNo) 0 0 tNo := by
  refine Met.ofW (cc := b_R_sumTo) (maxL := 5) (ret := (some .long)) (by decide) rfl ?_
  intro p e s m args below meth c s₁ B hml hv
  obtain ⟨rfl, hP, hK, hN⟩ := hv
  have hx := B.exec
  have hb := B.bytes
  have hr := B.returns
  have ht : ∀ w ∈ tw, w.before [.ref (ad 0), .int p0].toArray s = true := fun w h => atoms_spec (ws := (.code y_R_sumTo b_R_sumTo 5 (some .long) :: tw)) B.pre w (List.mem_cons_of_mem _ h)
  have hown : s.vm.findClass R_R = some m.cls := findClass_of_methodNamed B.named
  have hlocks := B.notSynchronized
  have CX : tC p s m [.ref (ad 0), .int p0].toArray meth c b_R_sumTo (some .long) 5 R_R D clS (tyR ta) := ⟨hx, hb, hr, hml, hown, ht, hlocks, hK, hN⟩
  have hS : va_S tNo s.heap s.heap [] := va_S.rf
  have hl := lv_entry ([.ref (ad 0), .int p0]) (n := 5) (Nat.le_of_ble_eq_true rfl)
  rw [lg_entry_eq]
  generalize (lg_sl ([.ref (ad 0), .int p0]) ++ List.replicate (5 - (lg_sl ([.ref (ad 0), .int p0])).length) Slot.unset).toArray = ls at hl ⊢
  replace hl : lv_has ls 5 [(0, .ref (ad 0)), (1, .int p0)] := hl
  unfold mf_R_sumTo at hf
  refine lv_lconst (v := (0 : Int64)) hx hb d_R_sumTo_0 (by decide) ?_
  refine lv_lstore_n (lv' := [(2, .long (0 : Int64)), (0, .ref (ad 0)), (1, .int p0)]) hx hb d_R_sumTo_1 rfl hl (by decide) rfl (fun ls hl => ?_)
  refine lv_iconst (v := (0 : Int32)) hx hb d_R_sumTo_2 (by decide) ?_
  refine lv_istore (lv' := [(4, .int (0 : Int32)), (2, .long (0 : Int64)), (0, .ref (ad 0)), (1, .int p0)]) hx hb d_R_sumTo_3 hl (by decide) rfl (fun ls hl => ?_)
  exact mw_R_sumTo_5 CX hd _ _ _ _ _ _ hf _ _ hP hS _ (lv_sub hl [2, 3, 1, 0] rfl)
abbrev rm_R_isMet : Room := { frames := 1, cells := 0, slots := 0, locals := 24 }
set_option maxHeartbeats 4000000 in
set_option maxRecDepth 100000 in
theorem mw_R_isMet_4 {p : Program} {l : Launch} {e : Env} {s : State} {m : MethodId} {args : Array Value} {below : List Frame} {meth : Method} {c : Code} {D : va_G} {ad : Nat → Nat} {ta : Nat → ClassId} (CX : tC p s m args meth c b_R_isMet (some .boolean) 6 R_R D clS (tyR ta)) (hd : tD 26 ad) : ∀ (k : Nat) (v1 : Int32) (v2 : Int32) (v3 : Int32) (σ : tS) (res : (Int32 × tS)), ml_R_isMet_4 k v1 v2 v3 σ = some res → ∀ (H : Heap) (locs : List Loc), va_P D clS (cwR ad ta σ) H → va_S tNo s.heap H locs → ∀ (ls : Array Slot), lv_has ls 6 [(0, .ref (ad 0)), (1, .int v1), (2, .int v2), (3, .int v3)] → W p l e rm_R_isMet s m args below meth c H locs 0 0 (MQ below (tQ D clS (cwR ad ta res.2) (some (.int res.1)) tNo) args s 0 0 tNo) (F0 m 4 ls []) := by
  obtain ⟨hx, hb, hr, hml, hown, ht, hlocks, hK, hN⟩ := id CX
  intro k
  induction k with
  | zero =>
    intro v1 v2 v3 σ res hf
    exact tn_no hf
  | succ k ih =>
    intro v1 v2 v3 σ res hf H locs hP hS ls hl
    replace hf : ms_R_isMet_4 (ml_R_isMet_4 k) v1 v2 v3 σ = some res := hf
    unfold ms_R_isMet_4 at hf
    refine lv_iload_n hx hb d_R_isMet_4 rfl (lv_at hl 3 rfl) ?_
    refine lv_aload_n hx hb d_R_isMet_5 rfl (lv_at hl 0 rfl) ?_
    refine va_get (ci := 8) (v := .int (σ.1 2)) (C := R_R) (T := F_R) (N := 32) hx hb ht iw_R hown hK hP 0 rfl rfl 2 (by decide) (ht _ wd_679) (fun _ h9 => h9) rfl d_R_isMet_6 ?_
    refine lv_icmp_ge (tgt := 60) hx hb d_R_isMet_9 (by decide) (fun hc => ?_) (fun hc => ?_)
    · replace hf := ti_pos hc hf
      refine lv_iload_n hx hb d_R_isMet_60 rfl (lv_at hl 2 rfl) ?_
      obtain ⟨hb01, hf⟩ := tb_of hf
      obtain rfl := ts_of hf
      exact W.zret (v := v2) (ty := .boolean) hx hb hr (tb_nar hb01) (fun t ht hW => ⟨rfl, by rw [ht]; exact hP, hS.F ht⟩) hS.2.2 d_R_isMet_61
    · replace hf := ti_neg hc hf
      refine lv_aload_n hx hb d_R_isMet_12 rfl (lv_at hl 0 rfl) ?_
      refine lv_iload_n hx hb d_R_isMet_13 rfl (lv_at hl 3 rfl) ?_
      obtain ⟨r_1, s_1, hq1, hf⟩ := tb2_of hf
      refine tr_calll (va_runV (C := R_R) (As := [.int v3]) (rest := []) ⟨hx, hb, hml, hown, ht⟩ (mc_R_sumTo l hd hq1) ⟨(tw_cb (n := 1) ht wc_R_sumTo wd_43 wd_844 ⟨rfl, rfl⟩ (by decide +kernel) ⟨(Nat.le_of_ble_eq_true rfl), (Nat.le_of_ble_eq_true rfl)⟩), ht _ wd_846, ht _ wd_23⟩ ⟨tP_blind, va_recv hK hP (ci := 8) (q0 := 0) rfl rfl, fun U hU hW => ⟨rfl, by rw [hU]; exact hP, va_K.moved hW.alike hK, tW_warm hW hN⟩⟩ rfl rfl hl.1 rfl (lv_room (Nat.le_of_ble_eq_true rfl)) d_R_isMet_14 ⟨Nat.zero_le _, Nat.zero_le _⟩) hS (fun _ h => h.elim) (fun _ h => h.elim) (fun H locs hP hS => ?_)
      refine lv_aload_n hx hb d_R_isMet_17 rfl (lv_at hl 0 rfl) ?_
      refine va_get (ci := 8) (v := .ref (ad 3)) (C := R_R) (T := F_R) (N := 32) hx hb ht iw_R hown hK hP 0 rfl rfl 6 (by decide) (ht _ wd_683) (fun _ h9 => h9) rfl d_R_isMet_18 ?_
      refine lv_iload_n hx hb d_R_isMet_21 rfl (lv_at hl 3 rfl) ?_
      obtain ⟨hi2, hf⟩ := tg_of hf
      refine va_iald (f := s_1.2.1 2) hx hb hK hP 3 2 rfl rfl hi2 d_R_isMet_22 ?_
      refine lv_i2l hx hb d_R_isMet_23 rfl ?_
      refine lv_lsub hx hb d_R_isMet_24 ?_
      refine lv_lstore (lv' := [(4, .long (r_1 - ((s_1.2.1 2 v3.toNatClampNeg)).toInt64)), (0, .ref (ad 0)), (1, .int v1), (2, .int v2), (3, .int v3)]) hx hb d_R_isMet_25 hl (by decide) rfl (fun ls hl => ?_)
      refine lv_iload_n hx hb d_R_isMet_27 rfl (lv_at hl 3 rfl) ?_
      refine lv_if_eq (tgt := 52) hx hb d_R_isMet_28 (by decide) (fun hc => ?_) (fun hc => ?_)
      · replace hf := ti_pos hc hf
        refine lv_iconst (v := (0 : Int32)) hx hb d_R_isMet_52 (by decide) ?_
        refine lv_istore_n (lv' := [(2, .int (0 : Int32)), (4, .long (r_1 - ((s_1.2.1 2 v3.toNatClampNeg)).toInt64)), (0, .ref (ad 0)), (1, .int v1), (3, .int v3)]) hx hb d_R_isMet_53 rfl hl (by decide) rfl (fun ls hl => ?_)
        refine lv_iinc (v := (v3 + (1 : Int32))) (lv' := [(3, .int (v3 + (1 : Int32))), (2, .int (0 : Int32)), (4, .long (r_1 - ((s_1.2.1 2 v3.toNatClampNeg)).toInt64)), (0, .ref (ad 0)), (1, .int v1)]) hx hb d_R_isMet_54 hl (k := 4) rfl rfl (by decide) rfl (fun ls hl => ?_)
        refine lv_goto (tgt := 4) hx hb d_R_isMet_57 (by decide) ?_
        exact ih _ _ _ _ _ hf _ _ hP hS _ (lv_sub hl [3, 4, 1, 0] rfl)
      · replace hf := ti_neg hc hf
        refine lv_lload hx hb d_R_isMet_31 (lv_at hl 0 rfl) ?_
        refine lv_iload_n hx hb d_R_isMet_33 rfl (lv_at hl 2 rfl) ?_
        refine lv_i2l hx hb d_R_isMet_34 rfl ?_
        refine W.lcmp hx hb d_R_isMet_35 ?_
        refine lv_if_gt (tgt := 52) hx hb d_R_isMet_36 (by decide) (fun hc => ?_) (fun hc => ?_)
        · replace hf := ti_pos hc hf
          refine lv_iconst (v := (0 : Int32)) hx hb d_R_isMet_52 (by decide) ?_
          refine lv_istore_n (lv' := [(2, .int (0 : Int32)), (4, .long (r_1 - ((s_1.2.1 2 v3.toNatClampNeg)).toInt64)), (0, .ref (ad 0)), (1, .int v1), (3, .int v3)]) hx hb d_R_isMet_53 rfl hl (by decide) rfl (fun ls hl => ?_)
          refine lv_iinc (v := (v3 + (1 : Int32))) (lv' := [(3, .int (v3 + (1 : Int32))), (2, .int (0 : Int32)), (4, .long (r_1 - ((s_1.2.1 2 v3.toNatClampNeg)).toInt64)), (0, .ref (ad 0)), (1, .int v1)]) hx hb d_R_isMet_54 hl (k := 4) rfl rfl (by decide) rfl (fun ls hl => ?_)
          refine lv_goto (tgt := 4) hx hb d_R_isMet_57 (by decide) ?_
          exact ih _ _ _ _ _ hf _ _ hP hS _ (lv_sub hl [3, 4, 1, 0] rfl)
        · replace hf := ti_neg hc hf
          refine lv_lload hx hb d_R_isMet_39 (lv_at hl 0 rfl) ?_
          refine lv_iload_n hx hb d_R_isMet_41 rfl (lv_at hl 2 rfl) ?_
          refine lv_ineg hx hb d_R_isMet_42 ?_
          refine lv_i2l hx hb d_R_isMet_43 rfl ?_
          refine W.lcmp hx hb d_R_isMet_44 ?_
          refine lv_if_lt (tgt := 52) hx hb d_R_isMet_45 (by decide) (fun hc => ?_) (fun hc => ?_)
          · replace hf := ti_pos hc hf
            refine lv_iconst (v := (0 : Int32)) hx hb d_R_isMet_52 (by decide) ?_
            refine lv_istore_n (lv' := [(2, .int (0 : Int32)), (4, .long (r_1 - ((s_1.2.1 2 v3.toNatClampNeg)).toInt64)), (0, .ref (ad 0)), (1, .int v1), (3, .int v3)]) hx hb d_R_isMet_53 rfl hl (by decide) rfl (fun ls hl => ?_)
            refine lv_iinc (v := (v3 + (1 : Int32))) (lv' := [(3, .int (v3 + (1 : Int32))), (2, .int (0 : Int32)), (4, .long (r_1 - ((s_1.2.1 2 v3.toNatClampNeg)).toInt64)), (0, .ref (ad 0)), (1, .int v1)]) hx hb d_R_isMet_54 hl (k := 4) rfl rfl (by decide) rfl (fun ls hl => ?_)
            refine lv_goto (tgt := 4) hx hb d_R_isMet_57 (by decide) ?_
            exact ih _ _ _ _ _ hf _ _ hP hS _ (lv_sub hl [3, 4, 1, 0] rfl)
          · replace hf := ti_neg hc hf
            refine lv_iconst (v := (1 : Int32)) hx hb d_R_isMet_48 (by decide) ?_
            refine lv_goto (tgt := 53) hx hb d_R_isMet_49 (by decide) ?_
            refine lv_istore_n (lv' := [(2, .int (1 : Int32)), (4, .long (r_1 - ((s_1.2.1 2 v3.toNatClampNeg)).toInt64)), (0, .ref (ad 0)), (1, .int v1), (3, .int v3)]) hx hb d_R_isMet_53 rfl hl (by decide) rfl (fun ls hl => ?_)
            refine lv_iinc (v := (v3 + (1 : Int32))) (lv' := [(3, .int (v3 + (1 : Int32))), (2, .int (1 : Int32)), (4, .long (r_1 - ((s_1.2.1 2 v3.toNatClampNeg)).toInt64)), (0, .ref (ad 0)), (1, .int v1)]) hx hb d_R_isMet_54 hl (k := 4) rfl rfl (by decide) rfl (fun ls hl => ?_)
            refine lv_goto (tgt := 4) hx hb d_R_isMet_57 (by decide) ?_
            exact ih _ _ _ _ _ hf _ _ hP hS _ (lv_sub hl [3, 4, 1, 0] rfl)
set_option maxHeartbeats 4000000 in
set_option maxRecDepth 100000 in
theorem mc_R_isMet (l : Launch) {D : va_G} {ad : Nat → Nat} {ta : Nat → ClassId} (hd : tD 26 ad) {σ σ' : tS} {p0 : Int32} {r : Int32} (hf : mf_R_isMet p0 σ = some (r, σ')) : Met l y_R_isMet (.code y_R_isMet b_R_isMet 6 (some .boolean) :: tw) rm_R_isMet (tP D clS (tyR ta) (cwR ad ta σ) [.ref (ad 0), .int p0]) (tQ D clS (cwR ad ta σ') (some (.int r)) tNo) 0 0 tNo := by
  refine Met.ofW (cc := b_R_isMet) (maxL := 6) (ret := (some .boolean)) (by decide) rfl ?_
  intro p e s m args below meth c s₁ B hml hv
  obtain ⟨rfl, hP, hK, hN⟩ := hv
  have hx := B.exec
  have hb := B.bytes
  have hr := B.returns
  have ht : ∀ w ∈ tw, w.before [.ref (ad 0), .int p0].toArray s = true := fun w h => atoms_spec (ws := (.code y_R_isMet b_R_isMet 6 (some .boolean) :: tw)) B.pre w (List.mem_cons_of_mem _ h)
  have hown : s.vm.findClass R_R = some m.cls := findClass_of_methodNamed B.named
  have hlocks := B.notSynchronized
  have CX : tC p s m [.ref (ad 0), .int p0].toArray meth c b_R_isMet (some .boolean) 6 R_R D clS (tyR ta) := ⟨hx, hb, hr, hml, hown, ht, hlocks, hK, hN⟩
  have hS : va_S tNo s.heap s.heap [] := va_S.rf
  have hl := lv_entry ([.ref (ad 0), .int p0]) (n := 6) (Nat.le_of_ble_eq_true rfl)
  rw [lg_entry_eq]
  generalize (lg_sl ([.ref (ad 0), .int p0]) ++ List.replicate (6 - (lg_sl ([.ref (ad 0), .int p0])).length) Slot.unset).toArray = ls at hl ⊢
  replace hl : lv_has ls 6 [(0, .ref (ad 0)), (1, .int p0)] := hl
  unfold mf_R_isMet at hf
  refine lv_iconst (v := (1 : Int32)) hx hb d_R_isMet_0 (by decide) ?_
  refine lv_istore_n (lv' := [(2, .int (1 : Int32)), (0, .ref (ad 0)), (1, .int p0)]) hx hb d_R_isMet_1 rfl hl (by decide) rfl (fun ls hl => ?_)
  refine lv_iconst (v := (0 : Int32)) hx hb d_R_isMet_2 (by decide) ?_
  refine lv_istore_n (lv' := [(3, .int (0 : Int32)), (2, .int (1 : Int32)), (0, .ref (ad 0)), (1, .int p0)]) hx hb d_R_isMet_3 rfl hl (by decide) rfl (fun ls hl => ?_)
  exact mw_R_isMet_4 CX hd _ _ _ _ _ _ hf _ _ hP hS _ (lv_sub hl [2, 3, 1, 0] rfl)
abbrev rm_R_rounds : Room := { frames := 2, cells := 0, slots := 0, locals := 51 }
set_option maxHeartbeats 4000000 in
set_option maxRecDepth 100000 in
theorem mw_R_rounds_95 {p : Program} {l : Launch} {e : Env} {s : State} {m : MethodId} {args : Array Value} {below : List Frame} {meth : Method} {c : Code} {D : va_G} {ad : Nat → Nat} {ta : Nat → ClassId} {Q : State → Prop} (CX : tC p s m args meth c b_R_rounds (some .int) 9 R_R D clS (tyR ta)) (hd : tD 26 ad) : ∀ (k : Nat) (v1 : Int32) (v2 : Int32) (v3 : Int32) (v4 : Int32) (σ : tS) (res : (Int32 × Int32 × Int32 × Int32 × tS)), ml_R_rounds_95 k v1 v2 v3 v4 σ = some res → ∀ (H : Heap) (locs : List Loc), va_P D clS (cwR ad ta σ) H → va_S (tA 26 ad) s.heap H locs → ∀ (ls : Array Slot), lv_has ls 9 [(0, .ref (ad 0)), (1, .int v1), (2, .int v2), (3, .int v3), (4, .int v4)] → (∀ (H : Heap) (locs : List Loc), va_P D clS (cwR ad ta res.2.2.2.2) H → va_S (tA 26 ad) s.heap H locs → ∀ (ls : Array Slot), lv_has ls 9 [(0, .ref (ad 0)), (1, .int res.1), (2, .int res.2.1), (3, .int res.2.2.1), (4, .int res.2.2.2.1)] → W p l e rm_R_rounds s m args below meth c H locs 0 0 Q (F0 m 182 ls [])) → W p l e rm_R_rounds s m args below meth c H locs 0 0 Q (F0 m 95 ls []) := by
  obtain ⟨hx, hb, hr, hml, hown, ht, hlocks, hK, hN⟩ := id CX
  intro k
  induction k with
  | zero =>
    intro v1 v2 v3 v4 σ res hf
    exact tn_no hf
  | succ k ih =>
    intro v1 v2 v3 v4 σ res hf H locs hP hS ls hl kk
    replace hf : ms_R_rounds_95 (ml_R_rounds_95 k) v1 v2 v3 v4 σ = some res := hf
    unfold ms_R_rounds_95 at hf
    refine lv_iload hx hb d_R_rounds_95 (lv_at hl 4 rfl) ?_
    refine lv_aload_n hx hb d_R_rounds_97 rfl (lv_at hl 0 rfl) ?_
    refine va_get (ci := 8) (v := .int (σ.1 2)) (C := R_R) (T := F_R) (N := 32) hx hb ht iw_R hown hK hP 0 rfl rfl 2 (by decide) (ht _ wd_679) (fun _ h9 => h9) rfl d_R_rounds_98 ?_
    refine lv_icmp_ge (tgt := 182) hx hb d_R_rounds_101 (by decide) (fun hc => ?_) (fun hc => ?_)
    · replace hf := ti_pos hc hf
      obtain rfl := ts_of hf
      exact kk _ _ hP hS _ (lv_sub hl [0, 1, 2, 3, 4] rfl)
    · replace hf := ti_neg hc hf
      refine lv_aload_n hx hb d_R_rounds_104 rfl (lv_at hl 0 rfl) ?_
      refine lv_iload hx hb d_R_rounds_105 (lv_at hl 4 rfl) ?_
      obtain ⟨r_6, s_6, hq6, hf⟩ := tb2_of hf
      refine tr_calll (va_runV (C := R_R) (As := [.int v4]) (rest := []) ⟨hx, hb, hml, hown, ht⟩ (mc_R_sumTo l hd hq6) ⟨(tw_cb (n := 1) ht wc_R_sumTo wd_43 wd_844 ⟨rfl, rfl⟩ (by decide +kernel) ⟨(Nat.le_of_ble_eq_true rfl), (Nat.le_of_ble_eq_true rfl)⟩), ht _ wd_846, ht _ wd_23⟩ ⟨tP_blind, va_recv hK hP (ci := 8) (q0 := 0) rfl rfl, fun U hU hW => ⟨rfl, by rw [hU]; exact hP, va_K.moved hW.alike hK, tW_warm hW hN⟩⟩ rfl rfl hl.1 rfl (lv_room (Nat.le_of_ble_eq_true rfl)) d_R_rounds_107 ⟨Nat.zero_le _, Nat.zero_le _⟩) hS (fun _ h => h.elim) (fun _ h => h.elim) (fun H locs hP hS => ?_)
      refine lv_lstore (lv' := [(5, .long r_6), (0, .ref (ad 0)), (1, .int v1), (2, .int v2), (3, .int v3), (4, .int v4)]) hx hb d_R_rounds_110 hl (by decide) rfl (fun ls hl => ?_)
      refine lv_lload hx hb d_R_rounds_112 (lv_at hl 0 rfl) ?_
      refine lv_lconst (v := (0 : Int64)) hx hb d_R_rounds_114 (by decide) ?_
      refine W.lcmp hx hb d_R_rounds_115 ?_
      refine lv_if_le (tgt := 176) hx hb d_R_rounds_116 (by decide) (fun hc => ?_) (fun hc => ?_)
      · replace hf := ti_pos hc hf
        refine lv_iinc (v := (v4 + (1 : Int32))) (lv' := [(4, .int (v4 + (1 : Int32))), (5, .long r_6), (0, .ref (ad 0)), (1, .int v1), (2, .int v2), (3, .int v3)]) hx hb d_R_rounds_176 hl (k := 5) rfl rfl (by decide) rfl (fun ls hl => ?_)
        refine lv_goto (tgt := 95) hx hb d_R_rounds_179 (by decide) ?_
        exact ih _ _ _ _ _ _ hf _ _ hP hS _ (lv_sub hl [2, 3, 4, 5, 0] rfl) kk
      · replace hf := ti_neg hc hf
        refine lv_aload_n hx hb d_R_rounds_119 rfl (lv_at hl 1 rfl) ?_
        refine va_get (ci := 8) (v := .ref (ad 18)) (C := R_R) (T := F_R) (N := 32) hx hb ht iw_R hown hK hP 0 rfl rfl 21 (by decide) (ht _ wd_698) (fun _ h9 => h9) rfl d_R_rounds_120 ?_
        refine lv_iload hx hb d_R_rounds_123 (lv_at hl 5 rfl) ?_
        obtain ⟨hi7, hf⟩ := tg_of hf
        refine va_iald (f := s_6.2.1 16) hx hb hK hP 18 17 rfl rfl hi7 d_R_rounds_125 ?_
        refine lv_i2l hx hb d_R_rounds_126 rfl ?_
        refine lv_aload_n hx hb d_R_rounds_127 rfl (lv_at hl 1 rfl) ?_
        refine va_get (ci := 8) (v := .ref (ad 3)) (C := R_R) (T := F_R) (N := 32) hx hb ht iw_R hown hK hP 0 rfl rfl 6 (by decide) (ht _ wd_683) (fun _ h9 => h9) rfl d_R_rounds_128 ?_
        refine lv_iload hx hb d_R_rounds_131 (lv_at hl 5 rfl) ?_
        obtain ⟨hi8, hf⟩ := tg_of hf
        refine va_iald (f := s_6.2.1 2) hx hb hK hP 3 2 rfl rfl hi8 d_R_rounds_133 ?_
        refine lv_i2l hx hb d_R_rounds_134 rfl ?_
        refine lv_lmul hx hb d_R_rounds_135 ?_
        refine lv_lload hx hb d_R_rounds_136 (lv_at hl 0 rfl) ?_
        obtain ⟨hz9, hf⟩ := tz_of hf
        refine lv_ldiv hx hb d_R_rounds_138 hz9 ?_
        refine lv_lstore (lv' := [(7, .long ((((s_6.2.1 16 v4.toNatClampNeg)).toInt64 * ((s_6.2.1 2 v4.toNatClampNeg)).toInt64) / r_6)), (5, .long r_6), (0, .ref (ad 0)), (1, .int v1), (2, .int v2), (3, .int v3), (4, .int v4)]) hx hb d_R_rounds_139 hl (by decide) rfl (fun ls hl => ?_)
        refine lv_aload_n hx hb d_R_rounds_141 rfl (lv_at hl 2 rfl) ?_
        refine va_get (ci := 8) (v := .ref (ad 18)) (C := R_R) (T := F_R) (N := 32) hx hb ht iw_R hown hK hP 0 rfl rfl 21 (by decide) (ht _ wd_698) (fun _ h9 => h9) rfl d_R_rounds_142 ?_
        refine lv_iload hx hb d_R_rounds_145 (lv_at hl 6 rfl) ?_
        refine lv_lload hx hb d_R_rounds_147 (lv_at hl 0 rfl) ?_
        refine lv_lconst (v := (1 : Int64)) hx hb d_R_rounds_149 (by decide) ?_
        refine W.lcmp hx hb d_R_rounds_150 ?_
        refine lv_if_ge (tgt := 158) hx hb d_R_rounds_151 (by decide) (fun hc => ?_) (fun hc => ?_)
        · replace hf := ti_pos hc hf
          refine lv_lload hx hb d_R_rounds_158 (lv_at hl 0 rfl) ?_
          refine lv_ldc2 (v := (1000000 : Int64)) hx hb hown (ht _ wd_848) d_R_rounds_160 ?_
          refine W.lcmp hx hb d_R_rounds_163 ?_
          refine lv_if_le (tgt := 172) hx hb d_R_rounds_164 (by decide) (fun hc => ?_) (fun hc => ?_)
          · replace hf := ti_pos hc hf
            refine lv_lload hx hb d_R_rounds_172 (lv_at hl 0 rfl) ?_
            refine lv_l2i hx hb d_R_rounds_174 rfl ?_
            obtain ⟨hi10, hf⟩ := tg_of hf
            refine va_iast (f := s_6.2.1 16) hx hb hK hP (cwR_D hd) hS 18 17 rfl rfl hi10 d_R_rounds_175 (fun H locs hP _ hS => ?_)
            replace hP : va_P D clS (cwR ad ta (tI s_6 16 v4.toNatClampNeg ((((((s_6.2.1 16 v4.toNatClampNeg)).toInt64 * ((s_6.2.1 2 v4.toNatClampNeg)).toInt64) / r_6)).toInt32))) H := hP
            refine lv_iinc (v := (v4 + (1 : Int32))) (lv' := [(4, .int (v4 + (1 : Int32))), (7, .long ((((s_6.2.1 16 v4.toNatClampNeg)).toInt64 * ((s_6.2.1 2 v4.toNatClampNeg)).toInt64) / r_6)), (5, .long r_6), (0, .ref (ad 0)), (1, .int v1), (2, .int v2), (3, .int v3)]) hx hb d_R_rounds_176 hl (k := 6) rfl rfl (by decide) rfl (fun ls hl => ?_)
            refine lv_goto (tgt := 95) hx hb d_R_rounds_179 (by decide) ?_
            exact ih _ _ _ _ _ _ hf _ _ hP hS _ (lv_sub hl [3, 4, 5, 6, 0] rfl) kk
          · replace hf := ti_neg hc hf
            refine lv_ldc (v := (1000000 : Int32)) hx hb hown (ht _ wd_798) d_R_rounds_167 ?_
            refine lv_goto (tgt := 175) hx hb d_R_rounds_169 (by decide) ?_
            obtain ⟨hi11, hf⟩ := tg_of hf
            refine va_iast (f := s_6.2.1 16) hx hb hK hP (cwR_D hd) hS 18 17 rfl rfl hi11 d_R_rounds_175 (fun H locs hP _ hS => ?_)
            replace hP : va_P D clS (cwR ad ta (tI s_6 16 v4.toNatClampNeg (1000000 : Int32))) H := hP
            refine lv_iinc (v := (v4 + (1 : Int32))) (lv' := [(4, .int (v4 + (1 : Int32))), (7, .long ((((s_6.2.1 16 v4.toNatClampNeg)).toInt64 * ((s_6.2.1 2 v4.toNatClampNeg)).toInt64) / r_6)), (5, .long r_6), (0, .ref (ad 0)), (1, .int v1), (2, .int v2), (3, .int v3)]) hx hb d_R_rounds_176 hl (k := 6) rfl rfl (by decide) rfl (fun ls hl => ?_)
            refine lv_goto (tgt := 95) hx hb d_R_rounds_179 (by decide) ?_
            exact ih _ _ _ _ _ _ hf _ _ hP hS _ (lv_sub hl [3, 4, 5, 6, 0] rfl) kk
        · replace hf := ti_neg hc hf
          refine lv_iconst (v := (1 : Int32)) hx hb d_R_rounds_154 (by decide) ?_
          refine lv_goto (tgt := 175) hx hb d_R_rounds_155 (by decide) ?_
          obtain ⟨hi12, hf⟩ := tg_of hf
          refine va_iast (f := s_6.2.1 16) hx hb hK hP (cwR_D hd) hS 18 17 rfl rfl hi12 d_R_rounds_175 (fun H locs hP _ hS => ?_)
          replace hP : va_P D clS (cwR ad ta (tI s_6 16 v4.toNatClampNeg (1 : Int32))) H := hP
          refine lv_iinc (v := (v4 + (1 : Int32))) (lv' := [(4, .int (v4 + (1 : Int32))), (7, .long ((((s_6.2.1 16 v4.toNatClampNeg)).toInt64 * ((s_6.2.1 2 v4.toNatClampNeg)).toInt64) / r_6)), (5, .long r_6), (0, .ref (ad 0)), (1, .int v1), (2, .int v2), (3, .int v3)]) hx hb d_R_rounds_176 hl (k := 6) rfl rfl (by decide) rfl (fun ls hl => ?_)
          refine lv_goto (tgt := 95) hx hb d_R_rounds_179 (by decide) ?_
          exact ih _ _ _ _ _ _ hf _ _ hP hS _ (lv_sub hl [3, 4, 5, 6, 0] rfl) kk
set_option maxHeartbeats 4000000 in
set_option maxRecDepth 100000 in
theorem mw_R_rounds_79 {p : Program} {l : Launch} {e : Env} {s : State} {m : MethodId} {args : Array Value} {below : List Frame} {meth : Method} {c : Code} {D : va_G} {ad : Nat → Nat} {ta : Nat → ClassId} (CX : tC p s m args meth c b_R_rounds (some .int) 9 R_R D clS (tyR ta)) (hd : tD 26 ad) : ∀ (k : Nat) (v1 : Int32) (v2 : Int32) (v3 : Int32) (σ : tS) (res : (Int32 × tS)), ml_R_rounds_79 k v1 v2 v3 σ = some res → ∀ (H : Heap) (locs : List Loc), va_P D clS (cwR ad ta σ) H → va_S (tA 26 ad) s.heap H locs → ∀ (ls : Array Slot), lv_has ls 9 [(0, .ref (ad 0)), (1, .int v1), (2, .int v2), (3, .int v3)] → W p l e rm_R_rounds s m args below meth c H locs 0 0 (MQ below (tQ D clS (cwR ad ta res.2) (some (.int res.1)) (tA 26 ad)) args s 0 0 (tA 26 ad)) (F0 m 79 ls []) := by
  obtain ⟨hx, hb, hr, hml, hown, ht, hlocks, hK, hN⟩ := id CX
  intro k
  induction k with
  | zero =>
    intro v1 v2 v3 σ res hf
    exact tn_no hf
  | succ k ih =>
    intro v1 v2 v3 σ res hf H locs hP hS ls hl
    replace hf : ms_R_rounds_79 (ml_R_rounds_79 k) v1 v2 v3 σ = some res := hf
    unfold ms_R_rounds_79 at hf
    refine lv_aload_n hx hb d_R_rounds_79 rfl (lv_at hl 0 rfl) ?_
    refine lv_iload_n hx hb d_R_rounds_80 rfl (lv_at hl 2 rfl) ?_
    obtain ⟨r_3, s_3, hq3, hf⟩ := tb2_of hf
    refine tr_calli (va_runV (C := R_R) (As := [.int v2]) (rest := []) ⟨hx, hb, hml, hown, ht⟩ (mc_R_isMet l hd hq3) ⟨(tw_cb (n := 1) ht wc_R_isMet wd_43 wd_840 ⟨rfl, rfl⟩ (by decide +kernel) ⟨(Nat.le_of_ble_eq_true rfl), (Nat.le_of_ble_eq_true rfl)⟩), ht _ wd_842, ht _ wd_22⟩ ⟨tP_blind, va_recv hK hP (ci := 8) (q0 := 0) rfl rfl, fun U hU hW => ⟨rfl, by rw [hU]; exact hP, va_K.moved hW.alike hK, tW_warm hW hN⟩⟩ rfl rfl hl.1 rfl (lv_room (Nat.le_of_ble_eq_true rfl)) d_R_rounds_81 ⟨Nat.zero_le _, Nat.zero_le _⟩) hS (fun _ h => h.elim) (fun _ h => h.elim) (fun H locs hP hS => ?_)
    refine lv_if_ne (tgt := 192) hx hb d_R_rounds_84 (by decide) (fun hc => ?_) (fun hc => ?_)
    · replace hf := ti_neg hc hf
      refine lv_aload_n hx hb d_R_rounds_192 rfl (lv_at hl 0 rfl) ?_
      refine lv_iload_n hx hb d_R_rounds_193 rfl (lv_at hl 2 rfl) ?_
      obtain ⟨r_4, s_4, hq4, hf⟩ := tb2_of hf
      refine tr_calli (va_runV (C := R_R) (As := [.int v2]) (rest := []) ⟨hx, hb, hml, hown, ht⟩ (mc_R_isMet l hd hq4) ⟨(tw_cb (n := 1) ht wc_R_isMet wd_43 wd_840 ⟨rfl, rfl⟩ (by decide +kernel) ⟨(Nat.le_of_ble_eq_true rfl), (Nat.le_of_ble_eq_true rfl)⟩), ht _ wd_842, ht _ wd_22⟩ ⟨tP_blind, va_recv hK hP (ci := 8) (q0 := 0) rfl rfl, fun U hU hW => ⟨rfl, by rw [hU]; exact hP, va_K.moved hW.alike hK, tW_warm hW hN⟩⟩ rfl rfl hl.1 rfl (lv_room (Nat.le_of_ble_eq_true rfl)) d_R_rounds_194 ⟨Nat.zero_le _, Nat.zero_le _⟩) hS (fun _ h => h.elim) (fun _ h => h.elim) (fun H locs hP hS => ?_)
      refine lv_if_eq (tgt := 204) hx hb d_R_rounds_197 (by decide) (fun hc => ?_) (fun hc => ?_)
      · replace hf := ti_pos hc hf
        refine lv_iload_n hx hb d_R_rounds_204 rfl (lv_at hl 3 rfl) ?_
        refine lv_ineg hx hb d_R_rounds_205 ?_
        obtain rfl := ts_of hf
        exact W.iret (v := (-v3)) hx hb hr (fun t ht hW => ⟨rfl, by rw [ht]; exact hP, hS.F ht⟩) hS.2.2 d_R_rounds_206
      · replace hf := ti_neg hc hf
        refine lv_iload_n hx hb d_R_rounds_200 rfl (lv_at hl 3 rfl) ?_
        refine lv_goto (tgt := 206) hx hb d_R_rounds_201 (by decide) ?_
        obtain rfl := ts_of hf
        exact W.iret (v := v3) hx hb hr (fun t ht hW => ⟨rfl, by rw [ht]; exact hP, hS.F ht⟩) hS.2.2 d_R_rounds_206
    · replace hf := ti_pos hc hf
      refine lv_iload_n hx hb d_R_rounds_87 rfl (lv_at hl 3 rfl) ?_
      refine lv_iload_n hx hb d_R_rounds_88 rfl (lv_at hl 1 rfl) ?_
      refine lv_icmp_ge (tgt := 192) hx hb d_R_rounds_89 (by decide) (fun hc => ?_) (fun hc => ?_)
      · replace hf := ti_pos hc hf
        refine lv_aload_n hx hb d_R_rounds_192 rfl (lv_at hl 0 rfl) ?_
        refine lv_iload_n hx hb d_R_rounds_193 rfl (lv_at hl 2 rfl) ?_
        obtain ⟨r_5, s_5, hq5, hf⟩ := tb2_of hf
        refine tr_calli (va_runV (C := R_R) (As := [.int v2]) (rest := []) ⟨hx, hb, hml, hown, ht⟩ (mc_R_isMet l hd hq5) ⟨(tw_cb (n := 1) ht wc_R_isMet wd_43 wd_840 ⟨rfl, rfl⟩ (by decide +kernel) ⟨(Nat.le_of_ble_eq_true rfl), (Nat.le_of_ble_eq_true rfl)⟩), ht _ wd_842, ht _ wd_22⟩ ⟨tP_blind, va_recv hK hP (ci := 8) (q0 := 0) rfl rfl, fun U hU hW => ⟨rfl, by rw [hU]; exact hP, va_K.moved hW.alike hK, tW_warm hW hN⟩⟩ rfl rfl hl.1 rfl (lv_room (Nat.le_of_ble_eq_true rfl)) d_R_rounds_194 ⟨Nat.zero_le _, Nat.zero_le _⟩) hS (fun _ h => h.elim) (fun _ h => h.elim) (fun H locs hP hS => ?_)
        refine lv_if_eq (tgt := 204) hx hb d_R_rounds_197 (by decide) (fun hc => ?_) (fun hc => ?_)
        · replace hf := ti_pos hc hf
          refine lv_iload_n hx hb d_R_rounds_204 rfl (lv_at hl 3 rfl) ?_
          refine lv_ineg hx hb d_R_rounds_205 ?_
          obtain rfl := ts_of hf
          exact W.iret (v := (-v3)) hx hb hr (fun t ht hW => ⟨rfl, by rw [ht]; exact hP, hS.F ht⟩) hS.2.2 d_R_rounds_206
        · replace hf := ti_neg hc hf
          refine lv_iload_n hx hb d_R_rounds_200 rfl (lv_at hl 3 rfl) ?_
          refine lv_goto (tgt := 206) hx hb d_R_rounds_201 (by decide) ?_
          obtain rfl := ts_of hf
          exact W.iret (v := v3) hx hb hr (fun t ht hW => ⟨rfl, by rw [ht]; exact hP, hS.F ht⟩) hS.2.2 d_R_rounds_206
      · replace hf := ti_neg hc hf
        refine lv_iconst (v := (0 : Int32)) hx hb d_R_rounds_92 (by decide) ?_
        refine lv_istore (lv' := [(4, .int (0 : Int32)), (0, .ref (ad 0)), (1, .int v1), (2, .int v2), (3, .int v3)]) hx hb d_R_rounds_93 hl (by decide) rfl (fun ls hl => ?_)
        obtain ⟨e_13, hq13, hf⟩ := tb1_of hf
        refine mw_R_rounds_95 CX hd _ _ _ _ _ _ _ hq13 _ _ hP hS _ (lv_sub hl [1, 2, 3, 4, 0] rfl) (fun H locs hP hS ls hl => ?_)
        refine lv_aload_n hx hb d_R_rounds_182 rfl (lv_at hl 0 rfl) ?_
        obtain ⟨s_14, hq14, hf⟩ := tb1_of hf
        refine tr_callv (va_runV (C := R_R) (As := []) (rest := []) ⟨hx, hb, hml, hown, ht⟩ (mc_R_oneRound l hd hq14) ⟨(tw_cb (n := 0) ht wc_R_oneRound wd_43 wd_831 ⟨rfl, rfl⟩ (by decide +kernel) ⟨(Nat.le_of_ble_eq_true rfl), (Nat.le_of_ble_eq_true rfl)⟩), ht _ wd_833, ht _ wd_20⟩ ⟨tP_blind, va_recv hK hP (ci := 8) (q0 := 0) rfl rfl, fun U hU hW => ⟨rfl, by rw [hU]; exact hP, va_K.moved hW.alike hK, tW_warm hW hN⟩⟩ rfl rfl hl.1 rfl (lv_room (Nat.le_of_ble_eq_true rfl)) d_R_rounds_183 ⟨Nat.zero_le _, Nat.zero_le _⟩) hS (fun _ h => h) (fun _ h => h) (fun H locs hP hS => ?_)
        refine lv_iinc (v := (e_13.2.2.1 + (1 : Int32))) (lv' := [(3, .int (e_13.2.2.1 + (1 : Int32))), (0, .ref (ad 0)), (1, .int e_13.1), (2, .int e_13.2.1), (4, .int e_13.2.2.2.1)]) hx hb d_R_rounds_186 hl (k := 3) rfl rfl (by decide) rfl (fun ls hl => ?_)
        refine lv_goto (tgt := 79) hx hb d_R_rounds_189 (by decide) ?_
        exact ih _ _ _ _ _ hf _ _ hP hS _ (lv_sub hl [1, 2, 3, 0] rfl)
set_option maxHeartbeats 4000000 in
set_option maxRecDepth 100000 in
theorem mw_R_rounds_40 {p : Program} {l : Launch} {e : Env} {s : State} {m : MethodId} {args : Array Value} {below : List Frame} {meth : Method} {c : Code} {D : va_G} {ad : Nat → Nat} {ta : Nat → ClassId} (CX : tC p s m args meth c b_R_rounds (some .int) 9 R_R D clS (tyR ta)) (hd : tD 26 ad) : ∀ (k : Nat) (v1 : Int32) (v2 : Int32) (v3 : Int32) (σ : tS) (res : (Int32 × tS)), ml_R_rounds_40 k v1 v2 v3 σ = some res → ∀ (H : Heap) (locs : List Loc), va_P D clS (cwR ad ta σ) H → va_S (tA 26 ad) s.heap H locs → ∀ (ls : Array Slot), lv_has ls 9 [(0, .ref (ad 0)), (1, .int v1), (2, .int v2), (3, .int v3)] → W p l e rm_R_rounds s m args below meth c H locs 0 0 (MQ below (tQ D clS (cwR ad ta res.2) (some (.int res.1)) (tA 26 ad)) args s 0 0 (tA 26 ad)) (F0 m 40 ls []) := by
  obtain ⟨hx, hb, hr, hml, hown, ht, hlocks, hK, hN⟩ := id CX
  intro k
  induction k with
  | zero =>
    intro v1 v2 v3 σ res hf
    exact tn_no hf
  | succ k ih =>
    intro v1 v2 v3 σ res hf H locs hP hS ls hl
    replace hf : ms_R_rounds_40 (ml_R_rounds_40 k) v1 v2 v3 σ = some res := hf
    unfold ms_R_rounds_40 at hf
    refine lv_iload_n hx hb d_R_rounds_40 rfl (lv_at hl 3 rfl) ?_
    refine lv_bipush (v := (6 : Int32)) hx hb d_R_rounds_41 (by decide) ?_
    refine lv_icmp_ge (tgt := 73) hx hb d_R_rounds_43 (by decide) (fun hc => ?_) (fun hc => ?_)
    · replace hf := ti_pos hc hf
      refine lv_iconst (v := (1 : Int32)) hx hb d_R_rounds_73 (by decide) ?_
      refine lv_istore_n (lv' := [(3, .int (1 : Int32)), (0, .ref (ad 0)), (1, .int v1), (2, .int v2)]) hx hb d_R_rounds_74 rfl hl (by decide) rfl (fun ls hl => ?_)
      refine lv_aload_n hx hb d_R_rounds_75 rfl (lv_at hl 1 rfl) ?_
      obtain ⟨s_2, hq2, hf⟩ := tb1_of hf
      refine tr_callv (va_runV (C := R_R) (As := []) (rest := []) ⟨hx, hb, hml, hown, ht⟩ (mc_R_oneRound l hd hq2) ⟨(tw_cb (n := 0) ht wc_R_oneRound wd_43 wd_831 ⟨rfl, rfl⟩ (by decide +kernel) ⟨(Nat.le_of_ble_eq_true rfl), (Nat.le_of_ble_eq_true rfl)⟩), ht _ wd_833, ht _ wd_20⟩ ⟨tP_blind, va_recv hK hP (ci := 8) (q0 := 0) rfl rfl, fun U hU hW => ⟨rfl, by rw [hU]; exact hP, va_K.moved hW.alike hK, tW_warm hW hN⟩⟩ rfl rfl hl.1 rfl (lv_room (Nat.le_of_ble_eq_true rfl)) d_R_rounds_76 ⟨Nat.zero_le _, Nat.zero_le _⟩) hS (fun _ h => h) (fun _ h => h) (fun H locs hP hS => ?_)
      exact mw_R_rounds_79 CX hd _ _ _ _ _ _ hf _ _ hP hS _ (lv_sub hl [1, 2, 3, 0] rfl)
    · replace hf := ti_neg hc hf
      refine lv_aload_n hx hb d_R_rounds_46 rfl (lv_at hl 0 rfl) ?_
      refine va_get (ci := 8) (v := .ref (ad 18)) (C := R_R) (T := F_R) (N := 32) hx hb ht iw_R hown hK hP 0 rfl rfl 21 (by decide) (ht _ wd_698) (fun _ h9 => h9) rfl d_R_rounds_47 ?_
      refine lv_iload_n hx hb d_R_rounds_50 rfl (lv_at hl 3 rfl) ?_
      refine lv_iload_n hx hb d_R_rounds_51 rfl (lv_at hl 3 rfl) ?_
      refine lv_aload_n hx hb d_R_rounds_52 rfl (lv_at hl 0 rfl) ?_
      refine va_get (ci := 8) (v := .int (σ.1 2)) (C := R_R) (T := F_R) (N := 32) hx hb ht iw_R hown hK hP 0 rfl rfl 2 (by decide) (ht _ wd_679) (fun _ h9 => h9) rfl d_R_rounds_53 ?_
      refine lv_icmp_ge (tgt := 65) hx hb d_R_rounds_56 (by decide) (fun hc => ?_) (fun hc => ?_)
      · replace hf := ti_pos hc hf
        refine lv_iconst (v := ((-1) : Int32)) hx hb d_R_rounds_65 (by decide) ?_
        obtain ⟨hi15, hf⟩ := tg_of hf
        refine va_iast (f := σ.2.1 16) hx hb hK hP (cwR_D hd) hS 18 17 rfl rfl hi15 d_R_rounds_66 (fun H locs hP _ hS => ?_)
        replace hP : va_P D clS (cwR ad ta (tI σ 16 v3.toNatClampNeg ((-1) : Int32))) H := hP
        refine lv_iinc (v := (v3 + (1 : Int32))) (lv' := [(3, .int (v3 + (1 : Int32))), (0, .ref (ad 0)), (1, .int v1), (2, .int v2)]) hx hb d_R_rounds_67 hl (k := 3) rfl rfl (by decide) rfl (fun ls hl => ?_)
        refine lv_goto (tgt := 40) hx hb d_R_rounds_70 (by decide) ?_
        exact ih _ _ _ _ _ hf _ _ hP hS _ (lv_sub hl [1, 2, 3, 0] rfl)
      · replace hf := ti_neg hc hf
        refine lv_sipush (v := (1000 : Int32)) hx hb d_R_rounds_59 (by decide) ?_
        refine lv_goto (tgt := 66) hx hb d_R_rounds_62 (by decide) ?_
        obtain ⟨hi16, hf⟩ := tg_of hf
        refine va_iast (f := σ.2.1 16) hx hb hK hP (cwR_D hd) hS 18 17 rfl rfl hi16 d_R_rounds_66 (fun H locs hP _ hS => ?_)
        replace hP : va_P D clS (cwR ad ta (tI σ 16 v3.toNatClampNeg (1000 : Int32))) H := hP
        refine lv_iinc (v := (v3 + (1 : Int32))) (lv' := [(3, .int (v3 + (1 : Int32))), (0, .ref (ad 0)), (1, .int v1), (2, .int v2)]) hx hb d_R_rounds_67 hl (k := 3) rfl rfl (by decide) rfl (fun ls hl => ?_)
        refine lv_goto (tgt := 40) hx hb d_R_rounds_70 (by decide) ?_
        exact ih _ _ _ _ _ hf _ _ hP hS _ (lv_sub hl [1, 2, 3, 0] rfl)
set_option maxHeartbeats 4000000 in
set_option maxRecDepth 100000 in
theorem mc_R_rounds (l : Launch) {D : va_G} {ad : Nat → Nat} {ta : Nat → ClassId} (hd : tD 26 ad) {σ σ' : tS} {p0 : Int32} {p1 : Int32} {r : Int32} (hf : mf_R_rounds p0 p1 σ = some (r, σ')) : Met l y_R_rounds (.code y_R_rounds b_R_rounds 9 (some .int) :: tw) rm_R_rounds (tP D clS (tyR ta) (cwR ad ta σ) [.ref (ad 0), .int p0, .int p1]) (tQ D clS (cwR ad ta σ') (some (.int r)) (tA 26 ad)) 0 0 (tA 26 ad) := by
  refine Met.ofW (cc := b_R_rounds) (maxL := 9) (ret := (some .int)) (by decide) rfl ?_
  intro p e s m args below meth c s₁ B hml hv
  obtain ⟨rfl, hP, hK, hN⟩ := hv
  have hx := B.exec
  have hb := B.bytes
  have hr := B.returns
  have ht : ∀ w ∈ tw, w.before [.ref (ad 0), .int p0, .int p1].toArray s = true := fun w h => atoms_spec (ws := (.code y_R_rounds b_R_rounds 9 (some .int) :: tw)) B.pre w (List.mem_cons_of_mem _ h)
  have hown : s.vm.findClass R_R = some m.cls := findClass_of_methodNamed B.named
  have hlocks := B.notSynchronized
  have CX : tC p s m [.ref (ad 0), .int p0, .int p1].toArray meth c b_R_rounds (some .int) 9 R_R D clS (tyR ta) := ⟨hx, hb, hr, hml, hown, ht, hlocks, hK, hN⟩
  have hS : va_S (tA 26 ad) s.heap s.heap [] := va_S.rf
  have hl := lv_entry ([.ref (ad 0), .int p0, .int p1]) (n := 9) (Nat.le_of_ble_eq_true rfl)
  rw [lg_entry_eq]
  generalize (lg_sl ([.ref (ad 0), .int p0, .int p1]) ++ List.replicate (9 - (lg_sl ([.ref (ad 0), .int p0, .int p1])).length) Slot.unset).toArray = ls at hl ⊢
  replace hl : lv_has ls 9 [(0, .ref (ad 0)), (1, .int p0), (2, .int p1)] := hl
  unfold mf_R_rounds at hf
  refine lv_aload_n hx hb d_R_rounds_0 rfl (lv_at hl 0 rfl) ?_
  refine lv_iload_n hx hb d_R_rounds_1 rfl (lv_at hl 1 rfl) ?_
  refine lv_iconst (v := (1 : Int32)) hx hb d_R_rounds_2 (by decide) ?_
  refine lv_bipush (v := (50 : Int32)) hx hb d_R_rounds_3 (by decide) ?_
  obtain ⟨r_1, s_1, hq1, hf⟩ := tb2_of hf
  refine tr_calli (va_runS (As := [.int p0, .int (1 : Int32), .int (50 : Int32)]) (rest := [.ref (ad 0)]) ⟨hx, hb, hml, hown, ht⟩ (mc_R_isIn l hd hq1) ⟨(tw_cb (n := 3) ht wc_R_isIn wd_43 wd_790 ⟨rfl, rfl⟩ (by decide +kernel) ⟨(Nat.le_of_ble_eq_true rfl), (Nat.le_of_ble_eq_true rfl)⟩), ht _ wd_791⟩ ⟨tP_blind, fun U hU hW => ⟨rfl, by rw [hU]; exact hP, va_K.moved hW.alike hK, tW_warm hW hN⟩⟩ rfl rfl hl.1 rfl (lv_room (Nat.le_of_ble_eq_true rfl)) d_R_rounds_5 ⟨Nat.zero_le _, Nat.zero_le _⟩) hS (fun _ h => h.elim) (fun _ h => h.elim) (fun H locs hP hS => ?_)
  refine lv_if_eq (tgt := 25) hx hb d_R_rounds_8 (by decide) (fun hc => ?_) (fun hc => ?_)
  · replace hf := ti_pos hc hf
    refine lv_iconst (v := (1 : Int32)) hx hb d_R_rounds_25 (by decide) ?_
    refine va_put (ci := 8) (v := .int (1 : Int32)) (ty := .int) (C := R_R) (T := F_R) (N := 32) hx hb ht iw_R ft_R to_R nm_R hown hK hP (cwR_D hd) hS 0 rfl rfl 0 (by decide) (ht _ wd_677) (fun _ h9 => h9) rfl (by decide +kernel) rfl rfl (Nat.le_of_ble_eq_true rfl) d_R_rounds_26 (fun H locs hP _ hS => ?_)
    replace hP : va_P D clS (cwR ad ta (tF s_1 0 (1 : Int32))) H := hP
    refine lv_aload_n hx hb d_R_rounds_29 rfl (lv_at hl 0 rfl) ?_
    refine va_get (ci := 8) (v := .int (1 : Int32)) (C := R_R) (T := F_R) (N := 32) hx hb ht iw_R hown hK hP 0 rfl rfl 0 (by decide) (ht _ wd_677) (fun _ h9 => h9) rfl d_R_rounds_30 ?_
    refine lv_if_le (tgt := 38) hx hb d_R_rounds_33 (by decide) (fun hc => ?_) (fun hc => ?_)
    · replace hf := ti_pos hc hf
      refine lv_iconst (v := (0 : Int32)) hx hb d_R_rounds_38 (by decide) ?_
      refine lv_istore_n (lv' := [(3, .int (0 : Int32)), (0, .ref (ad 0)), (1, .int p0), (2, .int p1)]) hx hb d_R_rounds_39 rfl hl (by decide) rfl (fun ls hl => ?_)
      exact mw_R_rounds_40 CX hd _ _ _ _ _ _ hf _ _ hP hS _ (lv_sub hl [1, 2, 3, 0] rfl)
    · replace hf := ti_neg hc hf
      refine lv_iconst (v := (0 : Int32)) hx hb d_R_rounds_36 (by decide) ?_
      obtain ⟨rfl, rfl⟩ := tp_of hf
      exact W.iret (v := (0 : Int32)) hx hb hr (fun t ht hW => ⟨rfl, by rw [ht]; exact hP, hS.F ht⟩) hS.2.2 d_R_rounds_37
  · replace hf := ti_neg hc hf
    refine lv_iload_n hx hb d_R_rounds_11 rfl (lv_at hl 2 rfl) ?_
    refine lv_iconst (v := (0 : Int32)) hx hb d_R_rounds_12 (by decide) ?_
    refine lv_ldc (v := (100000 : Int32)) hx hb hown (ht _ wd_793) d_R_rounds_13 ?_
    obtain ⟨r_17, s_17, hq17, hf⟩ := tb2_of hf
    refine tr_calli (va_runS (As := [.int p1, .int (0 : Int32), .int (100000 : Int32)]) (rest := [.ref (ad 0)]) ⟨hx, hb, hml, hown, ht⟩ (mc_R_isIn l hd hq17) ⟨(tw_cb (n := 3) ht wc_R_isIn wd_43 wd_790 ⟨rfl, rfl⟩ (by decide +kernel) ⟨(Nat.le_of_ble_eq_true rfl), (Nat.le_of_ble_eq_true rfl)⟩), ht _ wd_791⟩ ⟨tP_blind, fun U hU hW => ⟨rfl, by rw [hU]; exact hP, va_K.moved hW.alike hK, tW_warm hW hN⟩⟩ rfl rfl hl.1 rfl (lv_room (Nat.le_of_ble_eq_true rfl)) d_R_rounds_15 ⟨Nat.zero_le _, Nat.zero_le _⟩) hS (fun _ h => h.elim) (fun _ h => h.elim) (fun H locs hP hS => ?_)
    refine lv_if_eq (tgt := 25) hx hb d_R_rounds_18 (by decide) (fun hc => ?_) (fun hc => ?_)
    · replace hf := ti_pos hc hf
      refine lv_iconst (v := (1 : Int32)) hx hb d_R_rounds_25 (by decide) ?_
      refine va_put (ci := 8) (v := .int (1 : Int32)) (ty := .int) (C := R_R) (T := F_R) (N := 32) hx hb ht iw_R ft_R to_R nm_R hown hK hP (cwR_D hd) hS 0 rfl rfl 0 (by decide) (ht _ wd_677) (fun _ h9 => h9) rfl (by decide +kernel) rfl rfl (Nat.le_of_ble_eq_true rfl) d_R_rounds_26 (fun H locs hP _ hS => ?_)
      replace hP : va_P D clS (cwR ad ta (tF s_17 0 (1 : Int32))) H := hP
      refine lv_aload_n hx hb d_R_rounds_29 rfl (lv_at hl 0 rfl) ?_
      refine va_get (ci := 8) (v := .int (1 : Int32)) (C := R_R) (T := F_R) (N := 32) hx hb ht iw_R hown hK hP 0 rfl rfl 0 (by decide) (ht _ wd_677) (fun _ h9 => h9) rfl d_R_rounds_30 ?_
      refine lv_if_le (tgt := 38) hx hb d_R_rounds_33 (by decide) (fun hc => ?_) (fun hc => ?_)
      · replace hf := ti_pos hc hf
        refine lv_iconst (v := (0 : Int32)) hx hb d_R_rounds_38 (by decide) ?_
        refine lv_istore_n (lv' := [(3, .int (0 : Int32)), (0, .ref (ad 0)), (1, .int p0), (2, .int p1)]) hx hb d_R_rounds_39 rfl hl (by decide) rfl (fun ls hl => ?_)
        exact mw_R_rounds_40 CX hd _ _ _ _ _ _ hf _ _ hP hS _ (lv_sub hl [1, 2, 3, 0] rfl)
      · replace hf := ti_neg hc hf
        refine lv_iconst (v := (0 : Int32)) hx hb d_R_rounds_36 (by decide) ?_
        obtain ⟨rfl, rfl⟩ := tp_of hf
        exact W.iret (v := (0 : Int32)) hx hb hr (fun t ht hW => ⟨rfl, by rw [ht]; exact hP, hS.F ht⟩) hS.2.2 d_R_rounds_37
    · replace hf := ti_neg hc hf
      refine lv_iconst (v := (0 : Int32)) hx hb d_R_rounds_21 (by decide) ?_
      refine lv_goto (tgt := 26) hx hb d_R_rounds_22 (by decide) ?_
      refine va_put (ci := 8) (v := .int (0 : Int32)) (ty := .int) (C := R_R) (T := F_R) (N := 32) hx hb ht iw_R ft_R to_R nm_R hown hK hP (cwR_D hd) hS 0 rfl rfl 0 (by decide) (ht _ wd_677) (fun _ h9 => h9) rfl (by decide +kernel) rfl rfl (Nat.le_of_ble_eq_true rfl) d_R_rounds_26 (fun H locs hP _ hS => ?_)
      replace hP : va_P D clS (cwR ad ta (tF s_17 0 (0 : Int32))) H := hP
      refine lv_aload_n hx hb d_R_rounds_29 rfl (lv_at hl 0 rfl) ?_
      refine va_get (ci := 8) (v := .int (0 : Int32)) (C := R_R) (T := F_R) (N := 32) hx hb ht iw_R hown hK hP 0 rfl rfl 0 (by decide) (ht _ wd_677) (fun _ h9 => h9) rfl d_R_rounds_30 ?_
      refine lv_if_le (tgt := 38) hx hb d_R_rounds_33 (by decide) (fun hc => ?_) (fun hc => ?_)
      · replace hf := ti_pos hc hf
        refine lv_iconst (v := (0 : Int32)) hx hb d_R_rounds_38 (by decide) ?_
        refine lv_istore_n (lv' := [(3, .int (0 : Int32)), (0, .ref (ad 0)), (1, .int p0), (2, .int p1)]) hx hb d_R_rounds_39 rfl hl (by decide) rfl (fun ls hl => ?_)
        exact mw_R_rounds_40 CX hd _ _ _ _ _ _ hf _ _ hP hS _ (lv_sub hl [1, 2, 3, 0] rfl)
      · replace hf := ti_neg hc hf
        refine lv_iconst (v := (0 : Int32)) hx hb d_R_rounds_36 (by decide) ?_
        obtain ⟨rfl, rfl⟩ := tp_of hf
        exact W.iret (v := (0 : Int32)) hx hb hr (fun t ht hW => ⟨rfl, by rw [ht]; exact hP, hS.F ht⟩) hS.2.2 d_R_rounds_37
abbrev rm_R_trips : Room := { frames := 3, cells := 0, slots := 0, locals := 65 }
set_option maxHeartbeats 4000000 in
set_option maxRecDepth 100000 in
theorem mc_R_trips (l : Launch) {D : va_G} {ad : Nat → Nat} {ta : Nat → ClassId} (hd : tD 26 ad) {σ σ' : tS} {p0 : Int32} {p1 : Int32} {r : Int32} (hf : mf_R_trips p0 p1 σ = some (r, σ')) : Met l y_R_trips (.code y_R_trips b_R_trips 3 (some .int) :: tw) rm_R_trips (tP D clS (tyR ta) (cwR ad ta σ) [.ref (ad 0), .int p0, .int p1]) (tQ D clS (cwR ad ta σ') (some (.int r)) (tA 26 ad)) 0 0 (tA 26 ad) := by
  refine Met.ofW (cc := b_R_trips) (maxL := 3) (ret := (some .int)) (by decide) rfl ?_
  intro p e s m args below meth c s₁ B hml hv
  obtain ⟨rfl, hP, hK, hN⟩ := hv
  have hx := B.exec
  have hb := B.bytes
  have hr := B.returns
  have ht : ∀ w ∈ tw, w.before [.ref (ad 0), .int p0, .int p1].toArray s = true := fun w h => atoms_spec (ws := (.code y_R_trips b_R_trips 3 (some .int) :: tw)) B.pre w (List.mem_cons_of_mem _ h)
  have hown : s.vm.findClass R_R = some m.cls := findClass_of_methodNamed B.named
  have hlocks := B.notSynchronized
  have CX : tC p s m [.ref (ad 0), .int p0, .int p1].toArray meth c b_R_trips (some .int) 3 R_R D clS (tyR ta) := ⟨hx, hb, hr, hml, hown, ht, hlocks, hK, hN⟩
  have hS : va_S (tA 26 ad) s.heap s.heap [] := va_S.rf
  have hl := lv_entry ([.ref (ad 0), .int p0, .int p1]) (n := 3) (Nat.le_of_ble_eq_true rfl)
  rw [lg_entry_eq]
  generalize (lg_sl ([.ref (ad 0), .int p0, .int p1]) ++ List.replicate (3 - (lg_sl ([.ref (ad 0), .int p0, .int p1])).length) Slot.unset).toArray = ls at hl ⊢
  replace hl : lv_has ls 3 [(0, .ref (ad 0)), (1, .int p0), (2, .int p1)] := hl
  unfold mf_R_trips at hf
  refine lv_aload_n hx hb d_R_trips_0 rfl (lv_at hl 0 rfl) ?_
  refine lv_aload_n hx hb d_R_trips_1 rfl (lv_at hl 0 rfl) ?_
  refine lv_iload_n hx hb d_R_trips_2 rfl (lv_at hl 1 rfl) ?_
  refine lv_iload_n hx hb d_R_trips_3 rfl (lv_at hl 2 rfl) ?_
  obtain ⟨r_1, s_1, hq1, hf⟩ := tb2_of hf
  refine tr_calli (va_runV (C := R_R) (As := [.int p0, .int p1]) (rest := [.ref (ad 0)]) ⟨hx, hb, hml, hown, ht⟩ (mc_R_isPair l hd hq1) ⟨(tw_cb (n := 2) ht wc_R_isPair wd_43 wd_815 ⟨rfl, rfl⟩ (by decide +kernel) ⟨(Nat.le_of_ble_eq_true rfl), (Nat.le_of_ble_eq_true rfl)⟩), ht _ wd_817, ht _ wd_18⟩ ⟨tP_blind, va_recv hK hP (ci := 8) (q0 := 0) rfl rfl, fun U hU hW => ⟨rfl, by rw [hU]; exact hP, va_K.moved hW.alike hK, tW_warm hW hN⟩⟩ rfl rfl hl.1 rfl (lv_room (Nat.le_of_ble_eq_true rfl)) d_R_trips_4 ⟨Nat.zero_le _, Nat.zero_le _⟩) hS (fun _ h => h.elim) (fun _ h => h.elim) (fun H locs hP hS => ?_)
  refine lv_if_eq (tgt := 14) hx hb d_R_trips_7 (by decide) (fun hc => ?_) (fun hc => ?_)
  · replace hf := ti_pos hc hf
    refine lv_iconst (v := (1 : Int32)) hx hb d_R_trips_14 (by decide) ?_
    refine va_put (ci := 8) (v := .int (1 : Int32)) (ty := .int) (C := R_R) (T := F_R) (N := 32) hx hb ht iw_R ft_R to_R nm_R hown hK hP (cwR_D hd) hS 0 rfl rfl 0 (by decide) (ht _ wd_677) (fun _ h9 => h9) rfl (by decide +kernel) rfl rfl (Nat.le_of_ble_eq_true rfl) d_R_trips_15 (fun H locs hP _ hS => ?_)
    replace hP : va_P D clS (cwR ad ta (tF s_1 0 (1 : Int32))) H := hP
    refine lv_aload_n hx hb d_R_trips_18 rfl (lv_at hl 0 rfl) ?_
    refine va_get (ci := 8) (v := .int (1 : Int32)) (C := R_R) (T := F_R) (N := 32) hx hb ht iw_R hown hK hP 0 rfl rfl 0 (by decide) (ht _ wd_677) (fun _ h9 => h9) rfl d_R_trips_19 ?_
    refine lv_if_le (tgt := 29) hx hb d_R_trips_22 (by decide) (fun hc => ?_) (fun hc => ?_)
    · replace hf := ti_pos hc hf
      refine lv_aload_n hx hb d_R_trips_29 rfl (lv_at hl 0 rfl) ?_
      refine va_get (ci := 8) (v := .ref (ad 14)) (C := R_R) (T := F_R) (N := 32) hx hb ht iw_R hown hK hP 0 rfl rfl 17 (by decide) (ht _ wd_694) (fun _ h9 => h9) rfl d_R_trips_30 ?_
      refine lv_bipush (v := (6 : Int32)) hx hb d_R_trips_33 (by decide) ?_
      refine lv_iload_n hx hb d_R_trips_35 rfl (lv_at hl 1 rfl) ?_
      refine lv_imul hx hb d_R_trips_36 ?_
      refine lv_iload_n hx hb d_R_trips_37 rfl (lv_at hl 2 rfl) ?_
      refine lv_iadd hx hb d_R_trips_38 ?_
      obtain ⟨hi2, hf⟩ := tg_of hf
      refine va_iald (f := s_1.2.1 12) hx hb hK hP 14 13 rfl rfl hi2 d_R_trips_39 ?_
      obtain ⟨rfl, rfl⟩ := tp_of hf
      exact W.iret (v := (s_1.2.1 12 (((6 : Int32) * p0) + p1).toNatClampNeg)) hx hb hr (fun t ht hW => ⟨rfl, by rw [ht]; exact hP, hS.F ht⟩) hS.2.2 d_R_trips_40
    · replace hf := ti_neg hc hf
      refine lv_iconst (v := (0 : Int32)) hx hb d_R_trips_25 (by decide) ?_
      refine lv_goto (tgt := 40) hx hb d_R_trips_26 (by decide) ?_
      obtain ⟨rfl, rfl⟩ := tp_of hf
      exact W.iret (v := (0 : Int32)) hx hb hr (fun t ht hW => ⟨rfl, by rw [ht]; exact hP, hS.F ht⟩) hS.2.2 d_R_trips_40
  · replace hf := ti_neg hc hf
    refine lv_iconst (v := (0 : Int32)) hx hb d_R_trips_10 (by decide) ?_
    refine lv_goto (tgt := 15) hx hb d_R_trips_11 (by decide) ?_
    refine va_put (ci := 8) (v := .int (0 : Int32)) (ty := .int) (C := R_R) (T := F_R) (N := 32) hx hb ht iw_R ft_R to_R nm_R hown hK hP (cwR_D hd) hS 0 rfl rfl 0 (by decide) (ht _ wd_677) (fun _ h9 => h9) rfl (by decide +kernel) rfl rfl (Nat.le_of_ble_eq_true rfl) d_R_trips_15 (fun H locs hP _ hS => ?_)
    replace hP : va_P D clS (cwR ad ta (tF s_1 0 (0 : Int32))) H := hP
    refine lv_aload_n hx hb d_R_trips_18 rfl (lv_at hl 0 rfl) ?_
    refine va_get (ci := 8) (v := .int (0 : Int32)) (C := R_R) (T := F_R) (N := 32) hx hb ht iw_R hown hK hP 0 rfl rfl 0 (by decide) (ht _ wd_677) (fun _ h9 => h9) rfl d_R_trips_19 ?_
    refine lv_if_le (tgt := 29) hx hb d_R_trips_22 (by decide) (fun hc => ?_) (fun hc => ?_)
    · replace hf := ti_pos hc hf
      refine lv_aload_n hx hb d_R_trips_29 rfl (lv_at hl 0 rfl) ?_
      refine va_get (ci := 8) (v := .ref (ad 14)) (C := R_R) (T := F_R) (N := 32) hx hb ht iw_R hown hK hP 0 rfl rfl 17 (by decide) (ht _ wd_694) (fun _ h9 => h9) rfl d_R_trips_30 ?_
      refine lv_bipush (v := (6 : Int32)) hx hb d_R_trips_33 (by decide) ?_
      refine lv_iload_n hx hb d_R_trips_35 rfl (lv_at hl 1 rfl) ?_
      refine lv_imul hx hb d_R_trips_36 ?_
      refine lv_iload_n hx hb d_R_trips_37 rfl (lv_at hl 2 rfl) ?_
      refine lv_iadd hx hb d_R_trips_38 ?_
      obtain ⟨hi3, hf⟩ := tg_of hf
      refine va_iald (f := s_1.2.1 12) hx hb hK hP 14 13 rfl rfl hi3 d_R_trips_39 ?_
      obtain ⟨rfl, rfl⟩ := tp_of hf
      exact W.iret (v := (s_1.2.1 12 (((6 : Int32) * p0) + p1).toNatClampNeg)) hx hb hr (fun t ht hW => ⟨rfl, by rw [ht]; exact hP, hS.F ht⟩) hS.2.2 d_R_trips_40
    · replace hf := ti_neg hc hf
      refine lv_iconst (v := (0 : Int32)) hx hb d_R_trips_25 (by decide) ?_
      refine lv_goto (tgt := 40) hx hb d_R_trips_26 (by decide) ?_
      obtain ⟨rfl, rfl⟩ := tp_of hf
      exact W.iret (v := (0 : Int32)) hx hb hr (fun t ht hW => ⟨rfl, by rw [ht]; exact hP, hS.F ht⟩) hS.2.2 d_R_trips_40
abbrev rm_R_sum : Room := { frames := 2, cells := 0, slots := 0, locals := 43 }
set_option maxHeartbeats 4000000 in
set_option maxRecDepth 100000 in
theorem mw_R_sum_40 {p : Program} {l : Launch} {e : Env} {s : State} {m : MethodId} {args : Array Value} {below : List Frame} {meth : Method} {c : Code} {D : va_G} {ad : Nat → Nat} {ta : Nat → ClassId} (CX : tC p s m args meth c b_R_sum (some .int) 5 R_R D clS (tyR ta)) (hd : tD 26 ad) : ∀ (k : Nat) (v1 : Int32) (v2 : Int32) (v3 : Int32) (v4 : Int32) (σ : tS) (res : (Int32 × tS)), ml_R_sum_40 k v1 v2 v3 v4 σ = some res → ∀ (H : Heap) (locs : List Loc), va_P D clS (cwR ad ta σ) H → va_S (tA 26 ad) s.heap H locs → ∀ (ls : Array Slot), lv_has ls 5 [(0, .ref (ad 0)), (1, .int v1), (2, .int v2), (3, .int v3), (4, .int v4)] → W p l e rm_R_sum s m args below meth c H locs 0 0 (MQ below (tQ D clS (cwR ad ta res.2) (some (.int res.1)) (tA 26 ad)) args s 0 0 (tA 26 ad)) (F0 m 40 ls []) := by
  obtain ⟨hx, hb, hr, hml, hown, ht, hlocks, hK, hN⟩ := id CX
  intro k
  induction k with
  | zero =>
    intro v1 v2 v3 v4 σ res hf
    exact tn_no hf
  | succ k ih =>
    intro v1 v2 v3 v4 σ res hf H locs hP hS ls hl
    replace hf : ms_R_sum_40 (ml_R_sum_40 k) v1 v2 v3 v4 σ = some res := hf
    unfold ms_R_sum_40 at hf
    refine lv_iload hx hb d_R_sum_40 (lv_at hl 4 rfl) ?_
    refine lv_aload_n hx hb d_R_sum_42 rfl (lv_at hl 0 rfl) ?_
    refine va_get (ci := 8) (v := .int (σ.1 2)) (C := R_R) (T := F_R) (N := 32) hx hb ht iw_R hown hK hP 0 rfl rfl 2 (by decide) (ht _ wd_679) (fun _ h9 => h9) rfl d_R_sum_43 ?_
    refine lv_icmp_ge (tgt := 89) hx hb d_R_sum_46 (by decide) (fun hc => ?_) (fun hc => ?_)
    · replace hf := ti_pos hc hf
      refine lv_iload_n hx hb d_R_sum_89 rfl (lv_at hl 3 rfl) ?_
      obtain rfl := ts_of hf
      exact W.iret (v := v3) hx hb hr (fun t ht hW => ⟨rfl, by rw [ht]; exact hP, hS.F ht⟩) hS.2.2 d_R_sum_90
    · replace hf := ti_neg hc hf
      refine lv_iload_n hx hb d_R_sum_49 rfl (lv_at hl 3 rfl) ?_
      refine lv_iload_n hx hb d_R_sum_50 rfl (lv_at hl 2 rfl) ?_
      refine lv_if_ne (tgt := 69) hx hb d_R_sum_51 (by decide) (fun hc => ?_) (fun hc => ?_)
      · replace hf := ti_neg hc hf
        refine lv_aload_n hx hb d_R_sum_69 rfl (lv_at hl 0 rfl) ?_
        refine va_get (ci := 8) (v := .ref (ad 14)) (C := R_R) (T := F_R) (N := 32) hx hb ht iw_R hown hK hP 0 rfl rfl 17 (by decide) (ht _ wd_694) (fun _ h9 => h9) rfl d_R_sum_70 ?_
        refine lv_bipush (v := (6 : Int32)) hx hb d_R_sum_73 (by decide) ?_
        refine lv_iload hx hb d_R_sum_75 (lv_at hl 4 rfl) ?_
        refine lv_imul hx hb d_R_sum_77 ?_
        refine lv_iload_n hx hb d_R_sum_78 rfl (lv_at hl 1 rfl) ?_
        refine lv_iadd hx hb d_R_sum_79 ?_
        obtain ⟨hi2, hf⟩ := tg_of hf
        refine va_iald (f := σ.2.1 12) hx hb hK hP 14 13 rfl rfl hi2 d_R_sum_80 ?_
        refine lv_iadd hx hb d_R_sum_81 ?_
        refine lv_istore_n (lv' := [(3, .int (v3 + (σ.2.1 12 (((6 : Int32) * v4) + v1).toNatClampNeg))), (0, .ref (ad 0)), (1, .int v1), (2, .int v2), (4, .int v4)]) hx hb d_R_sum_82 rfl hl (by decide) rfl (fun ls hl => ?_)
        refine lv_iinc (v := (v4 + (1 : Int32))) (lv' := [(4, .int (v4 + (1 : Int32))), (3, .int (v3 + (σ.2.1 12 (((6 : Int32) * v4) + v1).toNatClampNeg))), (0, .ref (ad 0)), (1, .int v1), (2, .int v2)]) hx hb d_R_sum_83 hl (k := 4) rfl rfl (by decide) rfl (fun ls hl => ?_)
        refine lv_goto (tgt := 40) hx hb d_R_sum_86 (by decide) ?_
        exact ih _ _ _ _ _ _ hf _ _ hP hS _ (lv_sub hl [2, 3, 4, 1, 0] rfl)
      · replace hf := ti_pos hc hf
        refine lv_aload_n hx hb d_R_sum_54 rfl (lv_at hl 0 rfl) ?_
        refine va_get (ci := 8) (v := .ref (ad 14)) (C := R_R) (T := F_R) (N := 32) hx hb ht iw_R hown hK hP 0 rfl rfl 17 (by decide) (ht _ wd_694) (fun _ h9 => h9) rfl d_R_sum_55 ?_
        refine lv_bipush (v := (6 : Int32)) hx hb d_R_sum_58 (by decide) ?_
        refine lv_iload_n hx hb d_R_sum_60 rfl (lv_at hl 1 rfl) ?_
        refine lv_imul hx hb d_R_sum_61 ?_
        refine lv_iload hx hb d_R_sum_62 (lv_at hl 4 rfl) ?_
        refine lv_iadd hx hb d_R_sum_64 ?_
        obtain ⟨hi3, hf⟩ := tg_of hf
        refine va_iald (f := σ.2.1 12) hx hb hK hP 14 13 rfl rfl hi3 d_R_sum_65 ?_
        refine lv_goto (tgt := 81) hx hb d_R_sum_66 (by decide) ?_
        refine lv_iadd hx hb d_R_sum_81 ?_
        refine lv_istore_n (lv' := [(3, .int (v3 + (σ.2.1 12 (((6 : Int32) * v1) + v4).toNatClampNeg))), (0, .ref (ad 0)), (1, .int v1), (2, .int v2), (4, .int v4)]) hx hb d_R_sum_82 rfl hl (by decide) rfl (fun ls hl => ?_)
        refine lv_iinc (v := (v4 + (1 : Int32))) (lv' := [(4, .int (v4 + (1 : Int32))), (3, .int (v3 + (σ.2.1 12 (((6 : Int32) * v1) + v4).toNatClampNeg))), (0, .ref (ad 0)), (1, .int v1), (2, .int v2)]) hx hb d_R_sum_83 hl (k := 4) rfl rfl (by decide) rfl (fun ls hl => ?_)
        refine lv_goto (tgt := 40) hx hb d_R_sum_86 (by decide) ?_
        exact ih _ _ _ _ _ _ hf _ _ hP hS _ (lv_sub hl [2, 3, 4, 1, 0] rfl)
set_option maxHeartbeats 4000000 in
set_option maxRecDepth 100000 in
theorem mc_R_sum (l : Launch) {D : va_G} {ad : Nat → Nat} {ta : Nat → ClassId} (hd : tD 26 ad) {σ σ' : tS} {p0 : Int32} {p1 : Int32} {r : Int32} (hf : mf_R_sum p0 p1 σ = some (r, σ')) : Met l y_R_sum (.code y_R_sum b_R_sum 5 (some .int) :: tw) rm_R_sum (tP D clS (tyR ta) (cwR ad ta σ) [.ref (ad 0), .int p0, .int p1]) (tQ D clS (cwR ad ta σ') (some (.int r)) (tA 26 ad)) 0 0 (tA 26 ad) := by
  refine Met.ofW (cc := b_R_sum) (maxL := 5) (ret := (some .int)) (by decide) rfl ?_
  intro p e s m args below meth c s₁ B hml hv
  obtain ⟨rfl, hP, hK, hN⟩ := hv
  have hx := B.exec
  have hb := B.bytes
  have hr := B.returns
  have ht : ∀ w ∈ tw, w.before [.ref (ad 0), .int p0, .int p1].toArray s = true := fun w h => atoms_spec (ws := (.code y_R_sum b_R_sum 5 (some .int) :: tw)) B.pre w (List.mem_cons_of_mem _ h)
  have hown : s.vm.findClass R_R = some m.cls := findClass_of_methodNamed B.named
  have hlocks := B.notSynchronized
  have CX : tC p s m [.ref (ad 0), .int p0, .int p1].toArray meth c b_R_sum (some .int) 5 R_R D clS (tyR ta) := ⟨hx, hb, hr, hml, hown, ht, hlocks, hK, hN⟩
  have hS : va_S (tA 26 ad) s.heap s.heap [] := va_S.rf
  have hl := lv_entry ([.ref (ad 0), .int p0, .int p1]) (n := 5) (Nat.le_of_ble_eq_true rfl)
  rw [lg_entry_eq]
  generalize (lg_sl ([.ref (ad 0), .int p0, .int p1]) ++ List.replicate (5 - (lg_sl ([.ref (ad 0), .int p0, .int p1])).length) Slot.unset).toArray = ls at hl ⊢
  replace hl : lv_has ls 5 [(0, .ref (ad 0)), (1, .int p0), (2, .int p1)] := hl
  unfold mf_R_sum at hf
  refine lv_aload_n hx hb d_R_sum_0 rfl (lv_at hl 0 rfl) ?_
  refine lv_aload_n hx hb d_R_sum_1 rfl (lv_at hl 0 rfl) ?_
  refine lv_iload_n hx hb d_R_sum_2 rfl (lv_at hl 1 rfl) ?_
  obtain ⟨r_1, s_1, hq1, hf⟩ := tb2_of hf
  refine tr_calli (va_runV (C := R_R) (As := [.int p0]) (rest := [.ref (ad 0)]) ⟨hx, hb, hml, hown, ht⟩ (mc_R_isZone l hd hq1) ⟨(tw_cb (n := 1) ht wc_R_isZone wd_43 wd_819 ⟨rfl, rfl⟩ (by decide +kernel) ⟨(Nat.le_of_ble_eq_true rfl), (Nat.le_of_ble_eq_true rfl)⟩), ht _ wd_821, ht _ wd_19⟩ ⟨tP_blind, va_recv hK hP (ci := 8) (q0 := 0) rfl rfl, fun U hU hW => ⟨rfl, by rw [hU]; exact hP, va_K.moved hW.alike hK, tW_warm hW hN⟩⟩ rfl rfl hl.1 rfl (lv_room (Nat.le_of_ble_eq_true rfl)) d_R_sum_3 ⟨Nat.zero_le _, Nat.zero_le _⟩) hS (fun _ h => h.elim) (fun _ h => h.elim) (fun H locs hP hS => ?_)
  refine lv_if_eq (tgt := 22) hx hb d_R_sum_6 (by decide) (fun hc => ?_) (fun hc => ?_)
  · replace hf := ti_pos hc hf
    refine lv_iconst (v := (1 : Int32)) hx hb d_R_sum_22 (by decide) ?_
    refine va_put (ci := 8) (v := .int (1 : Int32)) (ty := .int) (C := R_R) (T := F_R) (N := 32) hx hb ht iw_R ft_R to_R nm_R hown hK hP (cwR_D hd) hS 0 rfl rfl 0 (by decide) (ht _ wd_677) (fun _ h9 => h9) rfl (by decide +kernel) rfl rfl (Nat.le_of_ble_eq_true rfl) d_R_sum_23 (fun H locs hP _ hS => ?_)
    replace hP : va_P D clS (cwR ad ta (tF s_1 0 (1 : Int32))) H := hP
    refine lv_aload_n hx hb d_R_sum_26 rfl (lv_at hl 0 rfl) ?_
    refine va_get (ci := 8) (v := .int (1 : Int32)) (C := R_R) (T := F_R) (N := 32) hx hb ht iw_R hown hK hP 0 rfl rfl 0 (by decide) (ht _ wd_677) (fun _ h9 => h9) rfl d_R_sum_27 ?_
    refine lv_if_le (tgt := 35) hx hb d_R_sum_30 (by decide) (fun hc => ?_) (fun hc => ?_)
    · replace hf := ti_pos hc hf
      refine lv_iconst (v := (0 : Int32)) hx hb d_R_sum_35 (by decide) ?_
      refine lv_istore_n (lv' := [(3, .int (0 : Int32)), (0, .ref (ad 0)), (1, .int p0), (2, .int p1)]) hx hb d_R_sum_36 rfl hl (by decide) rfl (fun ls hl => ?_)
      refine lv_iconst (v := (0 : Int32)) hx hb d_R_sum_37 (by decide) ?_
      refine lv_istore (lv' := [(4, .int (0 : Int32)), (3, .int (0 : Int32)), (0, .ref (ad 0)), (1, .int p0), (2, .int p1)]) hx hb d_R_sum_38 hl (by decide) rfl (fun ls hl => ?_)
      exact mw_R_sum_40 CX hd _ _ _ _ _ _ _ hf _ _ hP hS _ (lv_sub hl [2, 3, 4, 1, 0] rfl)
    · replace hf := ti_neg hc hf
      refine lv_iconst (v := (0 : Int32)) hx hb d_R_sum_33 (by decide) ?_
      obtain ⟨rfl, rfl⟩ := tp_of hf
      exact W.iret (v := (0 : Int32)) hx hb hr (fun t ht hW => ⟨rfl, by rw [ht]; exact hP, hS.F ht⟩) hS.2.2 d_R_sum_34
  · replace hf := ti_neg hc hf
    refine lv_iload_n hx hb d_R_sum_9 rfl (lv_at hl 2 rfl) ?_
    refine lv_iconst (v := (0 : Int32)) hx hb d_R_sum_10 (by decide) ?_
    refine lv_iconst (v := (1 : Int32)) hx hb d_R_sum_11 (by decide) ?_
    obtain ⟨r_4, s_4, hq4, hf⟩ := tb2_of hf
    refine tr_calli (va_runS (As := [.int p1, .int (0 : Int32), .int (1 : Int32)]) (rest := [.ref (ad 0)]) ⟨hx, hb, hml, hown, ht⟩ (mc_R_isIn l hd hq4) ⟨(tw_cb (n := 3) ht wc_R_isIn wd_43 wd_790 ⟨rfl, rfl⟩ (by decide +kernel) ⟨(Nat.le_of_ble_eq_true rfl), (Nat.le_of_ble_eq_true rfl)⟩), ht _ wd_791⟩ ⟨tP_blind, fun U hU hW => ⟨rfl, by rw [hU]; exact hP, va_K.moved hW.alike hK, tW_warm hW hN⟩⟩ rfl rfl hl.1 rfl (lv_room (Nat.le_of_ble_eq_true rfl)) d_R_sum_12 ⟨Nat.zero_le _, Nat.zero_le _⟩) hS (fun _ h => h.elim) (fun _ h => h.elim) (fun H locs hP hS => ?_)
    refine lv_if_eq (tgt := 22) hx hb d_R_sum_15 (by decide) (fun hc => ?_) (fun hc => ?_)
    · replace hf := ti_pos hc hf
      refine lv_iconst (v := (1 : Int32)) hx hb d_R_sum_22 (by decide) ?_
      refine va_put (ci := 8) (v := .int (1 : Int32)) (ty := .int) (C := R_R) (T := F_R) (N := 32) hx hb ht iw_R ft_R to_R nm_R hown hK hP (cwR_D hd) hS 0 rfl rfl 0 (by decide) (ht _ wd_677) (fun _ h9 => h9) rfl (by decide +kernel) rfl rfl (Nat.le_of_ble_eq_true rfl) d_R_sum_23 (fun H locs hP _ hS => ?_)
      replace hP : va_P D clS (cwR ad ta (tF s_4 0 (1 : Int32))) H := hP
      refine lv_aload_n hx hb d_R_sum_26 rfl (lv_at hl 0 rfl) ?_
      refine va_get (ci := 8) (v := .int (1 : Int32)) (C := R_R) (T := F_R) (N := 32) hx hb ht iw_R hown hK hP 0 rfl rfl 0 (by decide) (ht _ wd_677) (fun _ h9 => h9) rfl d_R_sum_27 ?_
      refine lv_if_le (tgt := 35) hx hb d_R_sum_30 (by decide) (fun hc => ?_) (fun hc => ?_)
      · replace hf := ti_pos hc hf
        refine lv_iconst (v := (0 : Int32)) hx hb d_R_sum_35 (by decide) ?_
        refine lv_istore_n (lv' := [(3, .int (0 : Int32)), (0, .ref (ad 0)), (1, .int p0), (2, .int p1)]) hx hb d_R_sum_36 rfl hl (by decide) rfl (fun ls hl => ?_)
        refine lv_iconst (v := (0 : Int32)) hx hb d_R_sum_37 (by decide) ?_
        refine lv_istore (lv' := [(4, .int (0 : Int32)), (3, .int (0 : Int32)), (0, .ref (ad 0)), (1, .int p0), (2, .int p1)]) hx hb d_R_sum_38 hl (by decide) rfl (fun ls hl => ?_)
        exact mw_R_sum_40 CX hd _ _ _ _ _ _ _ hf _ _ hP hS _ (lv_sub hl [2, 3, 4, 1, 0] rfl)
      · replace hf := ti_neg hc hf
        refine lv_iconst (v := (0 : Int32)) hx hb d_R_sum_33 (by decide) ?_
        obtain ⟨rfl, rfl⟩ := tp_of hf
        exact W.iret (v := (0 : Int32)) hx hb hr (fun t ht hW => ⟨rfl, by rw [ht]; exact hP, hS.F ht⟩) hS.2.2 d_R_sum_34
    · replace hf := ti_neg hc hf
      refine lv_iconst (v := (0 : Int32)) hx hb d_R_sum_18 (by decide) ?_
      refine lv_goto (tgt := 23) hx hb d_R_sum_19 (by decide) ?_
      refine va_put (ci := 8) (v := .int (0 : Int32)) (ty := .int) (C := R_R) (T := F_R) (N := 32) hx hb ht iw_R ft_R to_R nm_R hown hK hP (cwR_D hd) hS 0 rfl rfl 0 (by decide) (ht _ wd_677) (fun _ h9 => h9) rfl (by decide +kernel) rfl rfl (Nat.le_of_ble_eq_true rfl) d_R_sum_23 (fun H locs hP _ hS => ?_)
      replace hP : va_P D clS (cwR ad ta (tF s_4 0 (0 : Int32))) H := hP
      refine lv_aload_n hx hb d_R_sum_26 rfl (lv_at hl 0 rfl) ?_
      refine va_get (ci := 8) (v := .int (0 : Int32)) (C := R_R) (T := F_R) (N := 32) hx hb ht iw_R hown hK hP 0 rfl rfl 0 (by decide) (ht _ wd_677) (fun _ h9 => h9) rfl d_R_sum_27 ?_
      refine lv_if_le (tgt := 35) hx hb d_R_sum_30 (by decide) (fun hc => ?_) (fun hc => ?_)
      · replace hf := ti_pos hc hf
        refine lv_iconst (v := (0 : Int32)) hx hb d_R_sum_35 (by decide) ?_
        refine lv_istore_n (lv' := [(3, .int (0 : Int32)), (0, .ref (ad 0)), (1, .int p0), (2, .int p1)]) hx hb d_R_sum_36 rfl hl (by decide) rfl (fun ls hl => ?_)
        refine lv_iconst (v := (0 : Int32)) hx hb d_R_sum_37 (by decide) ?_
        refine lv_istore (lv' := [(4, .int (0 : Int32)), (3, .int (0 : Int32)), (0, .ref (ad 0)), (1, .int p0), (2, .int p1)]) hx hb d_R_sum_38 hl (by decide) rfl (fun ls hl => ?_)
        exact mw_R_sum_40 CX hd _ _ _ _ _ _ _ hf _ _ hP hS _ (lv_sub hl [2, 3, 4, 1, 0] rfl)
      · replace hf := ti_neg hc hf
        refine lv_iconst (v := (0 : Int32)) hx hb d_R_sum_33 (by decide) ?_
        obtain ⟨rfl, rfl⟩ := tp_of hf
        exact W.iret (v := (0 : Int32)) hx hb hr (fun t ht hW => ⟨rfl, by rw [ht]; exact hP, hS.F ht⟩) hS.2.2 d_R_sum_34
abbrev rm_R_factor : Room := { frames := 2, cells := 0, slots := 0, locals := 43 }
set_option maxHeartbeats 4000000 in
set_option maxRecDepth 100000 in
theorem mc_R_factor (l : Launch) {D : va_G} {ad : Nat → Nat} {ta : Nat → ClassId} (hd : tD 26 ad) {σ σ' : tS} {p0 : Int32} {r : Int32} (hf : mf_R_factor p0 σ = some (r, σ')) : Met l y_R_factor (.code y_R_factor b_R_factor 2 (some .int) :: tw) rm_R_factor (tP D clS (tyR ta) (cwR ad ta σ) [.ref (ad 0), .int p0]) (tQ D clS (cwR ad ta σ') (some (.int r)) (tA 26 ad)) 0 0 (tA 26 ad) := by
  refine Met.ofW (cc := b_R_factor) (maxL := 2) (ret := (some .int)) (by decide) rfl ?_
  intro p e s m args below meth c s₁ B hml hv
  obtain ⟨rfl, hP, hK, hN⟩ := hv
  have hx := B.exec
  have hb := B.bytes
  have hr := B.returns
  have ht : ∀ w ∈ tw, w.before [.ref (ad 0), .int p0].toArray s = true := fun w h => atoms_spec (ws := (.code y_R_factor b_R_factor 2 (some .int) :: tw)) B.pre w (List.mem_cons_of_mem _ h)
  have hown : s.vm.findClass R_R = some m.cls := findClass_of_methodNamed B.named
  have hlocks := B.notSynchronized
  have CX : tC p s m [.ref (ad 0), .int p0].toArray meth c b_R_factor (some .int) 2 R_R D clS (tyR ta) := ⟨hx, hb, hr, hml, hown, ht, hlocks, hK, hN⟩
  have hS : va_S (tA 26 ad) s.heap s.heap [] := va_S.rf
  have hl := lv_entry ([.ref (ad 0), .int p0]) (n := 2) (Nat.le_of_ble_eq_true rfl)
  rw [lg_entry_eq]
  generalize (lg_sl ([.ref (ad 0), .int p0]) ++ List.replicate (2 - (lg_sl ([.ref (ad 0), .int p0])).length) Slot.unset).toArray = ls at hl ⊢
  replace hl : lv_has ls 2 [(0, .ref (ad 0)), (1, .int p0)] := hl
  unfold mf_R_factor at hf
  refine lv_aload_n hx hb d_R_factor_0 rfl (lv_at hl 0 rfl) ?_
  refine lv_aload_n hx hb d_R_factor_1 rfl (lv_at hl 0 rfl) ?_
  refine lv_iload_n hx hb d_R_factor_2 rfl (lv_at hl 1 rfl) ?_
  obtain ⟨r_1, s_1, hq1, hf⟩ := tb2_of hf
  refine tr_calli (va_runV (C := R_R) (As := [.int p0]) (rest := [.ref (ad 0)]) ⟨hx, hb, hml, hown, ht⟩ (mc_R_isZone l hd hq1) ⟨(tw_cb (n := 1) ht wc_R_isZone wd_43 wd_819 ⟨rfl, rfl⟩ (by decide +kernel) ⟨(Nat.le_of_ble_eq_true rfl), (Nat.le_of_ble_eq_true rfl)⟩), ht _ wd_821, ht _ wd_19⟩ ⟨tP_blind, va_recv hK hP (ci := 8) (q0 := 0) rfl rfl, fun U hU hW => ⟨rfl, by rw [hU]; exact hP, va_K.moved hW.alike hK, tW_warm hW hN⟩⟩ rfl rfl hl.1 rfl (lv_room (Nat.le_of_ble_eq_true rfl)) d_R_factor_3 ⟨Nat.zero_le _, Nat.zero_le _⟩) hS (fun _ h => h.elim) (fun _ h => h.elim) (fun H locs hP hS => ?_)
  refine lv_if_eq (tgt := 13) hx hb d_R_factor_6 (by decide) (fun hc => ?_) (fun hc => ?_)
  · replace hf := ti_pos hc hf
    refine lv_iconst (v := (1 : Int32)) hx hb d_R_factor_13 (by decide) ?_
    refine va_put (ci := 8) (v := .int (1 : Int32)) (ty := .int) (C := R_R) (T := F_R) (N := 32) hx hb ht iw_R ft_R to_R nm_R hown hK hP (cwR_D hd) hS 0 rfl rfl 0 (by decide) (ht _ wd_677) (fun _ h9 => h9) rfl (by decide +kernel) rfl rfl (Nat.le_of_ble_eq_true rfl) d_R_factor_14 (fun H locs hP _ hS => ?_)
    replace hP : va_P D clS (cwR ad ta (tF s_1 0 (1 : Int32))) H := hP
    refine lv_aload_n hx hb d_R_factor_17 rfl (lv_at hl 0 rfl) ?_
    refine va_get (ci := 8) (v := .int (1 : Int32)) (C := R_R) (T := F_R) (N := 32) hx hb ht iw_R hown hK hP 0 rfl rfl 0 (by decide) (ht _ wd_677) (fun _ h9 => h9) rfl d_R_factor_18 ?_
    refine lv_if_le (tgt := 28) hx hb d_R_factor_21 (by decide) (fun hc => ?_) (fun hc => ?_)
    · replace hf := ti_pos hc hf
      refine lv_aload_n hx hb d_R_factor_28 rfl (lv_at hl 0 rfl) ?_
      refine va_get (ci := 8) (v := .ref (ad 18)) (C := R_R) (T := F_R) (N := 32) hx hb ht iw_R hown hK hP 0 rfl rfl 21 (by decide) (ht _ wd_698) (fun _ h9 => h9) rfl d_R_factor_29 ?_
      refine lv_iload_n hx hb d_R_factor_32 rfl (lv_at hl 1 rfl) ?_
      obtain ⟨hi2, hf⟩ := tg_of hf
      refine va_iald (f := s_1.2.1 16) hx hb hK hP 18 17 rfl rfl hi2 d_R_factor_33 ?_
      obtain ⟨rfl, rfl⟩ := tp_of hf
      exact W.iret (v := (s_1.2.1 16 p0.toNatClampNeg)) hx hb hr (fun t ht hW => ⟨rfl, by rw [ht]; exact hP, hS.F ht⟩) hS.2.2 d_R_factor_34
    · replace hf := ti_neg hc hf
      refine lv_iconst (v := (0 : Int32)) hx hb d_R_factor_24 (by decide) ?_
      refine lv_goto (tgt := 34) hx hb d_R_factor_25 (by decide) ?_
      obtain ⟨rfl, rfl⟩ := tp_of hf
      exact W.iret (v := (0 : Int32)) hx hb hr (fun t ht hW => ⟨rfl, by rw [ht]; exact hP, hS.F ht⟩) hS.2.2 d_R_factor_34
  · replace hf := ti_neg hc hf
    refine lv_iconst (v := (0 : Int32)) hx hb d_R_factor_9 (by decide) ?_
    refine lv_goto (tgt := 14) hx hb d_R_factor_10 (by decide) ?_
    refine va_put (ci := 8) (v := .int (0 : Int32)) (ty := .int) (C := R_R) (T := F_R) (N := 32) hx hb ht iw_R ft_R to_R nm_R hown hK hP (cwR_D hd) hS 0 rfl rfl 0 (by decide) (ht _ wd_677) (fun _ h9 => h9) rfl (by decide +kernel) rfl rfl (Nat.le_of_ble_eq_true rfl) d_R_factor_14 (fun H locs hP _ hS => ?_)
    replace hP : va_P D clS (cwR ad ta (tF s_1 0 (0 : Int32))) H := hP
    refine lv_aload_n hx hb d_R_factor_17 rfl (lv_at hl 0 rfl) ?_
    refine va_get (ci := 8) (v := .int (0 : Int32)) (C := R_R) (T := F_R) (N := 32) hx hb ht iw_R hown hK hP 0 rfl rfl 0 (by decide) (ht _ wd_677) (fun _ h9 => h9) rfl d_R_factor_18 ?_
    refine lv_if_le (tgt := 28) hx hb d_R_factor_21 (by decide) (fun hc => ?_) (fun hc => ?_)
    · replace hf := ti_pos hc hf
      refine lv_aload_n hx hb d_R_factor_28 rfl (lv_at hl 0 rfl) ?_
      refine va_get (ci := 8) (v := .ref (ad 18)) (C := R_R) (T := F_R) (N := 32) hx hb ht iw_R hown hK hP 0 rfl rfl 21 (by decide) (ht _ wd_698) (fun _ h9 => h9) rfl d_R_factor_29 ?_
      refine lv_iload_n hx hb d_R_factor_32 rfl (lv_at hl 1 rfl) ?_
      obtain ⟨hi3, hf⟩ := tg_of hf
      refine va_iald (f := s_1.2.1 16) hx hb hK hP 18 17 rfl rfl hi3 d_R_factor_33 ?_
      obtain ⟨rfl, rfl⟩ := tp_of hf
      exact W.iret (v := (s_1.2.1 16 p0.toNatClampNeg)) hx hb hr (fun t ht hW => ⟨rfl, by rw [ht]; exact hP, hS.F ht⟩) hS.2.2 d_R_factor_34
    · replace hf := ti_neg hc hf
      refine lv_iconst (v := (0 : Int32)) hx hb d_R_factor_24 (by decide) ?_
      refine lv_goto (tgt := 34) hx hb d_R_factor_25 (by decide) ?_
      obtain ⟨rfl, rfl⟩ := tp_of hf
      exact W.iret (v := (0 : Int32)) hx hb hr (fun t ht hW => ⟨rfl, by rw [ht]; exact hP, hS.F ht⟩) hS.2.2 d_R_factor_34
abbrev rm_R_pull : Room := { frames := 3, cells := 0, slots := 0, locals := 65 }
set_option maxHeartbeats 4000000 in
set_option maxRecDepth 100000 in
theorem mc_R_pull (l : Launch) {D : va_G} {ad : Nat → Nat} {ta : Nat → ClassId} (hd : tD 26 ad) {σ σ' : tS} {p0 : Int32} {p1 : Int32} {p2 : Int32} {p3 : Int32} {r : Int32} (hf : mf_R_pull p0 p1 p2 p3 σ = some (r, σ')) : Met l y_R_pull (.code y_R_pull b_R_pull 7 (some .int) :: tw) rm_R_pull (tP D clS (tyR ta) (cwR ad ta σ) [.ref (ad 0), .int p0, .int p1, .int p2, .int p3]) (tQ D clS (cwR ad ta σ') (some (.int r)) (tA 26 ad)) 0 0 (tA 26 ad) := by
  refine Met.ofW (cc := b_R_pull) (maxL := 7) (ret := (some .int)) (by decide) rfl ?_
  intro p e s m args below meth c s₁ B hml hv
  obtain ⟨rfl, hP, hK, hN⟩ := hv
  have hx := B.exec
  have hb := B.bytes
  have hr := B.returns
  have ht : ∀ w ∈ tw, w.before [.ref (ad 0), .int p0, .int p1, .int p2, .int p3].toArray s = true := fun w h => atoms_spec (ws := (.code y_R_pull b_R_pull 7 (some .int) :: tw)) B.pre w (List.mem_cons_of_mem _ h)
  have hown : s.vm.findClass R_R = some m.cls := findClass_of_methodNamed B.named
  have hlocks := B.notSynchronized
  have CX : tC p s m [.ref (ad 0), .int p0, .int p1, .int p2, .int p3].toArray meth c b_R_pull (some .int) 7 R_R D clS (tyR ta) := ⟨hx, hb, hr, hml, hown, ht, hlocks, hK, hN⟩
  have hS : va_S (tA 26 ad) s.heap s.heap [] := va_S.rf
  have hl := lv_entry ([.ref (ad 0), .int p0, .int p1, .int p2, .int p3]) (n := 7) (Nat.le_of_ble_eq_true rfl)
  rw [lg_entry_eq]
  generalize (lg_sl ([.ref (ad 0), .int p0, .int p1, .int p2, .int p3]) ++ List.replicate (7 - (lg_sl ([.ref (ad 0), .int p0, .int p1, .int p2, .int p3])).length) Slot.unset).toArray = ls at hl ⊢
  replace hl : lv_has ls 7 [(0, .ref (ad 0)), (1, .int p0), (2, .int p1), (3, .int p2), (4, .int p3)] := hl
  unfold mf_R_pull at hf
  refine lv_aload_n hx hb d_R_pull_0 rfl (lv_at hl 0 rfl) ?_
  refine lv_iload_n hx hb d_R_pull_1 rfl (lv_at hl 1 rfl) ?_
  refine lv_iconst (v := (0 : Int32)) hx hb d_R_pull_2 (by decide) ?_
  refine lv_iconst (v := (2 : Int32)) hx hb d_R_pull_3 (by decide) ?_
  obtain ⟨r_1, s_1, hq1, hf⟩ := tb2_of hf
  refine tr_calli (va_runS (As := [.int p0, .int (0 : Int32), .int (2 : Int32)]) (rest := [.ref (ad 0)]) ⟨hx, hb, hml, hown, ht⟩ (mc_R_isIn l hd hq1) ⟨(tw_cb (n := 3) ht wc_R_isIn wd_43 wd_790 ⟨rfl, rfl⟩ (by decide +kernel) ⟨(Nat.le_of_ble_eq_true rfl), (Nat.le_of_ble_eq_true rfl)⟩), ht _ wd_791⟩ ⟨tP_blind, fun U hU hW => ⟨rfl, by rw [hU]; exact hP, va_K.moved hW.alike hK, tW_warm hW hN⟩⟩ rfl rfl hl.1 rfl (lv_room (Nat.le_of_ble_eq_true rfl)) d_R_pull_4 ⟨Nat.zero_le _, Nat.zero_le _⟩) hS (fun _ h => h.elim) (fun _ h => h.elim) (fun H locs hP hS => ?_)
  refine lv_if_eq (tgt := 35) hx hb d_R_pull_7 (by decide) (fun hc => ?_) (fun hc => ?_)
  · replace hf := ti_pos hc hf
    refine lv_iconst (v := (1 : Int32)) hx hb d_R_pull_35 (by decide) ?_
    refine va_put (ci := 8) (v := .int (1 : Int32)) (ty := .int) (C := R_R) (T := F_R) (N := 32) hx hb ht iw_R ft_R to_R nm_R hown hK hP (cwR_D hd) hS 0 rfl rfl 0 (by decide) (ht _ wd_677) (fun _ h9 => h9) rfl (by decide +kernel) rfl rfl (Nat.le_of_ble_eq_true rfl) d_R_pull_36 (fun H locs hP _ hS => ?_)
    replace hP : va_P D clS (cwR ad ta (tF s_1 0 (1 : Int32))) H := hP
    refine lv_aload_n hx hb d_R_pull_39 rfl (lv_at hl 0 rfl) ?_
    refine va_get (ci := 8) (v := .int (1 : Int32)) (C := R_R) (T := F_R) (N := 32) hx hb ht iw_R hown hK hP 0 rfl rfl 0 (by decide) (ht _ wd_677) (fun _ h9 => h9) rfl d_R_pull_40 ?_
    refine lv_if_le (tgt := 48) hx hb d_R_pull_43 (by decide) (fun hc => ?_) (fun hc => ?_)
    · replace hf := ti_pos hc hf
      refine lv_bipush (v := (36 : Int32)) hx hb d_R_pull_48 (by decide) ?_
      refine lv_iload_n hx hb d_R_pull_50 rfl (lv_at hl 1 rfl) ?_
      refine lv_imul hx hb d_R_pull_51 ?_
      refine lv_bipush (v := (6 : Int32)) hx hb d_R_pull_52 (by decide) ?_
      refine lv_iload_n hx hb d_R_pull_54 rfl (lv_at hl 2 rfl) ?_
      refine lv_imul hx hb d_R_pull_55 ?_
      refine lv_iadd hx hb d_R_pull_56 ?_
      refine lv_iload_n hx hb d_R_pull_57 rfl (lv_at hl 3 rfl) ?_
      refine lv_iadd hx hb d_R_pull_58 ?_
      refine lv_istore (lv' := [(5, .int ((((36 : Int32) * p0) + ((6 : Int32) * p1)) + p2)), (0, .ref (ad 0)), (1, .int p0), (2, .int p1), (3, .int p2), (4, .int p3)]) hx hb d_R_pull_59 hl (by decide) rfl (fun ls hl => ?_)
      refine lv_aload_n hx hb d_R_pull_61 rfl (lv_at hl 1 rfl) ?_
      refine va_get (ci := 8) (v := .ref (ad 15)) (C := R_R) (T := F_R) (N := 32) hx hb ht iw_R hown hK hP 0 rfl rfl 18 (by decide) (ht _ wd_695) (fun _ h9 => h9) rfl d_R_pull_62 ?_
      refine lv_iload hx hb d_R_pull_65 (lv_at hl 0 rfl) ?_
      obtain ⟨hi2, hf⟩ := tg_of hf
      refine va_iald (f := s_1.2.1 13) hx hb hK hP 15 14 rfl rfl hi2 d_R_pull_67 ?_
      refine lv_istore (lv' := [(6, .int (s_1.2.1 13 ((((36 : Int32) * p0) + ((6 : Int32) * p1)) + p2).toNatClampNeg)), (5, .int ((((36 : Int32) * p0) + ((6 : Int32) * p1)) + p2)), (0, .ref (ad 0)), (1, .int p0), (2, .int p1), (3, .int p2), (4, .int p3)]) hx hb d_R_pull_68 hl (by decide) rfl (fun ls hl => ?_)
      refine lv_aload_n hx hb d_R_pull_70 rfl (lv_at hl 2 rfl) ?_
      refine va_get (ci := 8) (v := .ref (ad 15)) (C := R_R) (T := F_R) (N := 32) hx hb ht iw_R hown hK hP 0 rfl rfl 18 (by decide) (ht _ wd_695) (fun _ h9 => h9) rfl d_R_pull_71 ?_
      refine lv_iload hx hb d_R_pull_74 (lv_at hl 1 rfl) ?_
      refine lv_iload hx hb d_R_pull_76 (lv_at hl 6 rfl) ?_
      obtain ⟨hi3, hf⟩ := tg_of hf
      refine va_iast (f := s_1.2.1 13) hx hb hK hP (cwR_D hd) hS 15 14 rfl rfl hi3 d_R_pull_78 (fun H locs hP _ hS => ?_)
      replace hP : va_P D clS (cwR ad ta (tI (tF s_1 0 (1 : Int32)) 13 (((((36 : Int32) * p0) + ((6 : Int32) * p1)) + p2).toNatClampNeg) p3)) H := hP
      refine lv_iload hx hb d_R_pull_79 (lv_at hl 0 rfl) ?_
      obtain ⟨rfl, rfl⟩ := tp_of hf
      exact W.iret (v := (s_1.2.1 13 ((((36 : Int32) * p0) + ((6 : Int32) * p1)) + p2).toNatClampNeg)) hx hb hr (fun t ht hW => ⟨rfl, by rw [ht]; exact hP, hS.F ht⟩) hS.2.2 d_R_pull_81
    · replace hf := ti_neg hc hf
      refine lv_iconst (v := (0 : Int32)) hx hb d_R_pull_46 (by decide) ?_
      obtain ⟨rfl, rfl⟩ := tp_of hf
      exact W.iret (v := (0 : Int32)) hx hb hr (fun t ht hW => ⟨rfl, by rw [ht]; exact hP, hS.F ht⟩) hS.2.2 d_R_pull_47
  · replace hf := ti_neg hc hf
    refine lv_aload_n hx hb d_R_pull_10 rfl (lv_at hl 0 rfl) ?_
    refine lv_iload_n hx hb d_R_pull_11 rfl (lv_at hl 2 rfl) ?_
    refine lv_iload_n hx hb d_R_pull_12 rfl (lv_at hl 3 rfl) ?_
    obtain ⟨r_4, s_4, hq4, hf⟩ := tb2_of hf
    refine tr_calli (va_runV (C := R_R) (As := [.int p1, .int p2]) (rest := [.ref (ad 0)]) ⟨hx, hb, hml, hown, ht⟩ (mc_R_isPair l hd hq4) ⟨(tw_cb (n := 2) ht wc_R_isPair wd_43 wd_815 ⟨rfl, rfl⟩ (by decide +kernel) ⟨(Nat.le_of_ble_eq_true rfl), (Nat.le_of_ble_eq_true rfl)⟩), ht _ wd_817, ht _ wd_18⟩ ⟨tP_blind, va_recv hK hP (ci := 8) (q0 := 0) rfl rfl, fun U hU hW => ⟨rfl, by rw [hU]; exact hP, va_K.moved hW.alike hK, tW_warm hW hN⟩⟩ rfl rfl hl.1 rfl (lv_room (Nat.le_of_ble_eq_true rfl)) d_R_pull_13 ⟨Nat.zero_le _, Nat.zero_le _⟩) hS (fun _ h => h.elim) (fun _ h => h.elim) (fun H locs hP hS => ?_)
    refine lv_if_eq (tgt := 35) hx hb d_R_pull_16 (by decide) (fun hc => ?_) (fun hc => ?_)
    · replace hf := ti_pos hc hf
      refine lv_iconst (v := (1 : Int32)) hx hb d_R_pull_35 (by decide) ?_
      refine va_put (ci := 8) (v := .int (1 : Int32)) (ty := .int) (C := R_R) (T := F_R) (N := 32) hx hb ht iw_R ft_R to_R nm_R hown hK hP (cwR_D hd) hS 0 rfl rfl 0 (by decide) (ht _ wd_677) (fun _ h9 => h9) rfl (by decide +kernel) rfl rfl (Nat.le_of_ble_eq_true rfl) d_R_pull_36 (fun H locs hP _ hS => ?_)
      replace hP : va_P D clS (cwR ad ta (tF s_4 0 (1 : Int32))) H := hP
      refine lv_aload_n hx hb d_R_pull_39 rfl (lv_at hl 0 rfl) ?_
      refine va_get (ci := 8) (v := .int (1 : Int32)) (C := R_R) (T := F_R) (N := 32) hx hb ht iw_R hown hK hP 0 rfl rfl 0 (by decide) (ht _ wd_677) (fun _ h9 => h9) rfl d_R_pull_40 ?_
      refine lv_if_le (tgt := 48) hx hb d_R_pull_43 (by decide) (fun hc => ?_) (fun hc => ?_)
      · replace hf := ti_pos hc hf
        refine lv_bipush (v := (36 : Int32)) hx hb d_R_pull_48 (by decide) ?_
        refine lv_iload_n hx hb d_R_pull_50 rfl (lv_at hl 1 rfl) ?_
        refine lv_imul hx hb d_R_pull_51 ?_
        refine lv_bipush (v := (6 : Int32)) hx hb d_R_pull_52 (by decide) ?_
        refine lv_iload_n hx hb d_R_pull_54 rfl (lv_at hl 2 rfl) ?_
        refine lv_imul hx hb d_R_pull_55 ?_
        refine lv_iadd hx hb d_R_pull_56 ?_
        refine lv_iload_n hx hb d_R_pull_57 rfl (lv_at hl 3 rfl) ?_
        refine lv_iadd hx hb d_R_pull_58 ?_
        refine lv_istore (lv' := [(5, .int ((((36 : Int32) * p0) + ((6 : Int32) * p1)) + p2)), (0, .ref (ad 0)), (1, .int p0), (2, .int p1), (3, .int p2), (4, .int p3)]) hx hb d_R_pull_59 hl (by decide) rfl (fun ls hl => ?_)
        refine lv_aload_n hx hb d_R_pull_61 rfl (lv_at hl 1 rfl) ?_
        refine va_get (ci := 8) (v := .ref (ad 15)) (C := R_R) (T := F_R) (N := 32) hx hb ht iw_R hown hK hP 0 rfl rfl 18 (by decide) (ht _ wd_695) (fun _ h9 => h9) rfl d_R_pull_62 ?_
        refine lv_iload hx hb d_R_pull_65 (lv_at hl 0 rfl) ?_
        obtain ⟨hi5, hf⟩ := tg_of hf
        refine va_iald (f := s_4.2.1 13) hx hb hK hP 15 14 rfl rfl hi5 d_R_pull_67 ?_
        refine lv_istore (lv' := [(6, .int (s_4.2.1 13 ((((36 : Int32) * p0) + ((6 : Int32) * p1)) + p2).toNatClampNeg)), (5, .int ((((36 : Int32) * p0) + ((6 : Int32) * p1)) + p2)), (0, .ref (ad 0)), (1, .int p0), (2, .int p1), (3, .int p2), (4, .int p3)]) hx hb d_R_pull_68 hl (by decide) rfl (fun ls hl => ?_)
        refine lv_aload_n hx hb d_R_pull_70 rfl (lv_at hl 2 rfl) ?_
        refine va_get (ci := 8) (v := .ref (ad 15)) (C := R_R) (T := F_R) (N := 32) hx hb ht iw_R hown hK hP 0 rfl rfl 18 (by decide) (ht _ wd_695) (fun _ h9 => h9) rfl d_R_pull_71 ?_
        refine lv_iload hx hb d_R_pull_74 (lv_at hl 1 rfl) ?_
        refine lv_iload hx hb d_R_pull_76 (lv_at hl 6 rfl) ?_
        obtain ⟨hi6, hf⟩ := tg_of hf
        refine va_iast (f := s_4.2.1 13) hx hb hK hP (cwR_D hd) hS 15 14 rfl rfl hi6 d_R_pull_78 (fun H locs hP _ hS => ?_)
        replace hP : va_P D clS (cwR ad ta (tI (tF s_4 0 (1 : Int32)) 13 (((((36 : Int32) * p0) + ((6 : Int32) * p1)) + p2).toNatClampNeg) p3)) H := hP
        refine lv_iload hx hb d_R_pull_79 (lv_at hl 0 rfl) ?_
        obtain ⟨rfl, rfl⟩ := tp_of hf
        exact W.iret (v := (s_4.2.1 13 ((((36 : Int32) * p0) + ((6 : Int32) * p1)) + p2).toNatClampNeg)) hx hb hr (fun t ht hW => ⟨rfl, by rw [ht]; exact hP, hS.F ht⟩) hS.2.2 d_R_pull_81
      · replace hf := ti_neg hc hf
        refine lv_iconst (v := (0 : Int32)) hx hb d_R_pull_46 (by decide) ?_
        obtain ⟨rfl, rfl⟩ := tp_of hf
        exact W.iret (v := (0 : Int32)) hx hb hr (fun t ht hW => ⟨rfl, by rw [ht]; exact hP, hS.F ht⟩) hS.2.2 d_R_pull_47
    · replace hf := ti_neg hc hf
      refine lv_iload hx hb d_R_pull_19 (lv_at hl 4 rfl) ?_
      refine lv_iconst (v := (0 : Int32)) hx hb d_R_pull_21 (by decide) ?_
      refine lv_sipush (v := (1000 : Int32)) hx hb d_R_pull_22 (by decide) ?_
      obtain ⟨r_7, s_7, hq7, hf⟩ := tb2_of hf
      refine tr_calli (va_runS (As := [.int p3, .int (0 : Int32), .int (1000 : Int32)]) (rest := [.ref (ad 0)]) ⟨hx, hb, hml, hown, ht⟩ (mc_R_isIn l hd hq7) ⟨(tw_cb (n := 3) ht wc_R_isIn wd_43 wd_790 ⟨rfl, rfl⟩ (by decide +kernel) ⟨(Nat.le_of_ble_eq_true rfl), (Nat.le_of_ble_eq_true rfl)⟩), ht _ wd_791⟩ ⟨tP_blind, fun U hU hW => ⟨rfl, by rw [hU]; exact hP, va_K.moved hW.alike hK, tW_warm hW hN⟩⟩ rfl rfl hl.1 rfl (lv_room (Nat.le_of_ble_eq_true rfl)) d_R_pull_25 ⟨Nat.zero_le _, Nat.zero_le _⟩) hS (fun _ h => h.elim) (fun _ h => h.elim) (fun H locs hP hS => ?_)
      refine lv_if_eq (tgt := 35) hx hb d_R_pull_28 (by decide) (fun hc => ?_) (fun hc => ?_)
      · replace hf := ti_pos hc hf
        refine lv_iconst (v := (1 : Int32)) hx hb d_R_pull_35 (by decide) ?_
        refine va_put (ci := 8) (v := .int (1 : Int32)) (ty := .int) (C := R_R) (T := F_R) (N := 32) hx hb ht iw_R ft_R to_R nm_R hown hK hP (cwR_D hd) hS 0 rfl rfl 0 (by decide) (ht _ wd_677) (fun _ h9 => h9) rfl (by decide +kernel) rfl rfl (Nat.le_of_ble_eq_true rfl) d_R_pull_36 (fun H locs hP _ hS => ?_)
        replace hP : va_P D clS (cwR ad ta (tF s_7 0 (1 : Int32))) H := hP
        refine lv_aload_n hx hb d_R_pull_39 rfl (lv_at hl 0 rfl) ?_
        refine va_get (ci := 8) (v := .int (1 : Int32)) (C := R_R) (T := F_R) (N := 32) hx hb ht iw_R hown hK hP 0 rfl rfl 0 (by decide) (ht _ wd_677) (fun _ h9 => h9) rfl d_R_pull_40 ?_
        refine lv_if_le (tgt := 48) hx hb d_R_pull_43 (by decide) (fun hc => ?_) (fun hc => ?_)
        · replace hf := ti_pos hc hf
          refine lv_bipush (v := (36 : Int32)) hx hb d_R_pull_48 (by decide) ?_
          refine lv_iload_n hx hb d_R_pull_50 rfl (lv_at hl 1 rfl) ?_
          refine lv_imul hx hb d_R_pull_51 ?_
          refine lv_bipush (v := (6 : Int32)) hx hb d_R_pull_52 (by decide) ?_
          refine lv_iload_n hx hb d_R_pull_54 rfl (lv_at hl 2 rfl) ?_
          refine lv_imul hx hb d_R_pull_55 ?_
          refine lv_iadd hx hb d_R_pull_56 ?_
          refine lv_iload_n hx hb d_R_pull_57 rfl (lv_at hl 3 rfl) ?_
          refine lv_iadd hx hb d_R_pull_58 ?_
          refine lv_istore (lv' := [(5, .int ((((36 : Int32) * p0) + ((6 : Int32) * p1)) + p2)), (0, .ref (ad 0)), (1, .int p0), (2, .int p1), (3, .int p2), (4, .int p3)]) hx hb d_R_pull_59 hl (by decide) rfl (fun ls hl => ?_)
          refine lv_aload_n hx hb d_R_pull_61 rfl (lv_at hl 1 rfl) ?_
          refine va_get (ci := 8) (v := .ref (ad 15)) (C := R_R) (T := F_R) (N := 32) hx hb ht iw_R hown hK hP 0 rfl rfl 18 (by decide) (ht _ wd_695) (fun _ h9 => h9) rfl d_R_pull_62 ?_
          refine lv_iload hx hb d_R_pull_65 (lv_at hl 0 rfl) ?_
          obtain ⟨hi8, hf⟩ := tg_of hf
          refine va_iald (f := s_7.2.1 13) hx hb hK hP 15 14 rfl rfl hi8 d_R_pull_67 ?_
          refine lv_istore (lv' := [(6, .int (s_7.2.1 13 ((((36 : Int32) * p0) + ((6 : Int32) * p1)) + p2).toNatClampNeg)), (5, .int ((((36 : Int32) * p0) + ((6 : Int32) * p1)) + p2)), (0, .ref (ad 0)), (1, .int p0), (2, .int p1), (3, .int p2), (4, .int p3)]) hx hb d_R_pull_68 hl (by decide) rfl (fun ls hl => ?_)
          refine lv_aload_n hx hb d_R_pull_70 rfl (lv_at hl 2 rfl) ?_
          refine va_get (ci := 8) (v := .ref (ad 15)) (C := R_R) (T := F_R) (N := 32) hx hb ht iw_R hown hK hP 0 rfl rfl 18 (by decide) (ht _ wd_695) (fun _ h9 => h9) rfl d_R_pull_71 ?_
          refine lv_iload hx hb d_R_pull_74 (lv_at hl 1 rfl) ?_
          refine lv_iload hx hb d_R_pull_76 (lv_at hl 6 rfl) ?_
          obtain ⟨hi9, hf⟩ := tg_of hf
          refine va_iast (f := s_7.2.1 13) hx hb hK hP (cwR_D hd) hS 15 14 rfl rfl hi9 d_R_pull_78 (fun H locs hP _ hS => ?_)
          replace hP : va_P D clS (cwR ad ta (tI (tF s_7 0 (1 : Int32)) 13 (((((36 : Int32) * p0) + ((6 : Int32) * p1)) + p2).toNatClampNeg) p3)) H := hP
          refine lv_iload hx hb d_R_pull_79 (lv_at hl 0 rfl) ?_
          obtain ⟨rfl, rfl⟩ := tp_of hf
          exact W.iret (v := (s_7.2.1 13 ((((36 : Int32) * p0) + ((6 : Int32) * p1)) + p2).toNatClampNeg)) hx hb hr (fun t ht hW => ⟨rfl, by rw [ht]; exact hP, hS.F ht⟩) hS.2.2 d_R_pull_81
        · replace hf := ti_neg hc hf
          refine lv_iconst (v := (0 : Int32)) hx hb d_R_pull_46 (by decide) ?_
          obtain ⟨rfl, rfl⟩ := tp_of hf
          exact W.iret (v := (0 : Int32)) hx hb hr (fun t ht hW => ⟨rfl, by rw [ht]; exact hP, hS.F ht⟩) hS.2.2 d_R_pull_47
      · replace hf := ti_neg hc hf
        refine lv_iconst (v := (0 : Int32)) hx hb d_R_pull_31 (by decide) ?_
        refine lv_goto (tgt := 36) hx hb d_R_pull_32 (by decide) ?_
        refine va_put (ci := 8) (v := .int (0 : Int32)) (ty := .int) (C := R_R) (T := F_R) (N := 32) hx hb ht iw_R ft_R to_R nm_R hown hK hP (cwR_D hd) hS 0 rfl rfl 0 (by decide) (ht _ wd_677) (fun _ h9 => h9) rfl (by decide +kernel) rfl rfl (Nat.le_of_ble_eq_true rfl) d_R_pull_36 (fun H locs hP _ hS => ?_)
        replace hP : va_P D clS (cwR ad ta (tF s_7 0 (0 : Int32))) H := hP
        refine lv_aload_n hx hb d_R_pull_39 rfl (lv_at hl 0 rfl) ?_
        refine va_get (ci := 8) (v := .int (0 : Int32)) (C := R_R) (T := F_R) (N := 32) hx hb ht iw_R hown hK hP 0 rfl rfl 0 (by decide) (ht _ wd_677) (fun _ h9 => h9) rfl d_R_pull_40 ?_
        refine lv_if_le (tgt := 48) hx hb d_R_pull_43 (by decide) (fun hc => ?_) (fun hc => ?_)
        · replace hf := ti_pos hc hf
          refine lv_bipush (v := (36 : Int32)) hx hb d_R_pull_48 (by decide) ?_
          refine lv_iload_n hx hb d_R_pull_50 rfl (lv_at hl 1 rfl) ?_
          refine lv_imul hx hb d_R_pull_51 ?_
          refine lv_bipush (v := (6 : Int32)) hx hb d_R_pull_52 (by decide) ?_
          refine lv_iload_n hx hb d_R_pull_54 rfl (lv_at hl 2 rfl) ?_
          refine lv_imul hx hb d_R_pull_55 ?_
          refine lv_iadd hx hb d_R_pull_56 ?_
          refine lv_iload_n hx hb d_R_pull_57 rfl (lv_at hl 3 rfl) ?_
          refine lv_iadd hx hb d_R_pull_58 ?_
          refine lv_istore (lv' := [(5, .int ((((36 : Int32) * p0) + ((6 : Int32) * p1)) + p2)), (0, .ref (ad 0)), (1, .int p0), (2, .int p1), (3, .int p2), (4, .int p3)]) hx hb d_R_pull_59 hl (by decide) rfl (fun ls hl => ?_)
          refine lv_aload_n hx hb d_R_pull_61 rfl (lv_at hl 1 rfl) ?_
          refine va_get (ci := 8) (v := .ref (ad 15)) (C := R_R) (T := F_R) (N := 32) hx hb ht iw_R hown hK hP 0 rfl rfl 18 (by decide) (ht _ wd_695) (fun _ h9 => h9) rfl d_R_pull_62 ?_
          refine lv_iload hx hb d_R_pull_65 (lv_at hl 0 rfl) ?_
          obtain ⟨hi10, hf⟩ := tg_of hf
          refine va_iald (f := s_7.2.1 13) hx hb hK hP 15 14 rfl rfl hi10 d_R_pull_67 ?_
          refine lv_istore (lv' := [(6, .int (s_7.2.1 13 ((((36 : Int32) * p0) + ((6 : Int32) * p1)) + p2).toNatClampNeg)), (5, .int ((((36 : Int32) * p0) + ((6 : Int32) * p1)) + p2)), (0, .ref (ad 0)), (1, .int p0), (2, .int p1), (3, .int p2), (4, .int p3)]) hx hb d_R_pull_68 hl (by decide) rfl (fun ls hl => ?_)
          refine lv_aload_n hx hb d_R_pull_70 rfl (lv_at hl 2 rfl) ?_
          refine va_get (ci := 8) (v := .ref (ad 15)) (C := R_R) (T := F_R) (N := 32) hx hb ht iw_R hown hK hP 0 rfl rfl 18 (by decide) (ht _ wd_695) (fun _ h9 => h9) rfl d_R_pull_71 ?_
          refine lv_iload hx hb d_R_pull_74 (lv_at hl 1 rfl) ?_
          refine lv_iload hx hb d_R_pull_76 (lv_at hl 6 rfl) ?_
          obtain ⟨hi11, hf⟩ := tg_of hf
          refine va_iast (f := s_7.2.1 13) hx hb hK hP (cwR_D hd) hS 15 14 rfl rfl hi11 d_R_pull_78 (fun H locs hP _ hS => ?_)
          replace hP : va_P D clS (cwR ad ta (tI (tF s_7 0 (0 : Int32)) 13 (((((36 : Int32) * p0) + ((6 : Int32) * p1)) + p2).toNatClampNeg) p3)) H := hP
          refine lv_iload hx hb d_R_pull_79 (lv_at hl 0 rfl) ?_
          obtain ⟨rfl, rfl⟩ := tp_of hf
          exact W.iret (v := (s_7.2.1 13 ((((36 : Int32) * p0) + ((6 : Int32) * p1)) + p2).toNatClampNeg)) hx hb hr (fun t ht hW => ⟨rfl, by rw [ht]; exact hP, hS.F ht⟩) hS.2.2 d_R_pull_81
        · replace hf := ti_neg hc hf
          refine lv_iconst (v := (0 : Int32)) hx hb d_R_pull_46 (by decide) ?_
          obtain ⟨rfl, rfl⟩ := tp_of hf
          exact W.iret (v := (0 : Int32)) hx hb hr (fun t ht hW => ⟨rfl, by rw [ht]; exact hP, hS.F ht⟩) hS.2.2 d_R_pull_47
