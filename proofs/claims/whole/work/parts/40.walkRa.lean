abbrev rm_R_thrown : Room := { frames := 0, cells := 0, slots := 0, locals := 0 }
set_option maxHeartbeats 4000000 in
set_option maxRecDepth 100000 in
theorem mc_R_thrown (l : Launch) {D : va_G} {ad : Nat → Nat} {ta : Nat → ClassId} (hd : tD 26 ad) {σ σ' : tS}  {r : Int32} (hf : mf_R_thrown  σ = some (r, σ')) : Met l y_R_thrown (.code y_R_thrown b_R_thrown 1 (some .int) :: tw) rm_R_thrown (tP D clS (tyR ta) (cwR ad ta σ) [.ref (ad 0)]) (tQ D clS (cwR ad ta σ') (some (.int r)) tNo) 0 0 tNo := by
  refine Met.ofW (cc := b_R_thrown) (maxL := 1) (ret := (some .int)) (by decide) rfl ?_
  intro p e s m args below meth c s₁ B hml hv
  obtain ⟨rfl, hP, hK, hN⟩ := hv
  have hx := B.exec
  have hb := B.bytes
  have hr := B.returns
  have ht : ∀ w ∈ tw, w.before [.ref (ad 0)].toArray s = true := fun w h => atoms_spec (ws := (.code y_R_thrown b_R_thrown 1 (some .int) :: tw)) B.pre w (List.mem_cons_of_mem _ h)
  have hown : s.vm.findClass R_R = some m.cls := findClass_of_methodNamed B.named
  have hlocks := B.notSynchronized
  have CX : tC p s m [.ref (ad 0)].toArray meth c b_R_thrown (some .int) 1 R_R D clS (tyR ta) := ⟨hx, hb, hr, hml, hown, ht, hlocks, hK, hN⟩
  have hS : va_S tNo s.heap s.heap [] := va_S.rf
  have hl := lv_entry ([.ref (ad 0)]) (n := 1) (Nat.le_of_ble_eq_true rfl)
  rw [lg_entry_eq]
  generalize (lg_sl ([.ref (ad 0)]) ++ List.replicate (1 - (lg_sl ([.ref (ad 0)])).length) Slot.unset).toArray = ls at hl ⊢
  replace hl : lv_has ls 1 [(0, .ref (ad 0))] := hl
  unfold mf_R_thrown at hf
  refine lv_aload_n hx hb d_R_thrown_0 rfl (lv_at hl 0 rfl) ?_
  refine va_get (ci := 8) (v := .int (σ.1 0)) (C := R_R) (T := F_R) (N := 32) hx hb ht iw_R hown hK hP 0 rfl rfl 0 (by decide) (ht _ wd_677) (fun _ h9 => h9) rfl d_R_thrown_1 ?_
  obtain ⟨rfl, rfl⟩ := tp_of hf
  exact W.iret (v := (σ.1 0)) hx hb hr (fun t ht hW => ⟨rfl, by rw [ht]; exact hP, hS.F ht⟩) hS.2.2 d_R_thrown_4
abbrev rm_R_node : Room := { frames := 0, cells := 0, slots := 0, locals := 0 }
set_option maxHeartbeats 4000000 in
set_option maxRecDepth 100000 in
theorem mc_R_node (l : Launch) {D : va_G} {ad : Nat → Nat} {ta : Nat → ClassId} (hd : tD 26 ad) {σ σ' : tS}  {r : Int32} (hf : mf_R_node  σ = some (r, σ')) : Met l y_R_node (.code y_R_node b_R_node 1 (some .int) :: tw) rm_R_node (tP D clS (tyR ta) (cwR ad ta σ) [.ref (ad 0)]) (tQ D clS (cwR ad ta σ') (some (.int r)) (tA 26 ad)) 0 0 (tA 26 ad) := by
  refine Met.ofW (cc := b_R_node) (maxL := 1) (ret := (some .int)) (by decide) rfl ?_
  intro p e s m args below meth c s₁ B hml hv
  obtain ⟨rfl, hP, hK, hN⟩ := hv
  have hx := B.exec
  have hb := B.bytes
  have hr := B.returns
  have ht : ∀ w ∈ tw, w.before [.ref (ad 0)].toArray s = true := fun w h => atoms_spec (ws := (.code y_R_node b_R_node 1 (some .int) :: tw)) B.pre w (List.mem_cons_of_mem _ h)
  have hown : s.vm.findClass R_R = some m.cls := findClass_of_methodNamed B.named
  have hlocks := B.notSynchronized
  have CX : tC p s m [.ref (ad 0)].toArray meth c b_R_node (some .int) 1 R_R D clS (tyR ta) := ⟨hx, hb, hr, hml, hown, ht, hlocks, hK, hN⟩
  have hS : va_S (tA 26 ad) s.heap s.heap [] := va_S.rf
  have hl := lv_entry ([.ref (ad 0)]) (n := 1) (Nat.le_of_ble_eq_true rfl)
  rw [lg_entry_eq]
  generalize (lg_sl ([.ref (ad 0)]) ++ List.replicate (1 - (lg_sl ([.ref (ad 0)])).length) Slot.unset).toArray = ls at hl ⊢
  replace hl : lv_has ls 1 [(0, .ref (ad 0))] := hl
  unfold mf_R_node at hf
  refine lv_aload_n hx hb d_R_node_0 rfl (lv_at hl 0 rfl) ?_
  refine lv_aload_n hx hb d_R_node_1 rfl (lv_at hl 0 rfl) ?_
  refine va_get (ci := 8) (v := .int (σ.1 1)) (C := R_R) (T := F_R) (N := 32) hx hb ht iw_R hown hK hP 0 rfl rfl 1 (by decide) (ht _ wd_678) (fun _ h9 => h9) rfl d_R_node_2 ?_
  refine lv_bipush (v := (12 : Int32)) hx hb d_R_node_5 (by decide) ?_
  refine lv_icmp_ne (tgt := 14) hx hb d_R_node_7 (by decide) (fun hc => ?_) (fun hc => ?_)
  · replace hf := ti_neg hc hf
    refine lv_iconst (v := (0 : Int32)) hx hb d_R_node_14 (by decide) ?_
    refine va_put (ci := 8) (v := .int (0 : Int32)) (ty := .int) (C := R_R) (T := F_R) (N := 32) hx hb ht iw_R ft_R to_R nm_R hown hK hP (cwR_D hd) hS 0 rfl rfl 0 (by decide) (ht _ wd_677) (fun _ h9 => h9) rfl (by decide +kernel) rfl rfl (Nat.le_of_ble_eq_true rfl) d_R_node_15 (fun H locs hP _ hS => ?_)
    replace hP : va_P D clS (cwR ad ta (tF σ 0 (0 : Int32))) H := hP
    refine lv_aload_n hx hb d_R_node_18 rfl (lv_at hl 0 rfl) ?_
    refine va_get (ci := 8) (v := .int (0 : Int32)) (C := R_R) (T := F_R) (N := 32) hx hb ht iw_R hown hK hP 0 rfl rfl 0 (by decide) (ht _ wd_677) (fun _ h9 => h9) rfl d_R_node_19 ?_
    refine lv_if_le (tgt := 27) hx hb d_R_node_22 (by decide) (fun hc => ?_) (fun hc => ?_)
    · replace hf := ti_pos hc hf
      refine lv_aload_n hx hb d_R_node_27 rfl (lv_at hl 0 rfl) ?_
      refine lv_dup hx hb d_R_node_28 rfl ?_
      refine va_get (ci := 8) (v := .int (σ.1 1)) (C := R_R) (T := F_R) (N := 32) hx hb ht iw_R hown hK hP 0 rfl rfl 1 (by decide) (ht _ wd_678) (fun _ h9 => h9) rfl d_R_node_29 ?_
      refine lv_iconst (v := (1 : Int32)) hx hb d_R_node_32 (by decide) ?_
      refine lv_iadd hx hb d_R_node_33 ?_
      refine va_put (ci := 8) (v := .int ((σ.1 1) + (1 : Int32))) (ty := .int) (C := R_R) (T := F_R) (N := 32) hx hb ht iw_R ft_R to_R nm_R hown hK hP (cwR_D hd) hS 0 rfl rfl 1 (by decide) (ht _ wd_678) (fun _ h9 => h9) rfl (by decide +kernel) rfl rfl (Nat.le_of_ble_eq_true rfl) d_R_node_34 (fun H locs hP _ hS => ?_)
      replace hP : va_P D clS (cwR ad ta (tF (tF σ 0 (0 : Int32)) 1 ((σ.1 1) + (1 : Int32)))) H := hP
      refine lv_aload_n hx hb d_R_node_37 rfl (lv_at hl 0 rfl) ?_
      refine va_get (ci := 8) (v := .int ((σ.1 1) + (1 : Int32))) (C := R_R) (T := F_R) (N := 32) hx hb ht iw_R hown hK hP 0 rfl rfl 1 (by decide) (ht _ wd_678) (fun _ h9 => h9) rfl d_R_node_38 ?_
      refine lv_iconst (v := (1 : Int32)) hx hb d_R_node_41 (by decide) ?_
      refine lv_isub hx hb d_R_node_42 ?_
      obtain ⟨rfl, rfl⟩ := tp_of hf
      exact W.iret (v := (((σ.1 1) + (1 : Int32)) - (1 : Int32))) hx hb hr (fun t ht hW => ⟨rfl, by rw [ht]; exact hP, hS.F ht⟩) hS.2.2 d_R_node_43
    · replace hf := ti_neg hc hf
      refine lv_iconst (v := (0 : Int32)) hx hb d_R_node_25 (by decide) ?_
      obtain ⟨rfl, rfl⟩ := tp_of hf
      exact W.iret (v := (0 : Int32)) hx hb hr (fun t ht hW => ⟨rfl, by rw [ht]; exact hP, hS.F ht⟩) hS.2.2 d_R_node_26
  · replace hf := ti_pos hc hf
    refine lv_iconst (v := (1 : Int32)) hx hb d_R_node_10 (by decide) ?_
    refine lv_goto (tgt := 15) hx hb d_R_node_11 (by decide) ?_
    refine va_put (ci := 8) (v := .int (1 : Int32)) (ty := .int) (C := R_R) (T := F_R) (N := 32) hx hb ht iw_R ft_R to_R nm_R hown hK hP (cwR_D hd) hS 0 rfl rfl 0 (by decide) (ht _ wd_677) (fun _ h9 => h9) rfl (by decide +kernel) rfl rfl (Nat.le_of_ble_eq_true rfl) d_R_node_15 (fun H locs hP _ hS => ?_)
    replace hP : va_P D clS (cwR ad ta (tF σ 0 (1 : Int32))) H := hP
    refine lv_aload_n hx hb d_R_node_18 rfl (lv_at hl 0 rfl) ?_
    refine va_get (ci := 8) (v := .int (1 : Int32)) (C := R_R) (T := F_R) (N := 32) hx hb ht iw_R hown hK hP 0 rfl rfl 0 (by decide) (ht _ wd_677) (fun _ h9 => h9) rfl d_R_node_19 ?_
    refine lv_if_le (tgt := 27) hx hb d_R_node_22 (by decide) (fun hc => ?_) (fun hc => ?_)
    · replace hf := ti_pos hc hf
      refine lv_aload_n hx hb d_R_node_27 rfl (lv_at hl 0 rfl) ?_
      refine lv_dup hx hb d_R_node_28 rfl ?_
      refine va_get (ci := 8) (v := .int (σ.1 1)) (C := R_R) (T := F_R) (N := 32) hx hb ht iw_R hown hK hP 0 rfl rfl 1 (by decide) (ht _ wd_678) (fun _ h9 => h9) rfl d_R_node_29 ?_
      refine lv_iconst (v := (1 : Int32)) hx hb d_R_node_32 (by decide) ?_
      refine lv_iadd hx hb d_R_node_33 ?_
      refine va_put (ci := 8) (v := .int ((σ.1 1) + (1 : Int32))) (ty := .int) (C := R_R) (T := F_R) (N := 32) hx hb ht iw_R ft_R to_R nm_R hown hK hP (cwR_D hd) hS 0 rfl rfl 1 (by decide) (ht _ wd_678) (fun _ h9 => h9) rfl (by decide +kernel) rfl rfl (Nat.le_of_ble_eq_true rfl) d_R_node_34 (fun H locs hP _ hS => ?_)
      replace hP : va_P D clS (cwR ad ta (tF (tF σ 0 (1 : Int32)) 1 ((σ.1 1) + (1 : Int32)))) H := hP
      refine lv_aload_n hx hb d_R_node_37 rfl (lv_at hl 0 rfl) ?_
      refine va_get (ci := 8) (v := .int ((σ.1 1) + (1 : Int32))) (C := R_R) (T := F_R) (N := 32) hx hb ht iw_R hown hK hP 0 rfl rfl 1 (by decide) (ht _ wd_678) (fun _ h9 => h9) rfl d_R_node_38 ?_
      refine lv_iconst (v := (1 : Int32)) hx hb d_R_node_41 (by decide) ?_
      refine lv_isub hx hb d_R_node_42 ?_
      obtain ⟨rfl, rfl⟩ := tp_of hf
      exact W.iret (v := (((σ.1 1) + (1 : Int32)) - (1 : Int32))) hx hb hr (fun t ht hW => ⟨rfl, by rw [ht]; exact hP, hS.F ht⟩) hS.2.2 d_R_node_43
    · replace hf := ti_neg hc hf
      refine lv_iconst (v := (0 : Int32)) hx hb d_R_node_25 (by decide) ?_
      obtain ⟨rfl, rfl⟩ := tp_of hf
      exact W.iret (v := (0 : Int32)) hx hb hr (fun t ht hW => ⟨rfl, by rw [ht]; exact hP, hS.F ht⟩) hS.2.2 d_R_node_26
abbrev rm_R_isIn : Room := { frames := 0, cells := 0, slots := 0, locals := 0 }
set_option maxHeartbeats 4000000 in
set_option maxRecDepth 100000 in
theorem mc_R_isIn (l : Launch) {D : va_G} {ad : Nat → Nat} {ta : Nat → ClassId} (hd : tD 26 ad) {σ σ' : tS} {p0 : Int32} {p1 : Int32} {p2 : Int32} {r : Int32} (hf : mf_R_isIn p0 p1 p2 σ = some (r, σ')) : Met l y_R_isIn (.code y_R_isIn b_R_isIn 3 (some .boolean) :: tw) rm_R_isIn (tP D clS (tyR ta) (cwR ad ta σ) [.int p0, .int p1, .int p2]) (tQ D clS (cwR ad ta σ') (some (.int r)) tNo) 0 0 tNo := by
  refine Met.ofW (cc := b_R_isIn) (maxL := 3) (ret := (some .boolean)) (by decide) rfl ?_
  intro p e s m args below meth c s₁ B hml hv
  obtain ⟨rfl, hP, hK, hN⟩ := hv
  have hx := B.exec
  have hb := B.bytes
  have hr := B.returns
  have ht : ∀ w ∈ tw, w.before [.int p0, .int p1, .int p2].toArray s = true := fun w h => atoms_spec (ws := (.code y_R_isIn b_R_isIn 3 (some .boolean) :: tw)) B.pre w (List.mem_cons_of_mem _ h)
  have hown : s.vm.findClass R_R = some m.cls := findClass_of_methodNamed B.named
  have hlocks := B.notSynchronized
  have CX : tC p s m [.int p0, .int p1, .int p2].toArray meth c b_R_isIn (some .boolean) 3 R_R D clS (tyR ta) := ⟨hx, hb, hr, hml, hown, ht, hlocks, hK, hN⟩
  have hS : va_S tNo s.heap s.heap [] := va_S.rf
  have hl := lv_entry ([.int p0, .int p1, .int p2]) (n := 3) (Nat.le_of_ble_eq_true rfl)
  rw [lg_entry_eq]
  generalize (lg_sl ([.int p0, .int p1, .int p2]) ++ List.replicate (3 - (lg_sl ([.int p0, .int p1, .int p2])).length) Slot.unset).toArray = ls at hl ⊢
  replace hl : lv_has ls 3 [(0, .int p0), (1, .int p1), (2, .int p2)] := hl
  unfold mf_R_isIn at hf
  refine lv_iload_n hx hb d_R_isIn_0 rfl (lv_at hl 0 rfl) ?_
  refine lv_iload_n hx hb d_R_isIn_1 rfl (lv_at hl 1 rfl) ?_
  refine lv_icmp_lt (tgt := 14) hx hb d_R_isIn_2 (by decide) (fun hc => ?_) (fun hc => ?_)
  · replace hf := ti_pos hc hf
    refine lv_iconst (v := (0 : Int32)) hx hb d_R_isIn_14 (by decide) ?_
    obtain ⟨hb01, hf⟩ := tb_of hf
    obtain ⟨rfl, rfl⟩ := tp_of hf
    exact W.zret (v := (0 : Int32)) (ty := .boolean) hx hb hr (tb_nar hb01) (fun t ht hW => ⟨rfl, by rw [ht]; exact hP, hS.F ht⟩) hS.2.2 d_R_isIn_15
  · replace hf := ti_neg hc hf
    refine lv_iload_n hx hb d_R_isIn_5 rfl (lv_at hl 0 rfl) ?_
    refine lv_iload_n hx hb d_R_isIn_6 rfl (lv_at hl 2 rfl) ?_
    refine lv_icmp_gt (tgt := 14) hx hb d_R_isIn_7 (by decide) (fun hc => ?_) (fun hc => ?_)
    · replace hf := ti_pos hc hf
      refine lv_iconst (v := (0 : Int32)) hx hb d_R_isIn_14 (by decide) ?_
      obtain ⟨hb01, hf⟩ := tb_of hf
      obtain ⟨rfl, rfl⟩ := tp_of hf
      exact W.zret (v := (0 : Int32)) (ty := .boolean) hx hb hr (tb_nar hb01) (fun t ht hW => ⟨rfl, by rw [ht]; exact hP, hS.F ht⟩) hS.2.2 d_R_isIn_15
    · replace hf := ti_neg hc hf
      refine lv_iconst (v := (1 : Int32)) hx hb d_R_isIn_10 (by decide) ?_
      refine lv_goto (tgt := 15) hx hb d_R_isIn_11 (by decide) ?_
      obtain ⟨hb01, hf⟩ := tb_of hf
      obtain ⟨rfl, rfl⟩ := tp_of hf
      exact W.zret (v := (1 : Int32)) (ty := .boolean) hx hb hr (tb_nar hb01) (fun t ht hW => ⟨rfl, by rw [ht]; exact hP, hS.F ht⟩) hS.2.2 d_R_isIn_15
abbrev rm_R_isNode : Room := { frames := 1, cells := 0, slots := 0, locals := 22 }
set_option maxHeartbeats 4000000 in
set_option maxRecDepth 100000 in
theorem mc_R_isNode (l : Launch) {D : va_G} {ad : Nat → Nat} {ta : Nat → ClassId} (hd : tD 26 ad) {σ σ' : tS} {p0 : Int32} {r : Int32} (hf : mf_R_isNode p0 σ = some (r, σ')) : Met l y_R_isNode (.code y_R_isNode b_R_isNode 2 (some .boolean) :: tw) rm_R_isNode (tP D clS (tyR ta) (cwR ad ta σ) [.ref (ad 0), .int p0]) (tQ D clS (cwR ad ta σ') (some (.int r)) tNo) 0 0 tNo := by
  refine Met.ofW (cc := b_R_isNode) (maxL := 2) (ret := (some .boolean)) (by decide) rfl ?_
  intro p e s m args below meth c s₁ B hml hv
  obtain ⟨rfl, hP, hK, hN⟩ := hv
  have hx := B.exec
  have hb := B.bytes
  have hr := B.returns
  have ht : ∀ w ∈ tw, w.before [.ref (ad 0), .int p0].toArray s = true := fun w h => atoms_spec (ws := (.code y_R_isNode b_R_isNode 2 (some .boolean) :: tw)) B.pre w (List.mem_cons_of_mem _ h)
  have hown : s.vm.findClass R_R = some m.cls := findClass_of_methodNamed B.named
  have hlocks := B.notSynchronized
  have CX : tC p s m [.ref (ad 0), .int p0].toArray meth c b_R_isNode (some .boolean) 2 R_R D clS (tyR ta) := ⟨hx, hb, hr, hml, hown, ht, hlocks, hK, hN⟩
  have hS : va_S tNo s.heap s.heap [] := va_S.rf
  have hl := lv_entry ([.ref (ad 0), .int p0]) (n := 2) (Nat.le_of_ble_eq_true rfl)
  rw [lg_entry_eq]
  generalize (lg_sl ([.ref (ad 0), .int p0]) ++ List.replicate (2 - (lg_sl ([.ref (ad 0), .int p0])).length) Slot.unset).toArray = ls at hl ⊢
  replace hl : lv_has ls 2 [(0, .ref (ad 0)), (1, .int p0)] := hl
  unfold mf_R_isNode at hf
  refine lv_iload_n hx hb d_R_isNode_0 rfl (lv_at hl 1 rfl) ?_
  refine lv_iconst (v := (0 : Int32)) hx hb d_R_isNode_1 (by decide) ?_
  refine lv_aload_n hx hb d_R_isNode_2 rfl (lv_at hl 0 rfl) ?_
  refine va_get (ci := 8) (v := .int (σ.1 1)) (C := R_R) (T := F_R) (N := 32) hx hb ht iw_R hown hK hP 0 rfl rfl 1 (by decide) (ht _ wd_678) (fun _ h9 => h9) rfl d_R_isNode_3 ?_
  refine lv_iconst (v := (1 : Int32)) hx hb d_R_isNode_6 (by decide) ?_
  refine lv_isub hx hb d_R_isNode_7 ?_
  obtain ⟨r_1, s_1, hq1, hf⟩ := tb2_of hf
  refine tr_calli (va_runS (As := [.int p0, .int (0 : Int32), .int ((σ.1 1) - (1 : Int32))]) (rest := []) ⟨hx, hb, hml, hown, ht⟩ (mc_R_isIn l hd hq1) ⟨(tw_cb (n := 3) ht wc_R_isIn wd_43 wd_790 ⟨rfl, rfl⟩ (by decide +kernel) ⟨(Nat.le_of_ble_eq_true rfl), (Nat.le_of_ble_eq_true rfl)⟩), ht _ wd_791⟩ ⟨tP_blind, fun U hU hW => ⟨rfl, by rw [hU]; exact hP, va_K.moved hW.alike hK, tW_warm hW hN⟩⟩ rfl rfl hl.1 rfl (lv_room (Nat.le_of_ble_eq_true rfl)) d_R_isNode_8 ⟨Nat.zero_le _, Nat.zero_le _⟩) hS (fun _ h => h.elim) (fun _ h => h.elim) (fun H locs hP hS => ?_)
  obtain ⟨hb01, hf⟩ := tb_of hf
  obtain ⟨rfl, rfl⟩ := tp_of hf
  exact W.zret (v := r_1) (ty := .boolean) hx hb hr (tb_nar hb01) (fun t ht hW => ⟨rfl, by rw [ht]; exact hP, hS.F ht⟩) hS.2.2 d_R_isNode_11
abbrev rm_R_zone : Room := { frames := 2, cells := 0, slots := 0, locals := 43 }
set_option maxHeartbeats 4000000 in
set_option maxRecDepth 100000 in
theorem mc_R_zone (l : Launch) {D : va_G} {ad : Nat → Nat} {ta : Nat → ClassId} (hd : tD 26 ad) {σ σ' : tS} {p0 : Int32} {p1 : Int32} {p2 : Int32} {r : Int32} (hf : mf_R_zone p0 p1 p2 σ = some (r, σ')) : Met l y_R_zone (.code y_R_zone b_R_zone 4 (some .int) :: tw) rm_R_zone (tP D clS (tyR ta) (cwR ad ta σ) [.ref (ad 0), .int p0, .int p1, .int p2]) (tQ D clS (cwR ad ta σ') (some (.int r)) (tA 26 ad)) 0 0 (tA 26 ad) := by
  refine Met.ofW (cc := b_R_zone) (maxL := 4) (ret := (some .int)) (by decide) rfl ?_
  intro p e s m args below meth c s₁ B hml hv
  obtain ⟨rfl, hP, hK, hN⟩ := hv
  have hx := B.exec
  have hb := B.bytes
  have hr := B.returns
  have ht : ∀ w ∈ tw, w.before [.ref (ad 0), .int p0, .int p1, .int p2].toArray s = true := fun w h => atoms_spec (ws := (.code y_R_zone b_R_zone 4 (some .int) :: tw)) B.pre w (List.mem_cons_of_mem _ h)
  have hown : s.vm.findClass R_R = some m.cls := findClass_of_methodNamed B.named
  have hlocks := B.notSynchronized
  have CX : tC p s m [.ref (ad 0), .int p0, .int p1, .int p2].toArray meth c b_R_zone (some .int) 4 R_R D clS (tyR ta) := ⟨hx, hb, hr, hml, hown, ht, hlocks, hK, hN⟩
  have hS : va_S (tA 26 ad) s.heap s.heap [] := va_S.rf
  have hl := lv_entry ([.ref (ad 0), .int p0, .int p1, .int p2]) (n := 4) (Nat.le_of_ble_eq_true rfl)
  rw [lg_entry_eq]
  generalize (lg_sl ([.ref (ad 0), .int p0, .int p1, .int p2]) ++ List.replicate (4 - (lg_sl ([.ref (ad 0), .int p0, .int p1, .int p2])).length) Slot.unset).toArray = ls at hl ⊢
  replace hl : lv_has ls 4 [(0, .ref (ad 0)), (1, .int p0), (2, .int p1), (3, .int p2)] := hl
  unfold mf_R_zone at hf
  refine lv_aload_n hx hb d_R_zone_0 rfl (lv_at hl 0 rfl) ?_
  refine lv_aload_n hx hb d_R_zone_1 rfl (lv_at hl 0 rfl) ?_
  refine lv_iload_n hx hb d_R_zone_2 rfl (lv_at hl 1 rfl) ?_
  obtain ⟨r_1, s_1, hq1, hf⟩ := tb2_of hf
  refine tr_calli (va_runV (C := R_R) (As := [.int p0]) (rest := [.ref (ad 0)]) ⟨hx, hb, hml, hown, ht⟩ (mc_R_isNode l hd hq1) ⟨(tw_cb (n := 1) ht wc_R_isNode wd_43 wd_786 ⟨rfl, rfl⟩ (by decide +kernel) ⟨(Nat.le_of_ble_eq_true rfl), (Nat.le_of_ble_eq_true rfl)⟩), ht _ wd_788, ht _ wd_16⟩ ⟨tP_blind, va_recv hK hP (ci := 8) (q0 := 0) rfl rfl, fun U hU hW => ⟨rfl, by rw [hU]; exact hP, va_K.moved hW.alike hK, tW_warm hW hN⟩⟩ rfl rfl hl.1 rfl (lv_room (Nat.le_of_ble_eq_true rfl)) d_R_zone_3 ⟨Nat.zero_le _, Nat.zero_le _⟩) hS (fun _ h => h.elim) (fun _ h => h.elim) (fun H locs hP hS => ?_)
  refine lv_if_eq (tgt := 29) hx hb d_R_zone_6 (by decide) (fun hc => ?_) (fun hc => ?_)
  · replace hf := ti_pos hc hf
    refine lv_iconst (v := (1 : Int32)) hx hb d_R_zone_29 (by decide) ?_
    refine lv_goto (tgt := 47) hx hb d_R_zone_30 (by decide) ?_
    refine va_put (ci := 8) (v := .int (1 : Int32)) (ty := .int) (C := R_R) (T := F_R) (N := 32) hx hb ht iw_R ft_R to_R nm_R hown hK hP (cwR_D hd) hS 0 rfl rfl 0 (by decide) (ht _ wd_677) (fun _ h9 => h9) rfl (by decide +kernel) rfl rfl (Nat.le_of_ble_eq_true rfl) d_R_zone_47 (fun H locs hP _ hS => ?_)
    replace hP : va_P D clS (cwR ad ta (tF s_1 0 (1 : Int32))) H := hP
    refine lv_aload_n hx hb d_R_zone_50 rfl (lv_at hl 0 rfl) ?_
    refine va_get (ci := 8) (v := .int (1 : Int32)) (C := R_R) (T := F_R) (N := 32) hx hb ht iw_R hown hK hP 0 rfl rfl 0 (by decide) (ht _ wd_677) (fun _ h9 => h9) rfl d_R_zone_51 ?_
    refine lv_if_le (tgt := 59) hx hb d_R_zone_54 (by decide) (fun hc => ?_) (fun hc => ?_)
    · replace hf := ti_pos hc hf
      refine lv_aload_n hx hb d_R_zone_59 rfl (lv_at hl 0 rfl) ?_
      refine va_get (ci := 8) (v := .ref (ad 1)) (C := R_R) (T := F_R) (N := 32) hx hb ht iw_R hown hK hP 0 rfl rfl 4 (by decide) (ht _ wd_681) (fun _ h9 => h9) rfl d_R_zone_60 ?_
      refine lv_aload_n hx hb d_R_zone_63 rfl (lv_at hl 0 rfl) ?_
      refine va_get (ci := 8) (v := .int (s_1.1 2)) (C := R_R) (T := F_R) (N := 32) hx hb ht iw_R hown hK hP 0 rfl rfl 2 (by decide) (ht _ wd_679) (fun _ h9 => h9) rfl d_R_zone_64 ?_
      refine lv_iload_n hx hb d_R_zone_67 rfl (lv_at hl 1 rfl) ?_
      obtain ⟨hi2, hf⟩ := tg_of hf
      refine va_iast (f := s_1.2.1 0) hx hb hK hP (cwR_D hd) hS 1 0 rfl rfl hi2 d_R_zone_68 (fun H locs hP _ hS => ?_)
      replace hP : va_P D clS (cwR ad ta (tI (tF s_1 0 (1 : Int32)) 0 ((s_1.1 2).toNatClampNeg) p0)) H := hP
      refine lv_aload_n hx hb d_R_zone_69 rfl (lv_at hl 0 rfl) ?_
      refine va_get (ci := 8) (v := .ref (ad 2)) (C := R_R) (T := F_R) (N := 32) hx hb ht iw_R hown hK hP 0 rfl rfl 5 (by decide) (ht _ wd_682) (fun _ h9 => h9) rfl d_R_zone_70 ?_
      refine lv_aload_n hx hb d_R_zone_73 rfl (lv_at hl 0 rfl) ?_
      refine va_get (ci := 8) (v := .int (s_1.1 2)) (C := R_R) (T := F_R) (N := 32) hx hb ht iw_R hown hK hP 0 rfl rfl 2 (by decide) (ht _ wd_679) (fun _ h9 => h9) rfl d_R_zone_74 ?_
      refine lv_iload_n hx hb d_R_zone_77 rfl (lv_at hl 2 rfl) ?_
      obtain ⟨hi3, hf⟩ := tg_of hf
      refine va_iast (f := s_1.2.1 1) hx hb hK hP (cwR_D hd) hS 2 1 rfl rfl hi3 d_R_zone_78 (fun H locs hP _ hS => ?_)
      replace hP : va_P D clS (cwR ad ta (tI (tI (tF s_1 0 (1 : Int32)) 0 ((s_1.1 2).toNatClampNeg) p0) 1 ((s_1.1 2).toNatClampNeg) p1)) H := hP
      refine lv_aload_n hx hb d_R_zone_79 rfl (lv_at hl 0 rfl) ?_
      refine va_get (ci := 8) (v := .ref (ad 3)) (C := R_R) (T := F_R) (N := 32) hx hb ht iw_R hown hK hP 0 rfl rfl 6 (by decide) (ht _ wd_683) (fun _ h9 => h9) rfl d_R_zone_80 ?_
      refine lv_aload_n hx hb d_R_zone_83 rfl (lv_at hl 0 rfl) ?_
      refine va_get (ci := 8) (v := .int (s_1.1 2)) (C := R_R) (T := F_R) (N := 32) hx hb ht iw_R hown hK hP 0 rfl rfl 2 (by decide) (ht _ wd_679) (fun _ h9 => h9) rfl d_R_zone_84 ?_
      refine lv_iload_n hx hb d_R_zone_87 rfl (lv_at hl 3 rfl) ?_
      obtain ⟨hi4, hf⟩ := tg_of hf
      refine va_iast (f := s_1.2.1 2) hx hb hK hP (cwR_D hd) hS 3 2 rfl rfl hi4 d_R_zone_88 (fun H locs hP _ hS => ?_)
      replace hP : va_P D clS (cwR ad ta (tI (tI (tI (tF s_1 0 (1 : Int32)) 0 ((s_1.1 2).toNatClampNeg) p0) 1 ((s_1.1 2).toNatClampNeg) p1) 2 ((s_1.1 2).toNatClampNeg) p2)) H := hP
      refine lv_aload_n hx hb d_R_zone_89 rfl (lv_at hl 0 rfl) ?_
      refine lv_dup hx hb d_R_zone_90 rfl ?_
      refine va_get (ci := 8) (v := .int (s_1.1 2)) (C := R_R) (T := F_R) (N := 32) hx hb ht iw_R hown hK hP 0 rfl rfl 2 (by decide) (ht _ wd_679) (fun _ h9 => h9) rfl d_R_zone_91 ?_
      refine lv_iconst (v := (1 : Int32)) hx hb d_R_zone_94 (by decide) ?_
      refine lv_iadd hx hb d_R_zone_95 ?_
      refine va_put (ci := 8) (v := .int ((s_1.1 2) + (1 : Int32))) (ty := .int) (C := R_R) (T := F_R) (N := 32) hx hb ht iw_R ft_R to_R nm_R hown hK hP (cwR_D hd) hS 0 rfl rfl 2 (by decide) (ht _ wd_679) (fun _ h9 => h9) rfl (by decide +kernel) rfl rfl (Nat.le_of_ble_eq_true rfl) d_R_zone_96 (fun H locs hP _ hS => ?_)
      replace hP : va_P D clS (cwR ad ta (tF (tI (tI (tI (tF s_1 0 (1 : Int32)) 0 ((s_1.1 2).toNatClampNeg) p0) 1 ((s_1.1 2).toNatClampNeg) p1) 2 ((s_1.1 2).toNatClampNeg) p2) 2 ((s_1.1 2) + (1 : Int32)))) H := hP
      refine lv_aload_n hx hb d_R_zone_99 rfl (lv_at hl 0 rfl) ?_
      refine va_get (ci := 8) (v := .int ((s_1.1 2) + (1 : Int32))) (C := R_R) (T := F_R) (N := 32) hx hb ht iw_R hown hK hP 0 rfl rfl 2 (by decide) (ht _ wd_679) (fun _ h9 => h9) rfl d_R_zone_100 ?_
      refine lv_iconst (v := (1 : Int32)) hx hb d_R_zone_103 (by decide) ?_
      refine lv_isub hx hb d_R_zone_104 ?_
      obtain ⟨rfl, rfl⟩ := tp_of hf
      exact W.iret (v := (((s_1.1 2) + (1 : Int32)) - (1 : Int32))) hx hb hr (fun t ht hW => ⟨rfl, by rw [ht]; exact hP, hS.F ht⟩) hS.2.2 d_R_zone_105
    · replace hf := ti_neg hc hf
      refine lv_iconst (v := (0 : Int32)) hx hb d_R_zone_57 (by decide) ?_
      obtain ⟨rfl, rfl⟩ := tp_of hf
      exact W.iret (v := (0 : Int32)) hx hb hr (fun t ht hW => ⟨rfl, by rw [ht]; exact hP, hS.F ht⟩) hS.2.2 d_R_zone_58
  · replace hf := ti_neg hc hf
    refine lv_iload_n hx hb d_R_zone_9 rfl (lv_at hl 2 rfl) ?_
    refine lv_iconst (v := (0 : Int32)) hx hb d_R_zone_10 (by decide) ?_
    refine lv_ldc (v := (100000 : Int32)) hx hb hown (ht _ wd_793) d_R_zone_11 ?_
    obtain ⟨r_5, s_5, hq5, hf⟩ := tb2_of hf
    refine tr_calli (va_runS (As := [.int p1, .int (0 : Int32), .int (100000 : Int32)]) (rest := [.ref (ad 0)]) ⟨hx, hb, hml, hown, ht⟩ (mc_R_isIn l hd hq5) ⟨(tw_cb (n := 3) ht wc_R_isIn wd_43 wd_790 ⟨rfl, rfl⟩ (by decide +kernel) ⟨(Nat.le_of_ble_eq_true rfl), (Nat.le_of_ble_eq_true rfl)⟩), ht _ wd_791⟩ ⟨tP_blind, fun U hU hW => ⟨rfl, by rw [hU]; exact hP, va_K.moved hW.alike hK, tW_warm hW hN⟩⟩ rfl rfl hl.1 rfl (lv_room (Nat.le_of_ble_eq_true rfl)) d_R_zone_13 ⟨Nat.zero_le _, Nat.zero_le _⟩) hS (fun _ h => h.elim) (fun _ h => h.elim) (fun H locs hP hS => ?_)
    refine lv_if_eq (tgt := 29) hx hb d_R_zone_16 (by decide) (fun hc => ?_) (fun hc => ?_)
    · replace hf := ti_pos hc hf
      refine lv_iconst (v := (1 : Int32)) hx hb d_R_zone_29 (by decide) ?_
      refine lv_goto (tgt := 47) hx hb d_R_zone_30 (by decide) ?_
      refine va_put (ci := 8) (v := .int (1 : Int32)) (ty := .int) (C := R_R) (T := F_R) (N := 32) hx hb ht iw_R ft_R to_R nm_R hown hK hP (cwR_D hd) hS 0 rfl rfl 0 (by decide) (ht _ wd_677) (fun _ h9 => h9) rfl (by decide +kernel) rfl rfl (Nat.le_of_ble_eq_true rfl) d_R_zone_47 (fun H locs hP _ hS => ?_)
      replace hP : va_P D clS (cwR ad ta (tF s_5 0 (1 : Int32))) H := hP
      refine lv_aload_n hx hb d_R_zone_50 rfl (lv_at hl 0 rfl) ?_
      refine va_get (ci := 8) (v := .int (1 : Int32)) (C := R_R) (T := F_R) (N := 32) hx hb ht iw_R hown hK hP 0 rfl rfl 0 (by decide) (ht _ wd_677) (fun _ h9 => h9) rfl d_R_zone_51 ?_
      refine lv_if_le (tgt := 59) hx hb d_R_zone_54 (by decide) (fun hc => ?_) (fun hc => ?_)
      · replace hf := ti_pos hc hf
        refine lv_aload_n hx hb d_R_zone_59 rfl (lv_at hl 0 rfl) ?_
        refine va_get (ci := 8) (v := .ref (ad 1)) (C := R_R) (T := F_R) (N := 32) hx hb ht iw_R hown hK hP 0 rfl rfl 4 (by decide) (ht _ wd_681) (fun _ h9 => h9) rfl d_R_zone_60 ?_
        refine lv_aload_n hx hb d_R_zone_63 rfl (lv_at hl 0 rfl) ?_
        refine va_get (ci := 8) (v := .int (s_5.1 2)) (C := R_R) (T := F_R) (N := 32) hx hb ht iw_R hown hK hP 0 rfl rfl 2 (by decide) (ht _ wd_679) (fun _ h9 => h9) rfl d_R_zone_64 ?_
        refine lv_iload_n hx hb d_R_zone_67 rfl (lv_at hl 1 rfl) ?_
        obtain ⟨hi6, hf⟩ := tg_of hf
        refine va_iast (f := s_5.2.1 0) hx hb hK hP (cwR_D hd) hS 1 0 rfl rfl hi6 d_R_zone_68 (fun H locs hP _ hS => ?_)
        replace hP : va_P D clS (cwR ad ta (tI (tF s_5 0 (1 : Int32)) 0 ((s_5.1 2).toNatClampNeg) p0)) H := hP
        refine lv_aload_n hx hb d_R_zone_69 rfl (lv_at hl 0 rfl) ?_
        refine va_get (ci := 8) (v := .ref (ad 2)) (C := R_R) (T := F_R) (N := 32) hx hb ht iw_R hown hK hP 0 rfl rfl 5 (by decide) (ht _ wd_682) (fun _ h9 => h9) rfl d_R_zone_70 ?_
        refine lv_aload_n hx hb d_R_zone_73 rfl (lv_at hl 0 rfl) ?_
        refine va_get (ci := 8) (v := .int (s_5.1 2)) (C := R_R) (T := F_R) (N := 32) hx hb ht iw_R hown hK hP 0 rfl rfl 2 (by decide) (ht _ wd_679) (fun _ h9 => h9) rfl d_R_zone_74 ?_
        refine lv_iload_n hx hb d_R_zone_77 rfl (lv_at hl 2 rfl) ?_
        obtain ⟨hi7, hf⟩ := tg_of hf
        refine va_iast (f := s_5.2.1 1) hx hb hK hP (cwR_D hd) hS 2 1 rfl rfl hi7 d_R_zone_78 (fun H locs hP _ hS => ?_)
        replace hP : va_P D clS (cwR ad ta (tI (tI (tF s_5 0 (1 : Int32)) 0 ((s_5.1 2).toNatClampNeg) p0) 1 ((s_5.1 2).toNatClampNeg) p1)) H := hP
        refine lv_aload_n hx hb d_R_zone_79 rfl (lv_at hl 0 rfl) ?_
        refine va_get (ci := 8) (v := .ref (ad 3)) (C := R_R) (T := F_R) (N := 32) hx hb ht iw_R hown hK hP 0 rfl rfl 6 (by decide) (ht _ wd_683) (fun _ h9 => h9) rfl d_R_zone_80 ?_
        refine lv_aload_n hx hb d_R_zone_83 rfl (lv_at hl 0 rfl) ?_
        refine va_get (ci := 8) (v := .int (s_5.1 2)) (C := R_R) (T := F_R) (N := 32) hx hb ht iw_R hown hK hP 0 rfl rfl 2 (by decide) (ht _ wd_679) (fun _ h9 => h9) rfl d_R_zone_84 ?_
        refine lv_iload_n hx hb d_R_zone_87 rfl (lv_at hl 3 rfl) ?_
        obtain ⟨hi8, hf⟩ := tg_of hf
        refine va_iast (f := s_5.2.1 2) hx hb hK hP (cwR_D hd) hS 3 2 rfl rfl hi8 d_R_zone_88 (fun H locs hP _ hS => ?_)
        replace hP : va_P D clS (cwR ad ta (tI (tI (tI (tF s_5 0 (1 : Int32)) 0 ((s_5.1 2).toNatClampNeg) p0) 1 ((s_5.1 2).toNatClampNeg) p1) 2 ((s_5.1 2).toNatClampNeg) p2)) H := hP
        refine lv_aload_n hx hb d_R_zone_89 rfl (lv_at hl 0 rfl) ?_
        refine lv_dup hx hb d_R_zone_90 rfl ?_
        refine va_get (ci := 8) (v := .int (s_5.1 2)) (C := R_R) (T := F_R) (N := 32) hx hb ht iw_R hown hK hP 0 rfl rfl 2 (by decide) (ht _ wd_679) (fun _ h9 => h9) rfl d_R_zone_91 ?_
        refine lv_iconst (v := (1 : Int32)) hx hb d_R_zone_94 (by decide) ?_
        refine lv_iadd hx hb d_R_zone_95 ?_
        refine va_put (ci := 8) (v := .int ((s_5.1 2) + (1 : Int32))) (ty := .int) (C := R_R) (T := F_R) (N := 32) hx hb ht iw_R ft_R to_R nm_R hown hK hP (cwR_D hd) hS 0 rfl rfl 2 (by decide) (ht _ wd_679) (fun _ h9 => h9) rfl (by decide +kernel) rfl rfl (Nat.le_of_ble_eq_true rfl) d_R_zone_96 (fun H locs hP _ hS => ?_)
        replace hP : va_P D clS (cwR ad ta (tF (tI (tI (tI (tF s_5 0 (1 : Int32)) 0 ((s_5.1 2).toNatClampNeg) p0) 1 ((s_5.1 2).toNatClampNeg) p1) 2 ((s_5.1 2).toNatClampNeg) p2) 2 ((s_5.1 2) + (1 : Int32)))) H := hP
        refine lv_aload_n hx hb d_R_zone_99 rfl (lv_at hl 0 rfl) ?_
        refine va_get (ci := 8) (v := .int ((s_5.1 2) + (1 : Int32))) (C := R_R) (T := F_R) (N := 32) hx hb ht iw_R hown hK hP 0 rfl rfl 2 (by decide) (ht _ wd_679) (fun _ h9 => h9) rfl d_R_zone_100 ?_
        refine lv_iconst (v := (1 : Int32)) hx hb d_R_zone_103 (by decide) ?_
        refine lv_isub hx hb d_R_zone_104 ?_
        obtain ⟨rfl, rfl⟩ := tp_of hf
        exact W.iret (v := (((s_5.1 2) + (1 : Int32)) - (1 : Int32))) hx hb hr (fun t ht hW => ⟨rfl, by rw [ht]; exact hP, hS.F ht⟩) hS.2.2 d_R_zone_105
      · replace hf := ti_neg hc hf
        refine lv_iconst (v := (0 : Int32)) hx hb d_R_zone_57 (by decide) ?_
        obtain ⟨rfl, rfl⟩ := tp_of hf
        exact W.iret (v := (0 : Int32)) hx hb hr (fun t ht hW => ⟨rfl, by rw [ht]; exact hP, hS.F ht⟩) hS.2.2 d_R_zone_58
    · replace hf := ti_neg hc hf
      refine lv_iload_n hx hb d_R_zone_19 rfl (lv_at hl 3 rfl) ?_
      refine lv_iconst (v := (0 : Int32)) hx hb d_R_zone_20 (by decide) ?_
      refine lv_ldc (v := (100000 : Int32)) hx hb hown (ht _ wd_793) d_R_zone_21 ?_
      obtain ⟨r_9, s_9, hq9, hf⟩ := tb2_of hf
      refine tr_calli (va_runS (As := [.int p2, .int (0 : Int32), .int (100000 : Int32)]) (rest := [.ref (ad 0)]) ⟨hx, hb, hml, hown, ht⟩ (mc_R_isIn l hd hq9) ⟨(tw_cb (n := 3) ht wc_R_isIn wd_43 wd_790 ⟨rfl, rfl⟩ (by decide +kernel) ⟨(Nat.le_of_ble_eq_true rfl), (Nat.le_of_ble_eq_true rfl)⟩), ht _ wd_791⟩ ⟨tP_blind, fun U hU hW => ⟨rfl, by rw [hU]; exact hP, va_K.moved hW.alike hK, tW_warm hW hN⟩⟩ rfl rfl hl.1 rfl (lv_room (Nat.le_of_ble_eq_true rfl)) d_R_zone_23 ⟨Nat.zero_le _, Nat.zero_le _⟩) hS (fun _ h => h.elim) (fun _ h => h.elim) (fun H locs hP hS => ?_)
      refine lv_if_ne (tgt := 33) hx hb d_R_zone_26 (by decide) (fun hc => ?_) (fun hc => ?_)
      · replace hf := ti_neg hc hf
        refine lv_aload_n hx hb d_R_zone_33 rfl (lv_at hl 0 rfl) ?_
        refine va_get (ci := 8) (v := .int (s_9.1 2)) (C := R_R) (T := F_R) (N := 32) hx hb ht iw_R hown hK hP 0 rfl rfl 2 (by decide) (ht _ wd_679) (fun _ h9 => h9) rfl d_R_zone_34 ?_
        refine lv_bipush (v := (6 : Int32)) hx hb d_R_zone_37 (by decide) ?_
        refine lv_icmp_ne (tgt := 46) hx hb d_R_zone_39 (by decide) (fun hc => ?_) (fun hc => ?_)
        · replace hf := ti_neg hc hf
          refine lv_iconst (v := (0 : Int32)) hx hb d_R_zone_46 (by decide) ?_
          refine va_put (ci := 8) (v := .int (0 : Int32)) (ty := .int) (C := R_R) (T := F_R) (N := 32) hx hb ht iw_R ft_R to_R nm_R hown hK hP (cwR_D hd) hS 0 rfl rfl 0 (by decide) (ht _ wd_677) (fun _ h9 => h9) rfl (by decide +kernel) rfl rfl (Nat.le_of_ble_eq_true rfl) d_R_zone_47 (fun H locs hP _ hS => ?_)
          replace hP : va_P D clS (cwR ad ta (tF s_9 0 (0 : Int32))) H := hP
          refine lv_aload_n hx hb d_R_zone_50 rfl (lv_at hl 0 rfl) ?_
          refine va_get (ci := 8) (v := .int (0 : Int32)) (C := R_R) (T := F_R) (N := 32) hx hb ht iw_R hown hK hP 0 rfl rfl 0 (by decide) (ht _ wd_677) (fun _ h9 => h9) rfl d_R_zone_51 ?_
          refine lv_if_le (tgt := 59) hx hb d_R_zone_54 (by decide) (fun hc => ?_) (fun hc => ?_)
          · replace hf := ti_pos hc hf
            refine lv_aload_n hx hb d_R_zone_59 rfl (lv_at hl 0 rfl) ?_
            refine va_get (ci := 8) (v := .ref (ad 1)) (C := R_R) (T := F_R) (N := 32) hx hb ht iw_R hown hK hP 0 rfl rfl 4 (by decide) (ht _ wd_681) (fun _ h9 => h9) rfl d_R_zone_60 ?_
            refine lv_aload_n hx hb d_R_zone_63 rfl (lv_at hl 0 rfl) ?_
            refine va_get (ci := 8) (v := .int (s_9.1 2)) (C := R_R) (T := F_R) (N := 32) hx hb ht iw_R hown hK hP 0 rfl rfl 2 (by decide) (ht _ wd_679) (fun _ h9 => h9) rfl d_R_zone_64 ?_
            refine lv_iload_n hx hb d_R_zone_67 rfl (lv_at hl 1 rfl) ?_
            obtain ⟨hi10, hf⟩ := tg_of hf
            refine va_iast (f := s_9.2.1 0) hx hb hK hP (cwR_D hd) hS 1 0 rfl rfl hi10 d_R_zone_68 (fun H locs hP _ hS => ?_)
            replace hP : va_P D clS (cwR ad ta (tI (tF s_9 0 (0 : Int32)) 0 ((s_9.1 2).toNatClampNeg) p0)) H := hP
            refine lv_aload_n hx hb d_R_zone_69 rfl (lv_at hl 0 rfl) ?_
            refine va_get (ci := 8) (v := .ref (ad 2)) (C := R_R) (T := F_R) (N := 32) hx hb ht iw_R hown hK hP 0 rfl rfl 5 (by decide) (ht _ wd_682) (fun _ h9 => h9) rfl d_R_zone_70 ?_
            refine lv_aload_n hx hb d_R_zone_73 rfl (lv_at hl 0 rfl) ?_
            refine va_get (ci := 8) (v := .int (s_9.1 2)) (C := R_R) (T := F_R) (N := 32) hx hb ht iw_R hown hK hP 0 rfl rfl 2 (by decide) (ht _ wd_679) (fun _ h9 => h9) rfl d_R_zone_74 ?_
            refine lv_iload_n hx hb d_R_zone_77 rfl (lv_at hl 2 rfl) ?_
            obtain ⟨hi11, hf⟩ := tg_of hf
            refine va_iast (f := s_9.2.1 1) hx hb hK hP (cwR_D hd) hS 2 1 rfl rfl hi11 d_R_zone_78 (fun H locs hP _ hS => ?_)
            replace hP : va_P D clS (cwR ad ta (tI (tI (tF s_9 0 (0 : Int32)) 0 ((s_9.1 2).toNatClampNeg) p0) 1 ((s_9.1 2).toNatClampNeg) p1)) H := hP
            refine lv_aload_n hx hb d_R_zone_79 rfl (lv_at hl 0 rfl) ?_
            refine va_get (ci := 8) (v := .ref (ad 3)) (C := R_R) (T := F_R) (N := 32) hx hb ht iw_R hown hK hP 0 rfl rfl 6 (by decide) (ht _ wd_683) (fun _ h9 => h9) rfl d_R_zone_80 ?_
            refine lv_aload_n hx hb d_R_zone_83 rfl (lv_at hl 0 rfl) ?_
            refine va_get (ci := 8) (v := .int (s_9.1 2)) (C := R_R) (T := F_R) (N := 32) hx hb ht iw_R hown hK hP 0 rfl rfl 2 (by decide) (ht _ wd_679) (fun _ h9 => h9) rfl d_R_zone_84 ?_
            refine lv_iload_n hx hb d_R_zone_87 rfl (lv_at hl 3 rfl) ?_
            obtain ⟨hi12, hf⟩ := tg_of hf
            refine va_iast (f := s_9.2.1 2) hx hb hK hP (cwR_D hd) hS 3 2 rfl rfl hi12 d_R_zone_88 (fun H locs hP _ hS => ?_)
            replace hP : va_P D clS (cwR ad ta (tI (tI (tI (tF s_9 0 (0 : Int32)) 0 ((s_9.1 2).toNatClampNeg) p0) 1 ((s_9.1 2).toNatClampNeg) p1) 2 ((s_9.1 2).toNatClampNeg) p2)) H := hP
            refine lv_aload_n hx hb d_R_zone_89 rfl (lv_at hl 0 rfl) ?_
            refine lv_dup hx hb d_R_zone_90 rfl ?_
            refine va_get (ci := 8) (v := .int (s_9.1 2)) (C := R_R) (T := F_R) (N := 32) hx hb ht iw_R hown hK hP 0 rfl rfl 2 (by decide) (ht _ wd_679) (fun _ h9 => h9) rfl d_R_zone_91 ?_
            refine lv_iconst (v := (1 : Int32)) hx hb d_R_zone_94 (by decide) ?_
            refine lv_iadd hx hb d_R_zone_95 ?_
            refine va_put (ci := 8) (v := .int ((s_9.1 2) + (1 : Int32))) (ty := .int) (C := R_R) (T := F_R) (N := 32) hx hb ht iw_R ft_R to_R nm_R hown hK hP (cwR_D hd) hS 0 rfl rfl 2 (by decide) (ht _ wd_679) (fun _ h9 => h9) rfl (by decide +kernel) rfl rfl (Nat.le_of_ble_eq_true rfl) d_R_zone_96 (fun H locs hP _ hS => ?_)
            replace hP : va_P D clS (cwR ad ta (tF (tI (tI (tI (tF s_9 0 (0 : Int32)) 0 ((s_9.1 2).toNatClampNeg) p0) 1 ((s_9.1 2).toNatClampNeg) p1) 2 ((s_9.1 2).toNatClampNeg) p2) 2 ((s_9.1 2) + (1 : Int32)))) H := hP
            refine lv_aload_n hx hb d_R_zone_99 rfl (lv_at hl 0 rfl) ?_
            refine va_get (ci := 8) (v := .int ((s_9.1 2) + (1 : Int32))) (C := R_R) (T := F_R) (N := 32) hx hb ht iw_R hown hK hP 0 rfl rfl 2 (by decide) (ht _ wd_679) (fun _ h9 => h9) rfl d_R_zone_100 ?_
            refine lv_iconst (v := (1 : Int32)) hx hb d_R_zone_103 (by decide) ?_
            refine lv_isub hx hb d_R_zone_104 ?_
            obtain ⟨rfl, rfl⟩ := tp_of hf
            exact W.iret (v := (((s_9.1 2) + (1 : Int32)) - (1 : Int32))) hx hb hr (fun t ht hW => ⟨rfl, by rw [ht]; exact hP, hS.F ht⟩) hS.2.2 d_R_zone_105
          · replace hf := ti_neg hc hf
            refine lv_iconst (v := (0 : Int32)) hx hb d_R_zone_57 (by decide) ?_
            obtain ⟨rfl, rfl⟩ := tp_of hf
            exact W.iret (v := (0 : Int32)) hx hb hr (fun t ht hW => ⟨rfl, by rw [ht]; exact hP, hS.F ht⟩) hS.2.2 d_R_zone_58
        · replace hf := ti_pos hc hf
          refine lv_iconst (v := (2 : Int32)) hx hb d_R_zone_42 (by decide) ?_
          refine lv_goto (tgt := 47) hx hb d_R_zone_43 (by decide) ?_
          refine va_put (ci := 8) (v := .int (2 : Int32)) (ty := .int) (C := R_R) (T := F_R) (N := 32) hx hb ht iw_R ft_R to_R nm_R hown hK hP (cwR_D hd) hS 0 rfl rfl 0 (by decide) (ht _ wd_677) (fun _ h9 => h9) rfl (by decide +kernel) rfl rfl (Nat.le_of_ble_eq_true rfl) d_R_zone_47 (fun H locs hP _ hS => ?_)
          replace hP : va_P D clS (cwR ad ta (tF s_9 0 (2 : Int32))) H := hP
          refine lv_aload_n hx hb d_R_zone_50 rfl (lv_at hl 0 rfl) ?_
          refine va_get (ci := 8) (v := .int (2 : Int32)) (C := R_R) (T := F_R) (N := 32) hx hb ht iw_R hown hK hP 0 rfl rfl 0 (by decide) (ht _ wd_677) (fun _ h9 => h9) rfl d_R_zone_51 ?_
          refine lv_if_le (tgt := 59) hx hb d_R_zone_54 (by decide) (fun hc => ?_) (fun hc => ?_)
          · replace hf := ti_pos hc hf
            refine lv_aload_n hx hb d_R_zone_59 rfl (lv_at hl 0 rfl) ?_
            refine va_get (ci := 8) (v := .ref (ad 1)) (C := R_R) (T := F_R) (N := 32) hx hb ht iw_R hown hK hP 0 rfl rfl 4 (by decide) (ht _ wd_681) (fun _ h9 => h9) rfl d_R_zone_60 ?_
            refine lv_aload_n hx hb d_R_zone_63 rfl (lv_at hl 0 rfl) ?_
            refine va_get (ci := 8) (v := .int (s_9.1 2)) (C := R_R) (T := F_R) (N := 32) hx hb ht iw_R hown hK hP 0 rfl rfl 2 (by decide) (ht _ wd_679) (fun _ h9 => h9) rfl d_R_zone_64 ?_
            refine lv_iload_n hx hb d_R_zone_67 rfl (lv_at hl 1 rfl) ?_
            obtain ⟨hi13, hf⟩ := tg_of hf
            refine va_iast (f := s_9.2.1 0) hx hb hK hP (cwR_D hd) hS 1 0 rfl rfl hi13 d_R_zone_68 (fun H locs hP _ hS => ?_)
            replace hP : va_P D clS (cwR ad ta (tI (tF s_9 0 (2 : Int32)) 0 ((s_9.1 2).toNatClampNeg) p0)) H := hP
            refine lv_aload_n hx hb d_R_zone_69 rfl (lv_at hl 0 rfl) ?_
            refine va_get (ci := 8) (v := .ref (ad 2)) (C := R_R) (T := F_R) (N := 32) hx hb ht iw_R hown hK hP 0 rfl rfl 5 (by decide) (ht _ wd_682) (fun _ h9 => h9) rfl d_R_zone_70 ?_
            refine lv_aload_n hx hb d_R_zone_73 rfl (lv_at hl 0 rfl) ?_
            refine va_get (ci := 8) (v := .int (s_9.1 2)) (C := R_R) (T := F_R) (N := 32) hx hb ht iw_R hown hK hP 0 rfl rfl 2 (by decide) (ht _ wd_679) (fun _ h9 => h9) rfl d_R_zone_74 ?_
            refine lv_iload_n hx hb d_R_zone_77 rfl (lv_at hl 2 rfl) ?_
            obtain ⟨hi14, hf⟩ := tg_of hf
            refine va_iast (f := s_9.2.1 1) hx hb hK hP (cwR_D hd) hS 2 1 rfl rfl hi14 d_R_zone_78 (fun H locs hP _ hS => ?_)
            replace hP : va_P D clS (cwR ad ta (tI (tI (tF s_9 0 (2 : Int32)) 0 ((s_9.1 2).toNatClampNeg) p0) 1 ((s_9.1 2).toNatClampNeg) p1)) H := hP
            refine lv_aload_n hx hb d_R_zone_79 rfl (lv_at hl 0 rfl) ?_
            refine va_get (ci := 8) (v := .ref (ad 3)) (C := R_R) (T := F_R) (N := 32) hx hb ht iw_R hown hK hP 0 rfl rfl 6 (by decide) (ht _ wd_683) (fun _ h9 => h9) rfl d_R_zone_80 ?_
            refine lv_aload_n hx hb d_R_zone_83 rfl (lv_at hl 0 rfl) ?_
            refine va_get (ci := 8) (v := .int (s_9.1 2)) (C := R_R) (T := F_R) (N := 32) hx hb ht iw_R hown hK hP 0 rfl rfl 2 (by decide) (ht _ wd_679) (fun _ h9 => h9) rfl d_R_zone_84 ?_
            refine lv_iload_n hx hb d_R_zone_87 rfl (lv_at hl 3 rfl) ?_
            obtain ⟨hi15, hf⟩ := tg_of hf
            refine va_iast (f := s_9.2.1 2) hx hb hK hP (cwR_D hd) hS 3 2 rfl rfl hi15 d_R_zone_88 (fun H locs hP _ hS => ?_)
            replace hP : va_P D clS (cwR ad ta (tI (tI (tI (tF s_9 0 (2 : Int32)) 0 ((s_9.1 2).toNatClampNeg) p0) 1 ((s_9.1 2).toNatClampNeg) p1) 2 ((s_9.1 2).toNatClampNeg) p2)) H := hP
            refine lv_aload_n hx hb d_R_zone_89 rfl (lv_at hl 0 rfl) ?_
            refine lv_dup hx hb d_R_zone_90 rfl ?_
            refine va_get (ci := 8) (v := .int (s_9.1 2)) (C := R_R) (T := F_R) (N := 32) hx hb ht iw_R hown hK hP 0 rfl rfl 2 (by decide) (ht _ wd_679) (fun _ h9 => h9) rfl d_R_zone_91 ?_
            refine lv_iconst (v := (1 : Int32)) hx hb d_R_zone_94 (by decide) ?_
            refine lv_iadd hx hb d_R_zone_95 ?_
            refine va_put (ci := 8) (v := .int ((s_9.1 2) + (1 : Int32))) (ty := .int) (C := R_R) (T := F_R) (N := 32) hx hb ht iw_R ft_R to_R nm_R hown hK hP (cwR_D hd) hS 0 rfl rfl 2 (by decide) (ht _ wd_679) (fun _ h9 => h9) rfl (by decide +kernel) rfl rfl (Nat.le_of_ble_eq_true rfl) d_R_zone_96 (fun H locs hP _ hS => ?_)
            replace hP : va_P D clS (cwR ad ta (tF (tI (tI (tI (tF s_9 0 (2 : Int32)) 0 ((s_9.1 2).toNatClampNeg) p0) 1 ((s_9.1 2).toNatClampNeg) p1) 2 ((s_9.1 2).toNatClampNeg) p2) 2 ((s_9.1 2) + (1 : Int32)))) H := hP
            refine lv_aload_n hx hb d_R_zone_99 rfl (lv_at hl 0 rfl) ?_
            refine va_get (ci := 8) (v := .int ((s_9.1 2) + (1 : Int32))) (C := R_R) (T := F_R) (N := 32) hx hb ht iw_R hown hK hP 0 rfl rfl 2 (by decide) (ht _ wd_679) (fun _ h9 => h9) rfl d_R_zone_100 ?_
            refine lv_iconst (v := (1 : Int32)) hx hb d_R_zone_103 (by decide) ?_
            refine lv_isub hx hb d_R_zone_104 ?_
            obtain ⟨rfl, rfl⟩ := tp_of hf
            exact W.iret (v := (((s_9.1 2) + (1 : Int32)) - (1 : Int32))) hx hb hr (fun t ht hW => ⟨rfl, by rw [ht]; exact hP, hS.F ht⟩) hS.2.2 d_R_zone_105
          · replace hf := ti_neg hc hf
            refine lv_iconst (v := (0 : Int32)) hx hb d_R_zone_57 (by decide) ?_
            obtain ⟨rfl, rfl⟩ := tp_of hf
            exact W.iret (v := (0 : Int32)) hx hb hr (fun t ht hW => ⟨rfl, by rw [ht]; exact hP, hS.F ht⟩) hS.2.2 d_R_zone_58
      · replace hf := ti_pos hc hf
        refine lv_iconst (v := (1 : Int32)) hx hb d_R_zone_29 (by decide) ?_
        refine lv_goto (tgt := 47) hx hb d_R_zone_30 (by decide) ?_
        refine va_put (ci := 8) (v := .int (1 : Int32)) (ty := .int) (C := R_R) (T := F_R) (N := 32) hx hb ht iw_R ft_R to_R nm_R hown hK hP (cwR_D hd) hS 0 rfl rfl 0 (by decide) (ht _ wd_677) (fun _ h9 => h9) rfl (by decide +kernel) rfl rfl (Nat.le_of_ble_eq_true rfl) d_R_zone_47 (fun H locs hP _ hS => ?_)
        replace hP : va_P D clS (cwR ad ta (tF s_9 0 (1 : Int32))) H := hP
        refine lv_aload_n hx hb d_R_zone_50 rfl (lv_at hl 0 rfl) ?_
        refine va_get (ci := 8) (v := .int (1 : Int32)) (C := R_R) (T := F_R) (N := 32) hx hb ht iw_R hown hK hP 0 rfl rfl 0 (by decide) (ht _ wd_677) (fun _ h9 => h9) rfl d_R_zone_51 ?_
        refine lv_if_le (tgt := 59) hx hb d_R_zone_54 (by decide) (fun hc => ?_) (fun hc => ?_)
        · replace hf := ti_pos hc hf
          refine lv_aload_n hx hb d_R_zone_59 rfl (lv_at hl 0 rfl) ?_
          refine va_get (ci := 8) (v := .ref (ad 1)) (C := R_R) (T := F_R) (N := 32) hx hb ht iw_R hown hK hP 0 rfl rfl 4 (by decide) (ht _ wd_681) (fun _ h9 => h9) rfl d_R_zone_60 ?_
          refine lv_aload_n hx hb d_R_zone_63 rfl (lv_at hl 0 rfl) ?_
          refine va_get (ci := 8) (v := .int (s_9.1 2)) (C := R_R) (T := F_R) (N := 32) hx hb ht iw_R hown hK hP 0 rfl rfl 2 (by decide) (ht _ wd_679) (fun _ h9 => h9) rfl d_R_zone_64 ?_
          refine lv_iload_n hx hb d_R_zone_67 rfl (lv_at hl 1 rfl) ?_
          obtain ⟨hi16, hf⟩ := tg_of hf
          refine va_iast (f := s_9.2.1 0) hx hb hK hP (cwR_D hd) hS 1 0 rfl rfl hi16 d_R_zone_68 (fun H locs hP _ hS => ?_)
          replace hP : va_P D clS (cwR ad ta (tI (tF s_9 0 (1 : Int32)) 0 ((s_9.1 2).toNatClampNeg) p0)) H := hP
          refine lv_aload_n hx hb d_R_zone_69 rfl (lv_at hl 0 rfl) ?_
          refine va_get (ci := 8) (v := .ref (ad 2)) (C := R_R) (T := F_R) (N := 32) hx hb ht iw_R hown hK hP 0 rfl rfl 5 (by decide) (ht _ wd_682) (fun _ h9 => h9) rfl d_R_zone_70 ?_
          refine lv_aload_n hx hb d_R_zone_73 rfl (lv_at hl 0 rfl) ?_
          refine va_get (ci := 8) (v := .int (s_9.1 2)) (C := R_R) (T := F_R) (N := 32) hx hb ht iw_R hown hK hP 0 rfl rfl 2 (by decide) (ht _ wd_679) (fun _ h9 => h9) rfl d_R_zone_74 ?_
          refine lv_iload_n hx hb d_R_zone_77 rfl (lv_at hl 2 rfl) ?_
          obtain ⟨hi17, hf⟩ := tg_of hf
          refine va_iast (f := s_9.2.1 1) hx hb hK hP (cwR_D hd) hS 2 1 rfl rfl hi17 d_R_zone_78 (fun H locs hP _ hS => ?_)
          replace hP : va_P D clS (cwR ad ta (tI (tI (tF s_9 0 (1 : Int32)) 0 ((s_9.1 2).toNatClampNeg) p0) 1 ((s_9.1 2).toNatClampNeg) p1)) H := hP
          refine lv_aload_n hx hb d_R_zone_79 rfl (lv_at hl 0 rfl) ?_
          refine va_get (ci := 8) (v := .ref (ad 3)) (C := R_R) (T := F_R) (N := 32) hx hb ht iw_R hown hK hP 0 rfl rfl 6 (by decide) (ht _ wd_683) (fun _ h9 => h9) rfl d_R_zone_80 ?_
          refine lv_aload_n hx hb d_R_zone_83 rfl (lv_at hl 0 rfl) ?_
          refine va_get (ci := 8) (v := .int (s_9.1 2)) (C := R_R) (T := F_R) (N := 32) hx hb ht iw_R hown hK hP 0 rfl rfl 2 (by decide) (ht _ wd_679) (fun _ h9 => h9) rfl d_R_zone_84 ?_
          refine lv_iload_n hx hb d_R_zone_87 rfl (lv_at hl 3 rfl) ?_
          obtain ⟨hi18, hf⟩ := tg_of hf
          refine va_iast (f := s_9.2.1 2) hx hb hK hP (cwR_D hd) hS 3 2 rfl rfl hi18 d_R_zone_88 (fun H locs hP _ hS => ?_)
          replace hP : va_P D clS (cwR ad ta (tI (tI (tI (tF s_9 0 (1 : Int32)) 0 ((s_9.1 2).toNatClampNeg) p0) 1 ((s_9.1 2).toNatClampNeg) p1) 2 ((s_9.1 2).toNatClampNeg) p2)) H := hP
          refine lv_aload_n hx hb d_R_zone_89 rfl (lv_at hl 0 rfl) ?_
          refine lv_dup hx hb d_R_zone_90 rfl ?_
          refine va_get (ci := 8) (v := .int (s_9.1 2)) (C := R_R) (T := F_R) (N := 32) hx hb ht iw_R hown hK hP 0 rfl rfl 2 (by decide) (ht _ wd_679) (fun _ h9 => h9) rfl d_R_zone_91 ?_
          refine lv_iconst (v := (1 : Int32)) hx hb d_R_zone_94 (by decide) ?_
          refine lv_iadd hx hb d_R_zone_95 ?_
          refine va_put (ci := 8) (v := .int ((s_9.1 2) + (1 : Int32))) (ty := .int) (C := R_R) (T := F_R) (N := 32) hx hb ht iw_R ft_R to_R nm_R hown hK hP (cwR_D hd) hS 0 rfl rfl 2 (by decide) (ht _ wd_679) (fun _ h9 => h9) rfl (by decide +kernel) rfl rfl (Nat.le_of_ble_eq_true rfl) d_R_zone_96 (fun H locs hP _ hS => ?_)
          replace hP : va_P D clS (cwR ad ta (tF (tI (tI (tI (tF s_9 0 (1 : Int32)) 0 ((s_9.1 2).toNatClampNeg) p0) 1 ((s_9.1 2).toNatClampNeg) p1) 2 ((s_9.1 2).toNatClampNeg) p2) 2 ((s_9.1 2) + (1 : Int32)))) H := hP
          refine lv_aload_n hx hb d_R_zone_99 rfl (lv_at hl 0 rfl) ?_
          refine va_get (ci := 8) (v := .int ((s_9.1 2) + (1 : Int32))) (C := R_R) (T := F_R) (N := 32) hx hb ht iw_R hown hK hP 0 rfl rfl 2 (by decide) (ht _ wd_679) (fun _ h9 => h9) rfl d_R_zone_100 ?_
          refine lv_iconst (v := (1 : Int32)) hx hb d_R_zone_103 (by decide) ?_
          refine lv_isub hx hb d_R_zone_104 ?_
          obtain ⟨rfl, rfl⟩ := tp_of hf
          exact W.iret (v := (((s_9.1 2) + (1 : Int32)) - (1 : Int32))) hx hb hr (fun t ht hW => ⟨rfl, by rw [ht]; exact hP, hS.F ht⟩) hS.2.2 d_R_zone_105
        · replace hf := ti_neg hc hf
          refine lv_iconst (v := (0 : Int32)) hx hb d_R_zone_57 (by decide) ?_
          obtain ⟨rfl, rfl⟩ := tp_of hf
          exact W.iret (v := (0 : Int32)) hx hb hr (fun t ht hW => ⟨rfl, by rw [ht]; exact hP, hS.F ht⟩) hS.2.2 d_R_zone_58
abbrev rm_R_street : Room := { frames := 2, cells := 0, slots := 0, locals := 43 }
set_option maxHeartbeats 4000000 in
set_option maxRecDepth 100000 in
theorem mc_R_street (l : Launch) {D : va_G} {ad : Nat → Nat} {ta : Nat → ClassId} (hd : tD 26 ad) {σ σ' : tS} {p0 : Int32} {p1 : Int32} {p2 : Int32} {p3 : Int32} {p4 : Int32} {r : Int32} (hf : mf_R_street p0 p1 p2 p3 p4 σ = some (r, σ')) : Met l y_R_street (.code y_R_street b_R_street 7 (some .int) :: tw) rm_R_street (tP D clS (tyR ta) (cwR ad ta σ) [.ref (ad 0), .int p0, .int p1, .int p2, .int p3, .int p4]) (tQ D clS (cwR ad ta σ') (some (.int r)) (tA 26 ad)) 0 0 (tA 26 ad) := by
  refine Met.ofW (cc := b_R_street) (maxL := 7) (ret := (some .int)) (by decide) rfl ?_
  intro p e s m args below meth c s₁ B hml hv
  obtain ⟨rfl, hP, hK, hN⟩ := hv
  have hx := B.exec
  have hb := B.bytes
  have hr := B.returns
  have ht : ∀ w ∈ tw, w.before [.ref (ad 0), .int p0, .int p1, .int p2, .int p3, .int p4].toArray s = true := fun w h => atoms_spec (ws := (.code y_R_street b_R_street 7 (some .int) :: tw)) B.pre w (List.mem_cons_of_mem _ h)
  have hown : s.vm.findClass R_R = some m.cls := findClass_of_methodNamed B.named
  have hlocks := B.notSynchronized
  have CX : tC p s m [.ref (ad 0), .int p0, .int p1, .int p2, .int p3, .int p4].toArray meth c b_R_street (some .int) 7 R_R D clS (tyR ta) := ⟨hx, hb, hr, hml, hown, ht, hlocks, hK, hN⟩
  have hS : va_S (tA 26 ad) s.heap s.heap [] := va_S.rf
  have hl := lv_entry ([.ref (ad 0), .int p0, .int p1, .int p2, .int p3, .int p4]) (n := 7) (Nat.le_of_ble_eq_true rfl)
  rw [lg_entry_eq]
  generalize (lg_sl ([.ref (ad 0), .int p0, .int p1, .int p2, .int p3, .int p4]) ++ List.replicate (7 - (lg_sl ([.ref (ad 0), .int p0, .int p1, .int p2, .int p3, .int p4])).length) Slot.unset).toArray = ls at hl ⊢
  replace hl : lv_has ls 7 [(0, .ref (ad 0)), (1, .int p0), (2, .int p1), (3, .int p2), (4, .int p3), (5, .int p4)] := hl
  unfold mf_R_street at hf
  refine lv_aload_n hx hb d_R_street_0 rfl (lv_at hl 0 rfl) ?_
  refine lv_iload_n hx hb d_R_street_1 rfl (lv_at hl 1 rfl) ?_
  obtain ⟨r_1, s_1, hq1, hf⟩ := tb2_of hf
  refine tr_calli (va_runV (C := R_R) (As := [.int p0]) (rest := []) ⟨hx, hb, hml, hown, ht⟩ (mc_R_isNode l hd hq1) ⟨(tw_cb (n := 1) ht wc_R_isNode wd_43 wd_786 ⟨rfl, rfl⟩ (by decide +kernel) ⟨(Nat.le_of_ble_eq_true rfl), (Nat.le_of_ble_eq_true rfl)⟩), ht _ wd_788, ht _ wd_16⟩ ⟨tP_blind, va_recv hK hP (ci := 8) (q0 := 0) rfl rfl, fun U hU hW => ⟨rfl, by rw [hU]; exact hP, va_K.moved hW.alike hK, tW_warm hW hN⟩⟩ rfl rfl hl.1 rfl (lv_room (Nat.le_of_ble_eq_true rfl)) d_R_street_2 ⟨Nat.zero_le _, Nat.zero_le _⟩) hS (fun _ h => h.elim) (fun _ h => h.elim) (fun H locs hP hS => ?_)
  refine lv_if_eq (tgt := 59) hx hb d_R_street_5 (by decide) (fun hc => ?_) (fun hc => ?_)
  · replace hf := ti_pos hc hf
    refine lv_iconst (v := (0 : Int32)) hx hb d_R_street_59 (by decide) ?_
    refine lv_istore (lv' := [(6, .int (0 : Int32)), (0, .ref (ad 0)), (1, .int p0), (2, .int p1), (3, .int p2), (4, .int p3), (5, .int p4)]) hx hb d_R_street_60 hl (by decide) rfl (fun ls hl => ?_)
    refine lv_aload_n hx hb d_R_street_62 rfl (lv_at hl 1 rfl) ?_
    refine lv_iload hx hb d_R_street_63 (lv_at hl 0 rfl) ?_
    refine lv_if_ne (tgt := 72) hx hb d_R_street_65 (by decide) (fun hc => ?_) (fun hc => ?_)
    · replace hf := ti_neg hc hf
      refine lv_aload_n hx hb d_R_street_72 rfl (lv_at hl 1 rfl) ?_
      refine va_get (ci := 8) (v := .int (s_1.1 3)) (C := R_R) (T := F_R) (N := 32) hx hb ht iw_R hown hK hP 0 rfl rfl 3 (by decide) (ht _ wd_680) (fun _ h9 => h9) rfl d_R_street_73 ?_
      refine lv_bipush (v := (40 : Int32)) hx hb d_R_street_76 (by decide) ?_
      refine lv_icmp_ne (tgt := 85) hx hb d_R_street_78 (by decide) (fun hc => ?_) (fun hc => ?_)
      · replace hf := ti_neg hc hf
        refine lv_iconst (v := (0 : Int32)) hx hb d_R_street_85 (by decide) ?_
        refine va_put (ci := 8) (v := .int (0 : Int32)) (ty := .int) (C := R_R) (T := F_R) (N := 32) hx hb ht iw_R ft_R to_R nm_R hown hK hP (cwR_D hd) hS 0 rfl rfl 0 (by decide) (ht _ wd_677) (fun _ h9 => h9) rfl (by decide +kernel) rfl rfl (Nat.le_of_ble_eq_true rfl) d_R_street_86 (fun H locs hP _ hS => ?_)
        replace hP : va_P D clS (cwR ad ta (tF s_1 0 (0 : Int32))) H := hP
        refine lv_aload_n hx hb d_R_street_89 rfl (lv_at hl 1 rfl) ?_
        refine va_get (ci := 8) (v := .int (0 : Int32)) (C := R_R) (T := F_R) (N := 32) hx hb ht iw_R hown hK hP 0 rfl rfl 0 (by decide) (ht _ wd_677) (fun _ h9 => h9) rfl d_R_street_90 ?_
        refine lv_if_le (tgt := 98) hx hb d_R_street_93 (by decide) (fun hc => ?_) (fun hc => ?_)
        · replace hf := ti_pos hc hf
          refine lv_aload_n hx hb d_R_street_98 rfl (lv_at hl 1 rfl) ?_
          refine va_get (ci := 8) (v := .ref (ad 4)) (C := R_R) (T := F_R) (N := 32) hx hb ht iw_R hown hK hP 0 rfl rfl 7 (by decide) (ht _ wd_684) (fun _ h9 => h9) rfl d_R_street_99 ?_
          refine lv_aload_n hx hb d_R_street_102 rfl (lv_at hl 1 rfl) ?_
          refine va_get (ci := 8) (v := .int (s_1.1 3)) (C := R_R) (T := F_R) (N := 32) hx hb ht iw_R hown hK hP 0 rfl rfl 3 (by decide) (ht _ wd_680) (fun _ h9 => h9) rfl d_R_street_103 ?_
          refine lv_iload_n hx hb d_R_street_106 rfl (lv_at hl 2 rfl) ?_
          obtain ⟨hi2, hf⟩ := tg_of hf
          refine va_iast (f := s_1.2.1 3) hx hb hK hP (cwR_D hd) hS 4 3 rfl rfl hi2 d_R_street_107 (fun H locs hP _ hS => ?_)
          replace hP : va_P D clS (cwR ad ta (tI (tF s_1 0 (0 : Int32)) 3 ((s_1.1 3).toNatClampNeg) p0)) H := hP
          refine lv_aload_n hx hb d_R_street_108 rfl (lv_at hl 1 rfl) ?_
          refine va_get (ci := 8) (v := .ref (ad 5)) (C := R_R) (T := F_R) (N := 32) hx hb ht iw_R hown hK hP 0 rfl rfl 8 (by decide) (ht _ wd_685) (fun _ h9 => h9) rfl d_R_street_109 ?_
          refine lv_aload_n hx hb d_R_street_112 rfl (lv_at hl 1 rfl) ?_
          refine va_get (ci := 8) (v := .int (s_1.1 3)) (C := R_R) (T := F_R) (N := 32) hx hb ht iw_R hown hK hP 0 rfl rfl 3 (by decide) (ht _ wd_680) (fun _ h9 => h9) rfl d_R_street_113 ?_
          refine lv_iload_n hx hb d_R_street_116 rfl (lv_at hl 3 rfl) ?_
          obtain ⟨hi3, hf⟩ := tg_of hf
          refine va_iast (f := s_1.2.1 4) hx hb hK hP (cwR_D hd) hS 5 4 rfl rfl hi3 d_R_street_117 (fun H locs hP _ hS => ?_)
          replace hP : va_P D clS (cwR ad ta (tI (tI (tF s_1 0 (0 : Int32)) 3 ((s_1.1 3).toNatClampNeg) p0) 4 ((s_1.1 3).toNatClampNeg) p1)) H := hP
          refine lv_aload_n hx hb d_R_street_118 rfl (lv_at hl 1 rfl) ?_
          refine va_get (ci := 8) (v := .ref (ad 6)) (C := R_R) (T := F_R) (N := 32) hx hb ht iw_R hown hK hP 0 rfl rfl 9 (by decide) (ht _ wd_686) (fun _ h9 => h9) rfl d_R_street_119 ?_
          refine lv_aload_n hx hb d_R_street_122 rfl (lv_at hl 1 rfl) ?_
          refine va_get (ci := 8) (v := .int (s_1.1 3)) (C := R_R) (T := F_R) (N := 32) hx hb ht iw_R hown hK hP 0 rfl rfl 3 (by decide) (ht _ wd_680) (fun _ h9 => h9) rfl d_R_street_123 ?_
          refine lv_iload_n hx hb d_R_street_126 rfl (lv_at hl 4 rfl) ?_
          obtain ⟨hi4, hf⟩ := tg_of hf
          refine va_iast (f := s_1.2.1 5) hx hb hK hP (cwR_D hd) hS 6 5 rfl rfl hi4 d_R_street_127 (fun H locs hP _ hS => ?_)
          replace hP : va_P D clS (cwR ad ta (tI (tI (tI (tF s_1 0 (0 : Int32)) 3 ((s_1.1 3).toNatClampNeg) p0) 4 ((s_1.1 3).toNatClampNeg) p1) 5 ((s_1.1 3).toNatClampNeg) p2)) H := hP
          refine lv_aload_n hx hb d_R_street_128 rfl (lv_at hl 1 rfl) ?_
          refine va_get (ci := 8) (v := .ref (ad 7)) (C := R_R) (T := F_R) (N := 32) hx hb ht iw_R hown hK hP 0 rfl rfl 10 (by decide) (ht _ wd_687) (fun _ h9 => h9) rfl d_R_street_129 ?_
          refine lv_aload_n hx hb d_R_street_132 rfl (lv_at hl 1 rfl) ?_
          refine va_get (ci := 8) (v := .int (s_1.1 3)) (C := R_R) (T := F_R) (N := 32) hx hb ht iw_R hown hK hP 0 rfl rfl 3 (by decide) (ht _ wd_680) (fun _ h9 => h9) rfl d_R_street_133 ?_
          refine lv_iload hx hb d_R_street_136 (lv_at hl 5 rfl) ?_
          obtain ⟨hi5, hf⟩ := tg_of hf
          refine va_iast (f := s_1.2.1 6) hx hb hK hP (cwR_D hd) hS 7 6 rfl rfl hi5 d_R_street_138 (fun H locs hP _ hS => ?_)
          replace hP : va_P D clS (cwR ad ta (tI (tI (tI (tI (tF s_1 0 (0 : Int32)) 3 ((s_1.1 3).toNatClampNeg) p0) 4 ((s_1.1 3).toNatClampNeg) p1) 5 ((s_1.1 3).toNatClampNeg) p2) 6 ((s_1.1 3).toNatClampNeg) p3)) H := hP
          refine lv_aload_n hx hb d_R_street_139 rfl (lv_at hl 1 rfl) ?_
          refine va_get (ci := 8) (v := .ref (ad 8)) (C := R_R) (T := F_R) (N := 32) hx hb ht iw_R hown hK hP 0 rfl rfl 11 (by decide) (ht _ wd_688) (fun _ h9 => h9) rfl d_R_street_140 ?_
          refine lv_aload_n hx hb d_R_street_143 rfl (lv_at hl 1 rfl) ?_
          refine va_get (ci := 8) (v := .int (s_1.1 3)) (C := R_R) (T := F_R) (N := 32) hx hb ht iw_R hown hK hP 0 rfl rfl 3 (by decide) (ht _ wd_680) (fun _ h9 => h9) rfl d_R_street_144 ?_
          refine lv_iload hx hb d_R_street_147 (lv_at hl 6 rfl) ?_
          obtain ⟨hi6, hf⟩ := tg_of hf
          refine va_iast (f := s_1.2.1 7) hx hb hK hP (cwR_D hd) hS 8 7 rfl rfl hi6 d_R_street_149 (fun H locs hP _ hS => ?_)
          replace hP : va_P D clS (cwR ad ta (tI (tI (tI (tI (tI (tF s_1 0 (0 : Int32)) 3 ((s_1.1 3).toNatClampNeg) p0) 4 ((s_1.1 3).toNatClampNeg) p1) 5 ((s_1.1 3).toNatClampNeg) p2) 6 ((s_1.1 3).toNatClampNeg) p3) 7 ((s_1.1 3).toNatClampNeg) p4)) H := hP
          refine lv_aload_n hx hb d_R_street_150 rfl (lv_at hl 1 rfl) ?_
          refine va_get (ci := 8) (v := .ref (ad 11)) (C := R_R) (T := F_R) (N := 32) hx hb ht iw_R hown hK hP 0 rfl rfl 14 (by decide) (ht _ wd_691) (fun _ h9 => h9) rfl d_R_street_151 ?_
          refine lv_aload_n hx hb d_R_street_154 rfl (lv_at hl 1 rfl) ?_
          refine va_get (ci := 8) (v := .int (s_1.1 3)) (C := R_R) (T := F_R) (N := 32) hx hb ht iw_R hown hK hP 0 rfl rfl 3 (by decide) (ht _ wd_680) (fun _ h9 => h9) rfl d_R_street_155 ?_
          refine lv_iconst (v := ((-1) : Int32)) hx hb d_R_street_158 (by decide) ?_
          obtain ⟨hi7, hf⟩ := tg_of hf
          refine va_iast (f := s_1.2.1 10) hx hb hK hP (cwR_D hd) hS 11 10 rfl rfl hi7 d_R_street_159 (fun H locs hP _ hS => ?_)
          replace hP : va_P D clS (cwR ad ta (tI (tI (tI (tI (tI (tI (tF s_1 0 (0 : Int32)) 3 ((s_1.1 3).toNatClampNeg) p0) 4 ((s_1.1 3).toNatClampNeg) p1) 5 ((s_1.1 3).toNatClampNeg) p2) 6 ((s_1.1 3).toNatClampNeg) p3) 7 ((s_1.1 3).toNatClampNeg) p4) 10 ((s_1.1 3).toNatClampNeg) ((-1) : Int32))) H := hP
          refine lv_aload_n hx hb d_R_street_160 rfl (lv_at hl 1 rfl) ?_
          refine lv_dup hx hb d_R_street_161 rfl ?_
          refine va_get (ci := 8) (v := .int (s_1.1 3)) (C := R_R) (T := F_R) (N := 32) hx hb ht iw_R hown hK hP 0 rfl rfl 3 (by decide) (ht _ wd_680) (fun _ h9 => h9) rfl d_R_street_162 ?_
          refine lv_iconst (v := (1 : Int32)) hx hb d_R_street_165 (by decide) ?_
          refine lv_iadd hx hb d_R_street_166 ?_
          refine va_put (ci := 8) (v := .int ((s_1.1 3) + (1 : Int32))) (ty := .int) (C := R_R) (T := F_R) (N := 32) hx hb ht iw_R ft_R to_R nm_R hown hK hP (cwR_D hd) hS 0 rfl rfl 3 (by decide) (ht _ wd_680) (fun _ h9 => h9) rfl (by decide +kernel) rfl rfl (Nat.le_of_ble_eq_true rfl) d_R_street_167 (fun H locs hP _ hS => ?_)
          replace hP : va_P D clS (cwR ad ta (tF (tI (tI (tI (tI (tI (tI (tF s_1 0 (0 : Int32)) 3 ((s_1.1 3).toNatClampNeg) p0) 4 ((s_1.1 3).toNatClampNeg) p1) 5 ((s_1.1 3).toNatClampNeg) p2) 6 ((s_1.1 3).toNatClampNeg) p3) 7 ((s_1.1 3).toNatClampNeg) p4) 10 ((s_1.1 3).toNatClampNeg) ((-1) : Int32)) 3 ((s_1.1 3) + (1 : Int32)))) H := hP
          refine lv_aload_n hx hb d_R_street_170 rfl (lv_at hl 1 rfl) ?_
          refine va_get (ci := 8) (v := .int ((s_1.1 3) + (1 : Int32))) (C := R_R) (T := F_R) (N := 32) hx hb ht iw_R hown hK hP 0 rfl rfl 3 (by decide) (ht _ wd_680) (fun _ h9 => h9) rfl d_R_street_171 ?_
          refine lv_iconst (v := (1 : Int32)) hx hb d_R_street_174 (by decide) ?_
          refine lv_isub hx hb d_R_street_175 ?_
          obtain ⟨rfl, rfl⟩ := tp_of hf
          exact W.iret (v := (((s_1.1 3) + (1 : Int32)) - (1 : Int32))) hx hb hr (fun t ht hW => ⟨rfl, by rw [ht]; exact hP, hS.F ht⟩) hS.2.2 d_R_street_176
        · replace hf := ti_neg hc hf
          refine lv_iconst (v := (0 : Int32)) hx hb d_R_street_96 (by decide) ?_
          obtain ⟨rfl, rfl⟩ := tp_of hf
          exact W.iret (v := (0 : Int32)) hx hb hr (fun t ht hW => ⟨rfl, by rw [ht]; exact hP, hS.F ht⟩) hS.2.2 d_R_street_97
      · replace hf := ti_pos hc hf
        refine lv_iconst (v := (2 : Int32)) hx hb d_R_street_81 (by decide) ?_
        refine lv_goto (tgt := 86) hx hb d_R_street_82 (by decide) ?_
        refine va_put (ci := 8) (v := .int (2 : Int32)) (ty := .int) (C := R_R) (T := F_R) (N := 32) hx hb ht iw_R ft_R to_R nm_R hown hK hP (cwR_D hd) hS 0 rfl rfl 0 (by decide) (ht _ wd_677) (fun _ h9 => h9) rfl (by decide +kernel) rfl rfl (Nat.le_of_ble_eq_true rfl) d_R_street_86 (fun H locs hP _ hS => ?_)
        replace hP : va_P D clS (cwR ad ta (tF s_1 0 (2 : Int32))) H := hP
        refine lv_aload_n hx hb d_R_street_89 rfl (lv_at hl 1 rfl) ?_
        refine va_get (ci := 8) (v := .int (2 : Int32)) (C := R_R) (T := F_R) (N := 32) hx hb ht iw_R hown hK hP 0 rfl rfl 0 (by decide) (ht _ wd_677) (fun _ h9 => h9) rfl d_R_street_90 ?_
        refine lv_if_le (tgt := 98) hx hb d_R_street_93 (by decide) (fun hc => ?_) (fun hc => ?_)
        · replace hf := ti_pos hc hf
          refine lv_aload_n hx hb d_R_street_98 rfl (lv_at hl 1 rfl) ?_
          refine va_get (ci := 8) (v := .ref (ad 4)) (C := R_R) (T := F_R) (N := 32) hx hb ht iw_R hown hK hP 0 rfl rfl 7 (by decide) (ht _ wd_684) (fun _ h9 => h9) rfl d_R_street_99 ?_
          refine lv_aload_n hx hb d_R_street_102 rfl (lv_at hl 1 rfl) ?_
          refine va_get (ci := 8) (v := .int (s_1.1 3)) (C := R_R) (T := F_R) (N := 32) hx hb ht iw_R hown hK hP 0 rfl rfl 3 (by decide) (ht _ wd_680) (fun _ h9 => h9) rfl d_R_street_103 ?_
          refine lv_iload_n hx hb d_R_street_106 rfl (lv_at hl 2 rfl) ?_
          obtain ⟨hi8, hf⟩ := tg_of hf
          refine va_iast (f := s_1.2.1 3) hx hb hK hP (cwR_D hd) hS 4 3 rfl rfl hi8 d_R_street_107 (fun H locs hP _ hS => ?_)
          replace hP : va_P D clS (cwR ad ta (tI (tF s_1 0 (2 : Int32)) 3 ((s_1.1 3).toNatClampNeg) p0)) H := hP
          refine lv_aload_n hx hb d_R_street_108 rfl (lv_at hl 1 rfl) ?_
          refine va_get (ci := 8) (v := .ref (ad 5)) (C := R_R) (T := F_R) (N := 32) hx hb ht iw_R hown hK hP 0 rfl rfl 8 (by decide) (ht _ wd_685) (fun _ h9 => h9) rfl d_R_street_109 ?_
          refine lv_aload_n hx hb d_R_street_112 rfl (lv_at hl 1 rfl) ?_
          refine va_get (ci := 8) (v := .int (s_1.1 3)) (C := R_R) (T := F_R) (N := 32) hx hb ht iw_R hown hK hP 0 rfl rfl 3 (by decide) (ht _ wd_680) (fun _ h9 => h9) rfl d_R_street_113 ?_
          refine lv_iload_n hx hb d_R_street_116 rfl (lv_at hl 3 rfl) ?_
          obtain ⟨hi9, hf⟩ := tg_of hf
          refine va_iast (f := s_1.2.1 4) hx hb hK hP (cwR_D hd) hS 5 4 rfl rfl hi9 d_R_street_117 (fun H locs hP _ hS => ?_)
          replace hP : va_P D clS (cwR ad ta (tI (tI (tF s_1 0 (2 : Int32)) 3 ((s_1.1 3).toNatClampNeg) p0) 4 ((s_1.1 3).toNatClampNeg) p1)) H := hP
          refine lv_aload_n hx hb d_R_street_118 rfl (lv_at hl 1 rfl) ?_
          refine va_get (ci := 8) (v := .ref (ad 6)) (C := R_R) (T := F_R) (N := 32) hx hb ht iw_R hown hK hP 0 rfl rfl 9 (by decide) (ht _ wd_686) (fun _ h9 => h9) rfl d_R_street_119 ?_
          refine lv_aload_n hx hb d_R_street_122 rfl (lv_at hl 1 rfl) ?_
          refine va_get (ci := 8) (v := .int (s_1.1 3)) (C := R_R) (T := F_R) (N := 32) hx hb ht iw_R hown hK hP 0 rfl rfl 3 (by decide) (ht _ wd_680) (fun _ h9 => h9) rfl d_R_street_123 ?_
          refine lv_iload_n hx hb d_R_street_126 rfl (lv_at hl 4 rfl) ?_
          obtain ⟨hi10, hf⟩ := tg_of hf
          refine va_iast (f := s_1.2.1 5) hx hb hK hP (cwR_D hd) hS 6 5 rfl rfl hi10 d_R_street_127 (fun H locs hP _ hS => ?_)
          replace hP : va_P D clS (cwR ad ta (tI (tI (tI (tF s_1 0 (2 : Int32)) 3 ((s_1.1 3).toNatClampNeg) p0) 4 ((s_1.1 3).toNatClampNeg) p1) 5 ((s_1.1 3).toNatClampNeg) p2)) H := hP
          refine lv_aload_n hx hb d_R_street_128 rfl (lv_at hl 1 rfl) ?_
          refine va_get (ci := 8) (v := .ref (ad 7)) (C := R_R) (T := F_R) (N := 32) hx hb ht iw_R hown hK hP 0 rfl rfl 10 (by decide) (ht _ wd_687) (fun _ h9 => h9) rfl d_R_street_129 ?_
          refine lv_aload_n hx hb d_R_street_132 rfl (lv_at hl 1 rfl) ?_
          refine va_get (ci := 8) (v := .int (s_1.1 3)) (C := R_R) (T := F_R) (N := 32) hx hb ht iw_R hown hK hP 0 rfl rfl 3 (by decide) (ht _ wd_680) (fun _ h9 => h9) rfl d_R_street_133 ?_
          refine lv_iload hx hb d_R_street_136 (lv_at hl 5 rfl) ?_
          obtain ⟨hi11, hf⟩ := tg_of hf
          refine va_iast (f := s_1.2.1 6) hx hb hK hP (cwR_D hd) hS 7 6 rfl rfl hi11 d_R_street_138 (fun H locs hP _ hS => ?_)
          replace hP : va_P D clS (cwR ad ta (tI (tI (tI (tI (tF s_1 0 (2 : Int32)) 3 ((s_1.1 3).toNatClampNeg) p0) 4 ((s_1.1 3).toNatClampNeg) p1) 5 ((s_1.1 3).toNatClampNeg) p2) 6 ((s_1.1 3).toNatClampNeg) p3)) H := hP
          refine lv_aload_n hx hb d_R_street_139 rfl (lv_at hl 1 rfl) ?_
          refine va_get (ci := 8) (v := .ref (ad 8)) (C := R_R) (T := F_R) (N := 32) hx hb ht iw_R hown hK hP 0 rfl rfl 11 (by decide) (ht _ wd_688) (fun _ h9 => h9) rfl d_R_street_140 ?_
          refine lv_aload_n hx hb d_R_street_143 rfl (lv_at hl 1 rfl) ?_
          refine va_get (ci := 8) (v := .int (s_1.1 3)) (C := R_R) (T := F_R) (N := 32) hx hb ht iw_R hown hK hP 0 rfl rfl 3 (by decide) (ht _ wd_680) (fun _ h9 => h9) rfl d_R_street_144 ?_
          refine lv_iload hx hb d_R_street_147 (lv_at hl 6 rfl) ?_
          obtain ⟨hi12, hf⟩ := tg_of hf
          refine va_iast (f := s_1.2.1 7) hx hb hK hP (cwR_D hd) hS 8 7 rfl rfl hi12 d_R_street_149 (fun H locs hP _ hS => ?_)
          replace hP : va_P D clS (cwR ad ta (tI (tI (tI (tI (tI (tF s_1 0 (2 : Int32)) 3 ((s_1.1 3).toNatClampNeg) p0) 4 ((s_1.1 3).toNatClampNeg) p1) 5 ((s_1.1 3).toNatClampNeg) p2) 6 ((s_1.1 3).toNatClampNeg) p3) 7 ((s_1.1 3).toNatClampNeg) p4)) H := hP
          refine lv_aload_n hx hb d_R_street_150 rfl (lv_at hl 1 rfl) ?_
          refine va_get (ci := 8) (v := .ref (ad 11)) (C := R_R) (T := F_R) (N := 32) hx hb ht iw_R hown hK hP 0 rfl rfl 14 (by decide) (ht _ wd_691) (fun _ h9 => h9) rfl d_R_street_151 ?_
          refine lv_aload_n hx hb d_R_street_154 rfl (lv_at hl 1 rfl) ?_
          refine va_get (ci := 8) (v := .int (s_1.1 3)) (C := R_R) (T := F_R) (N := 32) hx hb ht iw_R hown hK hP 0 rfl rfl 3 (by decide) (ht _ wd_680) (fun _ h9 => h9) rfl d_R_street_155 ?_
          refine lv_iconst (v := ((-1) : Int32)) hx hb d_R_street_158 (by decide) ?_
          obtain ⟨hi13, hf⟩ := tg_of hf
          refine va_iast (f := s_1.2.1 10) hx hb hK hP (cwR_D hd) hS 11 10 rfl rfl hi13 d_R_street_159 (fun H locs hP _ hS => ?_)
          replace hP : va_P D clS (cwR ad ta (tI (tI (tI (tI (tI (tI (tF s_1 0 (2 : Int32)) 3 ((s_1.1 3).toNatClampNeg) p0) 4 ((s_1.1 3).toNatClampNeg) p1) 5 ((s_1.1 3).toNatClampNeg) p2) 6 ((s_1.1 3).toNatClampNeg) p3) 7 ((s_1.1 3).toNatClampNeg) p4) 10 ((s_1.1 3).toNatClampNeg) ((-1) : Int32))) H := hP
          refine lv_aload_n hx hb d_R_street_160 rfl (lv_at hl 1 rfl) ?_
          refine lv_dup hx hb d_R_street_161 rfl ?_
          refine va_get (ci := 8) (v := .int (s_1.1 3)) (C := R_R) (T := F_R) (N := 32) hx hb ht iw_R hown hK hP 0 rfl rfl 3 (by decide) (ht _ wd_680) (fun _ h9 => h9) rfl d_R_street_162 ?_
          refine lv_iconst (v := (1 : Int32)) hx hb d_R_street_165 (by decide) ?_
          refine lv_iadd hx hb d_R_street_166 ?_
          refine va_put (ci := 8) (v := .int ((s_1.1 3) + (1 : Int32))) (ty := .int) (C := R_R) (T := F_R) (N := 32) hx hb ht iw_R ft_R to_R nm_R hown hK hP (cwR_D hd) hS 0 rfl rfl 3 (by decide) (ht _ wd_680) (fun _ h9 => h9) rfl (by decide +kernel) rfl rfl (Nat.le_of_ble_eq_true rfl) d_R_street_167 (fun H locs hP _ hS => ?_)
          replace hP : va_P D clS (cwR ad ta (tF (tI (tI (tI (tI (tI (tI (tF s_1 0 (2 : Int32)) 3 ((s_1.1 3).toNatClampNeg) p0) 4 ((s_1.1 3).toNatClampNeg) p1) 5 ((s_1.1 3).toNatClampNeg) p2) 6 ((s_1.1 3).toNatClampNeg) p3) 7 ((s_1.1 3).toNatClampNeg) p4) 10 ((s_1.1 3).toNatClampNeg) ((-1) : Int32)) 3 ((s_1.1 3) + (1 : Int32)))) H := hP
          refine lv_aload_n hx hb d_R_street_170 rfl (lv_at hl 1 rfl) ?_
          refine va_get (ci := 8) (v := .int ((s_1.1 3) + (1 : Int32))) (C := R_R) (T := F_R) (N := 32) hx hb ht iw_R hown hK hP 0 rfl rfl 3 (by decide) (ht _ wd_680) (fun _ h9 => h9) rfl d_R_street_171 ?_
          refine lv_iconst (v := (1 : Int32)) hx hb d_R_street_174 (by decide) ?_
          refine lv_isub hx hb d_R_street_175 ?_
          obtain ⟨rfl, rfl⟩ := tp_of hf
          exact W.iret (v := (((s_1.1 3) + (1 : Int32)) - (1 : Int32))) hx hb hr (fun t ht hW => ⟨rfl, by rw [ht]; exact hP, hS.F ht⟩) hS.2.2 d_R_street_176
        · replace hf := ti_neg hc hf
          refine lv_iconst (v := (0 : Int32)) hx hb d_R_street_96 (by decide) ?_
          obtain ⟨rfl, rfl⟩ := tp_of hf
          exact W.iret (v := (0 : Int32)) hx hb hr (fun t ht hW => ⟨rfl, by rw [ht]; exact hP, hS.F ht⟩) hS.2.2 d_R_street_97
    · replace hf := ti_pos hc hf
      refine lv_iconst (v := (1 : Int32)) hx hb d_R_street_68 (by decide) ?_
      refine lv_goto (tgt := 86) hx hb d_R_street_69 (by decide) ?_
      refine va_put (ci := 8) (v := .int (1 : Int32)) (ty := .int) (C := R_R) (T := F_R) (N := 32) hx hb ht iw_R ft_R to_R nm_R hown hK hP (cwR_D hd) hS 0 rfl rfl 0 (by decide) (ht _ wd_677) (fun _ h9 => h9) rfl (by decide +kernel) rfl rfl (Nat.le_of_ble_eq_true rfl) d_R_street_86 (fun H locs hP _ hS => ?_)
      replace hP : va_P D clS (cwR ad ta (tF s_1 0 (1 : Int32))) H := hP
      refine lv_aload_n hx hb d_R_street_89 rfl (lv_at hl 1 rfl) ?_
      refine va_get (ci := 8) (v := .int (1 : Int32)) (C := R_R) (T := F_R) (N := 32) hx hb ht iw_R hown hK hP 0 rfl rfl 0 (by decide) (ht _ wd_677) (fun _ h9 => h9) rfl d_R_street_90 ?_
      refine lv_if_le (tgt := 98) hx hb d_R_street_93 (by decide) (fun hc => ?_) (fun hc => ?_)
      · replace hf := ti_pos hc hf
        refine lv_aload_n hx hb d_R_street_98 rfl (lv_at hl 1 rfl) ?_
        refine va_get (ci := 8) (v := .ref (ad 4)) (C := R_R) (T := F_R) (N := 32) hx hb ht iw_R hown hK hP 0 rfl rfl 7 (by decide) (ht _ wd_684) (fun _ h9 => h9) rfl d_R_street_99 ?_
        refine lv_aload_n hx hb d_R_street_102 rfl (lv_at hl 1 rfl) ?_
        refine va_get (ci := 8) (v := .int (s_1.1 3)) (C := R_R) (T := F_R) (N := 32) hx hb ht iw_R hown hK hP 0 rfl rfl 3 (by decide) (ht _ wd_680) (fun _ h9 => h9) rfl d_R_street_103 ?_
        refine lv_iload_n hx hb d_R_street_106 rfl (lv_at hl 2 rfl) ?_
        obtain ⟨hi14, hf⟩ := tg_of hf
        refine va_iast (f := s_1.2.1 3) hx hb hK hP (cwR_D hd) hS 4 3 rfl rfl hi14 d_R_street_107 (fun H locs hP _ hS => ?_)
        replace hP : va_P D clS (cwR ad ta (tI (tF s_1 0 (1 : Int32)) 3 ((s_1.1 3).toNatClampNeg) p0)) H := hP
        refine lv_aload_n hx hb d_R_street_108 rfl (lv_at hl 1 rfl) ?_
        refine va_get (ci := 8) (v := .ref (ad 5)) (C := R_R) (T := F_R) (N := 32) hx hb ht iw_R hown hK hP 0 rfl rfl 8 (by decide) (ht _ wd_685) (fun _ h9 => h9) rfl d_R_street_109 ?_
        refine lv_aload_n hx hb d_R_street_112 rfl (lv_at hl 1 rfl) ?_
        refine va_get (ci := 8) (v := .int (s_1.1 3)) (C := R_R) (T := F_R) (N := 32) hx hb ht iw_R hown hK hP 0 rfl rfl 3 (by decide) (ht _ wd_680) (fun _ h9 => h9) rfl d_R_street_113 ?_
        refine lv_iload_n hx hb d_R_street_116 rfl (lv_at hl 3 rfl) ?_
        obtain ⟨hi15, hf⟩ := tg_of hf
        refine va_iast (f := s_1.2.1 4) hx hb hK hP (cwR_D hd) hS 5 4 rfl rfl hi15 d_R_street_117 (fun H locs hP _ hS => ?_)
        replace hP : va_P D clS (cwR ad ta (tI (tI (tF s_1 0 (1 : Int32)) 3 ((s_1.1 3).toNatClampNeg) p0) 4 ((s_1.1 3).toNatClampNeg) p1)) H := hP
        refine lv_aload_n hx hb d_R_street_118 rfl (lv_at hl 1 rfl) ?_
        refine va_get (ci := 8) (v := .ref (ad 6)) (C := R_R) (T := F_R) (N := 32) hx hb ht iw_R hown hK hP 0 rfl rfl 9 (by decide) (ht _ wd_686) (fun _ h9 => h9) rfl d_R_street_119 ?_
        refine lv_aload_n hx hb d_R_street_122 rfl (lv_at hl 1 rfl) ?_
        refine va_get (ci := 8) (v := .int (s_1.1 3)) (C := R_R) (T := F_R) (N := 32) hx hb ht iw_R hown hK hP 0 rfl rfl 3 (by decide) (ht _ wd_680) (fun _ h9 => h9) rfl d_R_street_123 ?_
        refine lv_iload_n hx hb d_R_street_126 rfl (lv_at hl 4 rfl) ?_
        obtain ⟨hi16, hf⟩ := tg_of hf
        refine va_iast (f := s_1.2.1 5) hx hb hK hP (cwR_D hd) hS 6 5 rfl rfl hi16 d_R_street_127 (fun H locs hP _ hS => ?_)
        replace hP : va_P D clS (cwR ad ta (tI (tI (tI (tF s_1 0 (1 : Int32)) 3 ((s_1.1 3).toNatClampNeg) p0) 4 ((s_1.1 3).toNatClampNeg) p1) 5 ((s_1.1 3).toNatClampNeg) p2)) H := hP
        refine lv_aload_n hx hb d_R_street_128 rfl (lv_at hl 1 rfl) ?_
        refine va_get (ci := 8) (v := .ref (ad 7)) (C := R_R) (T := F_R) (N := 32) hx hb ht iw_R hown hK hP 0 rfl rfl 10 (by decide) (ht _ wd_687) (fun _ h9 => h9) rfl d_R_street_129 ?_
        refine lv_aload_n hx hb d_R_street_132 rfl (lv_at hl 1 rfl) ?_
        refine va_get (ci := 8) (v := .int (s_1.1 3)) (C := R_R) (T := F_R) (N := 32) hx hb ht iw_R hown hK hP 0 rfl rfl 3 (by decide) (ht _ wd_680) (fun _ h9 => h9) rfl d_R_street_133 ?_
        refine lv_iload hx hb d_R_street_136 (lv_at hl 5 rfl) ?_
        obtain ⟨hi17, hf⟩ := tg_of hf
        refine va_iast (f := s_1.2.1 6) hx hb hK hP (cwR_D hd) hS 7 6 rfl rfl hi17 d_R_street_138 (fun H locs hP _ hS => ?_)
        replace hP : va_P D clS (cwR ad ta (tI (tI (tI (tI (tF s_1 0 (1 : Int32)) 3 ((s_1.1 3).toNatClampNeg) p0) 4 ((s_1.1 3).toNatClampNeg) p1) 5 ((s_1.1 3).toNatClampNeg) p2) 6 ((s_1.1 3).toNatClampNeg) p3)) H := hP
        refine lv_aload_n hx hb d_R_street_139 rfl (lv_at hl 1 rfl) ?_
        refine va_get (ci := 8) (v := .ref (ad 8)) (C := R_R) (T := F_R) (N := 32) hx hb ht iw_R hown hK hP 0 rfl rfl 11 (by decide) (ht _ wd_688) (fun _ h9 => h9) rfl d_R_street_140 ?_
        refine lv_aload_n hx hb d_R_street_143 rfl (lv_at hl 1 rfl) ?_
        refine va_get (ci := 8) (v := .int (s_1.1 3)) (C := R_R) (T := F_R) (N := 32) hx hb ht iw_R hown hK hP 0 rfl rfl 3 (by decide) (ht _ wd_680) (fun _ h9 => h9) rfl d_R_street_144 ?_
        refine lv_iload hx hb d_R_street_147 (lv_at hl 6 rfl) ?_
        obtain ⟨hi18, hf⟩ := tg_of hf
        refine va_iast (f := s_1.2.1 7) hx hb hK hP (cwR_D hd) hS 8 7 rfl rfl hi18 d_R_street_149 (fun H locs hP _ hS => ?_)
        replace hP : va_P D clS (cwR ad ta (tI (tI (tI (tI (tI (tF s_1 0 (1 : Int32)) 3 ((s_1.1 3).toNatClampNeg) p0) 4 ((s_1.1 3).toNatClampNeg) p1) 5 ((s_1.1 3).toNatClampNeg) p2) 6 ((s_1.1 3).toNatClampNeg) p3) 7 ((s_1.1 3).toNatClampNeg) p4)) H := hP
        refine lv_aload_n hx hb d_R_street_150 rfl (lv_at hl 1 rfl) ?_
        refine va_get (ci := 8) (v := .ref (ad 11)) (C := R_R) (T := F_R) (N := 32) hx hb ht iw_R hown hK hP 0 rfl rfl 14 (by decide) (ht _ wd_691) (fun _ h9 => h9) rfl d_R_street_151 ?_
        refine lv_aload_n hx hb d_R_street_154 rfl (lv_at hl 1 rfl) ?_
        refine va_get (ci := 8) (v := .int (s_1.1 3)) (C := R_R) (T := F_R) (N := 32) hx hb ht iw_R hown hK hP 0 rfl rfl 3 (by decide) (ht _ wd_680) (fun _ h9 => h9) rfl d_R_street_155 ?_
        refine lv_iconst (v := ((-1) : Int32)) hx hb d_R_street_158 (by decide) ?_
        obtain ⟨hi19, hf⟩ := tg_of hf
        refine va_iast (f := s_1.2.1 10) hx hb hK hP (cwR_D hd) hS 11 10 rfl rfl hi19 d_R_street_159 (fun H locs hP _ hS => ?_)
        replace hP : va_P D clS (cwR ad ta (tI (tI (tI (tI (tI (tI (tF s_1 0 (1 : Int32)) 3 ((s_1.1 3).toNatClampNeg) p0) 4 ((s_1.1 3).toNatClampNeg) p1) 5 ((s_1.1 3).toNatClampNeg) p2) 6 ((s_1.1 3).toNatClampNeg) p3) 7 ((s_1.1 3).toNatClampNeg) p4) 10 ((s_1.1 3).toNatClampNeg) ((-1) : Int32))) H := hP
        refine lv_aload_n hx hb d_R_street_160 rfl (lv_at hl 1 rfl) ?_
        refine lv_dup hx hb d_R_street_161 rfl ?_
        refine va_get (ci := 8) (v := .int (s_1.1 3)) (C := R_R) (T := F_R) (N := 32) hx hb ht iw_R hown hK hP 0 rfl rfl 3 (by decide) (ht _ wd_680) (fun _ h9 => h9) rfl d_R_street_162 ?_
        refine lv_iconst (v := (1 : Int32)) hx hb d_R_street_165 (by decide) ?_
        refine lv_iadd hx hb d_R_street_166 ?_
        refine va_put (ci := 8) (v := .int ((s_1.1 3) + (1 : Int32))) (ty := .int) (C := R_R) (T := F_R) (N := 32) hx hb ht iw_R ft_R to_R nm_R hown hK hP (cwR_D hd) hS 0 rfl rfl 3 (by decide) (ht _ wd_680) (fun _ h9 => h9) rfl (by decide +kernel) rfl rfl (Nat.le_of_ble_eq_true rfl) d_R_street_167 (fun H locs hP _ hS => ?_)
        replace hP : va_P D clS (cwR ad ta (tF (tI (tI (tI (tI (tI (tI (tF s_1 0 (1 : Int32)) 3 ((s_1.1 3).toNatClampNeg) p0) 4 ((s_1.1 3).toNatClampNeg) p1) 5 ((s_1.1 3).toNatClampNeg) p2) 6 ((s_1.1 3).toNatClampNeg) p3) 7 ((s_1.1 3).toNatClampNeg) p4) 10 ((s_1.1 3).toNatClampNeg) ((-1) : Int32)) 3 ((s_1.1 3) + (1 : Int32)))) H := hP
        refine lv_aload_n hx hb d_R_street_170 rfl (lv_at hl 1 rfl) ?_
        refine va_get (ci := 8) (v := .int ((s_1.1 3) + (1 : Int32))) (C := R_R) (T := F_R) (N := 32) hx hb ht iw_R hown hK hP 0 rfl rfl 3 (by decide) (ht _ wd_680) (fun _ h9 => h9) rfl d_R_street_171 ?_
        refine lv_iconst (v := (1 : Int32)) hx hb d_R_street_174 (by decide) ?_
        refine lv_isub hx hb d_R_street_175 ?_
        obtain ⟨rfl, rfl⟩ := tp_of hf
        exact W.iret (v := (((s_1.1 3) + (1 : Int32)) - (1 : Int32))) hx hb hr (fun t ht hW => ⟨rfl, by rw [ht]; exact hP, hS.F ht⟩) hS.2.2 d_R_street_176
      · replace hf := ti_neg hc hf
        refine lv_iconst (v := (0 : Int32)) hx hb d_R_street_96 (by decide) ?_
        obtain ⟨rfl, rfl⟩ := tp_of hf
        exact W.iret (v := (0 : Int32)) hx hb hr (fun t ht hW => ⟨rfl, by rw [ht]; exact hP, hS.F ht⟩) hS.2.2 d_R_street_97
  · replace hf := ti_neg hc hf
    refine lv_aload_n hx hb d_R_street_8 rfl (lv_at hl 0 rfl) ?_
    refine lv_iload_n hx hb d_R_street_9 rfl (lv_at hl 2 rfl) ?_
    obtain ⟨r_20, s_20, hq20, hf⟩ := tb2_of hf
    refine tr_calli (va_runV (C := R_R) (As := [.int p1]) (rest := []) ⟨hx, hb, hml, hown, ht⟩ (mc_R_isNode l hd hq20) ⟨(tw_cb (n := 1) ht wc_R_isNode wd_43 wd_786 ⟨rfl, rfl⟩ (by decide +kernel) ⟨(Nat.le_of_ble_eq_true rfl), (Nat.le_of_ble_eq_true rfl)⟩), ht _ wd_788, ht _ wd_16⟩ ⟨tP_blind, va_recv hK hP (ci := 8) (q0 := 0) rfl rfl, fun U hU hW => ⟨rfl, by rw [hU]; exact hP, va_K.moved hW.alike hK, tW_warm hW hN⟩⟩ rfl rfl hl.1 rfl (lv_room (Nat.le_of_ble_eq_true rfl)) d_R_street_10 ⟨Nat.zero_le _, Nat.zero_le _⟩) hS (fun _ h => h.elim) (fun _ h => h.elim) (fun H locs hP hS => ?_)
    refine lv_if_eq (tgt := 59) hx hb d_R_street_13 (by decide) (fun hc => ?_) (fun hc => ?_)
    · replace hf := ti_pos hc hf
      refine lv_iconst (v := (0 : Int32)) hx hb d_R_street_59 (by decide) ?_
      refine lv_istore (lv' := [(6, .int (0 : Int32)), (0, .ref (ad 0)), (1, .int p0), (2, .int p1), (3, .int p2), (4, .int p3), (5, .int p4)]) hx hb d_R_street_60 hl (by decide) rfl (fun ls hl => ?_)
      refine lv_aload_n hx hb d_R_street_62 rfl (lv_at hl 1 rfl) ?_
      refine lv_iload hx hb d_R_street_63 (lv_at hl 0 rfl) ?_
      refine lv_if_ne (tgt := 72) hx hb d_R_street_65 (by decide) (fun hc => ?_) (fun hc => ?_)
      · replace hf := ti_neg hc hf
        refine lv_aload_n hx hb d_R_street_72 rfl (lv_at hl 1 rfl) ?_
        refine va_get (ci := 8) (v := .int (s_20.1 3)) (C := R_R) (T := F_R) (N := 32) hx hb ht iw_R hown hK hP 0 rfl rfl 3 (by decide) (ht _ wd_680) (fun _ h9 => h9) rfl d_R_street_73 ?_
        refine lv_bipush (v := (40 : Int32)) hx hb d_R_street_76 (by decide) ?_
        refine lv_icmp_ne (tgt := 85) hx hb d_R_street_78 (by decide) (fun hc => ?_) (fun hc => ?_)
        · replace hf := ti_neg hc hf
          refine lv_iconst (v := (0 : Int32)) hx hb d_R_street_85 (by decide) ?_
          refine va_put (ci := 8) (v := .int (0 : Int32)) (ty := .int) (C := R_R) (T := F_R) (N := 32) hx hb ht iw_R ft_R to_R nm_R hown hK hP (cwR_D hd) hS 0 rfl rfl 0 (by decide) (ht _ wd_677) (fun _ h9 => h9) rfl (by decide +kernel) rfl rfl (Nat.le_of_ble_eq_true rfl) d_R_street_86 (fun H locs hP _ hS => ?_)
          replace hP : va_P D clS (cwR ad ta (tF s_20 0 (0 : Int32))) H := hP
          refine lv_aload_n hx hb d_R_street_89 rfl (lv_at hl 1 rfl) ?_
          refine va_get (ci := 8) (v := .int (0 : Int32)) (C := R_R) (T := F_R) (N := 32) hx hb ht iw_R hown hK hP 0 rfl rfl 0 (by decide) (ht _ wd_677) (fun _ h9 => h9) rfl d_R_street_90 ?_
          refine lv_if_le (tgt := 98) hx hb d_R_street_93 (by decide) (fun hc => ?_) (fun hc => ?_)
          · replace hf := ti_pos hc hf
            refine lv_aload_n hx hb d_R_street_98 rfl (lv_at hl 1 rfl) ?_
            refine va_get (ci := 8) (v := .ref (ad 4)) (C := R_R) (T := F_R) (N := 32) hx hb ht iw_R hown hK hP 0 rfl rfl 7 (by decide) (ht _ wd_684) (fun _ h9 => h9) rfl d_R_street_99 ?_
            refine lv_aload_n hx hb d_R_street_102 rfl (lv_at hl 1 rfl) ?_
            refine va_get (ci := 8) (v := .int (s_20.1 3)) (C := R_R) (T := F_R) (N := 32) hx hb ht iw_R hown hK hP 0 rfl rfl 3 (by decide) (ht _ wd_680) (fun _ h9 => h9) rfl d_R_street_103 ?_
            refine lv_iload_n hx hb d_R_street_106 rfl (lv_at hl 2 rfl) ?_
            obtain ⟨hi21, hf⟩ := tg_of hf
            refine va_iast (f := s_20.2.1 3) hx hb hK hP (cwR_D hd) hS 4 3 rfl rfl hi21 d_R_street_107 (fun H locs hP _ hS => ?_)
            replace hP : va_P D clS (cwR ad ta (tI (tF s_20 0 (0 : Int32)) 3 ((s_20.1 3).toNatClampNeg) p0)) H := hP
            refine lv_aload_n hx hb d_R_street_108 rfl (lv_at hl 1 rfl) ?_
            refine va_get (ci := 8) (v := .ref (ad 5)) (C := R_R) (T := F_R) (N := 32) hx hb ht iw_R hown hK hP 0 rfl rfl 8 (by decide) (ht _ wd_685) (fun _ h9 => h9) rfl d_R_street_109 ?_
            refine lv_aload_n hx hb d_R_street_112 rfl (lv_at hl 1 rfl) ?_
            refine va_get (ci := 8) (v := .int (s_20.1 3)) (C := R_R) (T := F_R) (N := 32) hx hb ht iw_R hown hK hP 0 rfl rfl 3 (by decide) (ht _ wd_680) (fun _ h9 => h9) rfl d_R_street_113 ?_
            refine lv_iload_n hx hb d_R_street_116 rfl (lv_at hl 3 rfl) ?_
            obtain ⟨hi22, hf⟩ := tg_of hf
            refine va_iast (f := s_20.2.1 4) hx hb hK hP (cwR_D hd) hS 5 4 rfl rfl hi22 d_R_street_117 (fun H locs hP _ hS => ?_)
            replace hP : va_P D clS (cwR ad ta (tI (tI (tF s_20 0 (0 : Int32)) 3 ((s_20.1 3).toNatClampNeg) p0) 4 ((s_20.1 3).toNatClampNeg) p1)) H := hP
            refine lv_aload_n hx hb d_R_street_118 rfl (lv_at hl 1 rfl) ?_
            refine va_get (ci := 8) (v := .ref (ad 6)) (C := R_R) (T := F_R) (N := 32) hx hb ht iw_R hown hK hP 0 rfl rfl 9 (by decide) (ht _ wd_686) (fun _ h9 => h9) rfl d_R_street_119 ?_
            refine lv_aload_n hx hb d_R_street_122 rfl (lv_at hl 1 rfl) ?_
            refine va_get (ci := 8) (v := .int (s_20.1 3)) (C := R_R) (T := F_R) (N := 32) hx hb ht iw_R hown hK hP 0 rfl rfl 3 (by decide) (ht _ wd_680) (fun _ h9 => h9) rfl d_R_street_123 ?_
            refine lv_iload_n hx hb d_R_street_126 rfl (lv_at hl 4 rfl) ?_
            obtain ⟨hi23, hf⟩ := tg_of hf
            refine va_iast (f := s_20.2.1 5) hx hb hK hP (cwR_D hd) hS 6 5 rfl rfl hi23 d_R_street_127 (fun H locs hP _ hS => ?_)
            replace hP : va_P D clS (cwR ad ta (tI (tI (tI (tF s_20 0 (0 : Int32)) 3 ((s_20.1 3).toNatClampNeg) p0) 4 ((s_20.1 3).toNatClampNeg) p1) 5 ((s_20.1 3).toNatClampNeg) p2)) H := hP
            refine lv_aload_n hx hb d_R_street_128 rfl (lv_at hl 1 rfl) ?_
            refine va_get (ci := 8) (v := .ref (ad 7)) (C := R_R) (T := F_R) (N := 32) hx hb ht iw_R hown hK hP 0 rfl rfl 10 (by decide) (ht _ wd_687) (fun _ h9 => h9) rfl d_R_street_129 ?_
            refine lv_aload_n hx hb d_R_street_132 rfl (lv_at hl 1 rfl) ?_
            refine va_get (ci := 8) (v := .int (s_20.1 3)) (C := R_R) (T := F_R) (N := 32) hx hb ht iw_R hown hK hP 0 rfl rfl 3 (by decide) (ht _ wd_680) (fun _ h9 => h9) rfl d_R_street_133 ?_
            refine lv_iload hx hb d_R_street_136 (lv_at hl 5 rfl) ?_
            obtain ⟨hi24, hf⟩ := tg_of hf
            refine va_iast (f := s_20.2.1 6) hx hb hK hP (cwR_D hd) hS 7 6 rfl rfl hi24 d_R_street_138 (fun H locs hP _ hS => ?_)
            replace hP : va_P D clS (cwR ad ta (tI (tI (tI (tI (tF s_20 0 (0 : Int32)) 3 ((s_20.1 3).toNatClampNeg) p0) 4 ((s_20.1 3).toNatClampNeg) p1) 5 ((s_20.1 3).toNatClampNeg) p2) 6 ((s_20.1 3).toNatClampNeg) p3)) H := hP
            refine lv_aload_n hx hb d_R_street_139 rfl (lv_at hl 1 rfl) ?_
            refine va_get (ci := 8) (v := .ref (ad 8)) (C := R_R) (T := F_R) (N := 32) hx hb ht iw_R hown hK hP 0 rfl rfl 11 (by decide) (ht _ wd_688) (fun _ h9 => h9) rfl d_R_street_140 ?_
            refine lv_aload_n hx hb d_R_street_143 rfl (lv_at hl 1 rfl) ?_
            refine va_get (ci := 8) (v := .int (s_20.1 3)) (C := R_R) (T := F_R) (N := 32) hx hb ht iw_R hown hK hP 0 rfl rfl 3 (by decide) (ht _ wd_680) (fun _ h9 => h9) rfl d_R_street_144 ?_
            refine lv_iload hx hb d_R_street_147 (lv_at hl 6 rfl) ?_
            obtain ⟨hi25, hf⟩ := tg_of hf
            refine va_iast (f := s_20.2.1 7) hx hb hK hP (cwR_D hd) hS 8 7 rfl rfl hi25 d_R_street_149 (fun H locs hP _ hS => ?_)
            replace hP : va_P D clS (cwR ad ta (tI (tI (tI (tI (tI (tF s_20 0 (0 : Int32)) 3 ((s_20.1 3).toNatClampNeg) p0) 4 ((s_20.1 3).toNatClampNeg) p1) 5 ((s_20.1 3).toNatClampNeg) p2) 6 ((s_20.1 3).toNatClampNeg) p3) 7 ((s_20.1 3).toNatClampNeg) p4)) H := hP
            refine lv_aload_n hx hb d_R_street_150 rfl (lv_at hl 1 rfl) ?_
            refine va_get (ci := 8) (v := .ref (ad 11)) (C := R_R) (T := F_R) (N := 32) hx hb ht iw_R hown hK hP 0 rfl rfl 14 (by decide) (ht _ wd_691) (fun _ h9 => h9) rfl d_R_street_151 ?_
            refine lv_aload_n hx hb d_R_street_154 rfl (lv_at hl 1 rfl) ?_
            refine va_get (ci := 8) (v := .int (s_20.1 3)) (C := R_R) (T := F_R) (N := 32) hx hb ht iw_R hown hK hP 0 rfl rfl 3 (by decide) (ht _ wd_680) (fun _ h9 => h9) rfl d_R_street_155 ?_
            refine lv_iconst (v := ((-1) : Int32)) hx hb d_R_street_158 (by decide) ?_
            obtain ⟨hi26, hf⟩ := tg_of hf
            refine va_iast (f := s_20.2.1 10) hx hb hK hP (cwR_D hd) hS 11 10 rfl rfl hi26 d_R_street_159 (fun H locs hP _ hS => ?_)
            replace hP : va_P D clS (cwR ad ta (tI (tI (tI (tI (tI (tI (tF s_20 0 (0 : Int32)) 3 ((s_20.1 3).toNatClampNeg) p0) 4 ((s_20.1 3).toNatClampNeg) p1) 5 ((s_20.1 3).toNatClampNeg) p2) 6 ((s_20.1 3).toNatClampNeg) p3) 7 ((s_20.1 3).toNatClampNeg) p4) 10 ((s_20.1 3).toNatClampNeg) ((-1) : Int32))) H := hP
            refine lv_aload_n hx hb d_R_street_160 rfl (lv_at hl 1 rfl) ?_
            refine lv_dup hx hb d_R_street_161 rfl ?_
            refine va_get (ci := 8) (v := .int (s_20.1 3)) (C := R_R) (T := F_R) (N := 32) hx hb ht iw_R hown hK hP 0 rfl rfl 3 (by decide) (ht _ wd_680) (fun _ h9 => h9) rfl d_R_street_162 ?_
            refine lv_iconst (v := (1 : Int32)) hx hb d_R_street_165 (by decide) ?_
            refine lv_iadd hx hb d_R_street_166 ?_
            refine va_put (ci := 8) (v := .int ((s_20.1 3) + (1 : Int32))) (ty := .int) (C := R_R) (T := F_R) (N := 32) hx hb ht iw_R ft_R to_R nm_R hown hK hP (cwR_D hd) hS 0 rfl rfl 3 (by decide) (ht _ wd_680) (fun _ h9 => h9) rfl (by decide +kernel) rfl rfl (Nat.le_of_ble_eq_true rfl) d_R_street_167 (fun H locs hP _ hS => ?_)
            replace hP : va_P D clS (cwR ad ta (tF (tI (tI (tI (tI (tI (tI (tF s_20 0 (0 : Int32)) 3 ((s_20.1 3).toNatClampNeg) p0) 4 ((s_20.1 3).toNatClampNeg) p1) 5 ((s_20.1 3).toNatClampNeg) p2) 6 ((s_20.1 3).toNatClampNeg) p3) 7 ((s_20.1 3).toNatClampNeg) p4) 10 ((s_20.1 3).toNatClampNeg) ((-1) : Int32)) 3 ((s_20.1 3) + (1 : Int32)))) H := hP
            refine lv_aload_n hx hb d_R_street_170 rfl (lv_at hl 1 rfl) ?_
            refine va_get (ci := 8) (v := .int ((s_20.1 3) + (1 : Int32))) (C := R_R) (T := F_R) (N := 32) hx hb ht iw_R hown hK hP 0 rfl rfl 3 (by decide) (ht _ wd_680) (fun _ h9 => h9) rfl d_R_street_171 ?_
            refine lv_iconst (v := (1 : Int32)) hx hb d_R_street_174 (by decide) ?_
            refine lv_isub hx hb d_R_street_175 ?_
            obtain ⟨rfl, rfl⟩ := tp_of hf
            exact W.iret (v := (((s_20.1 3) + (1 : Int32)) - (1 : Int32))) hx hb hr (fun t ht hW => ⟨rfl, by rw [ht]; exact hP, hS.F ht⟩) hS.2.2 d_R_street_176
          · replace hf := ti_neg hc hf
            refine lv_iconst (v := (0 : Int32)) hx hb d_R_street_96 (by decide) ?_
            obtain ⟨rfl, rfl⟩ := tp_of hf
            exact W.iret (v := (0 : Int32)) hx hb hr (fun t ht hW => ⟨rfl, by rw [ht]; exact hP, hS.F ht⟩) hS.2.2 d_R_street_97
        · replace hf := ti_pos hc hf
          refine lv_iconst (v := (2 : Int32)) hx hb d_R_street_81 (by decide) ?_
          refine lv_goto (tgt := 86) hx hb d_R_street_82 (by decide) ?_
          refine va_put (ci := 8) (v := .int (2 : Int32)) (ty := .int) (C := R_R) (T := F_R) (N := 32) hx hb ht iw_R ft_R to_R nm_R hown hK hP (cwR_D hd) hS 0 rfl rfl 0 (by decide) (ht _ wd_677) (fun _ h9 => h9) rfl (by decide +kernel) rfl rfl (Nat.le_of_ble_eq_true rfl) d_R_street_86 (fun H locs hP _ hS => ?_)
          replace hP : va_P D clS (cwR ad ta (tF s_20 0 (2 : Int32))) H := hP
          refine lv_aload_n hx hb d_R_street_89 rfl (lv_at hl 1 rfl) ?_
          refine va_get (ci := 8) (v := .int (2 : Int32)) (C := R_R) (T := F_R) (N := 32) hx hb ht iw_R hown hK hP 0 rfl rfl 0 (by decide) (ht _ wd_677) (fun _ h9 => h9) rfl d_R_street_90 ?_
          refine lv_if_le (tgt := 98) hx hb d_R_street_93 (by decide) (fun hc => ?_) (fun hc => ?_)
          · replace hf := ti_pos hc hf
            refine lv_aload_n hx hb d_R_street_98 rfl (lv_at hl 1 rfl) ?_
            refine va_get (ci := 8) (v := .ref (ad 4)) (C := R_R) (T := F_R) (N := 32) hx hb ht iw_R hown hK hP 0 rfl rfl 7 (by decide) (ht _ wd_684) (fun _ h9 => h9) rfl d_R_street_99 ?_
            refine lv_aload_n hx hb d_R_street_102 rfl (lv_at hl 1 rfl) ?_
            refine va_get (ci := 8) (v := .int (s_20.1 3)) (C := R_R) (T := F_R) (N := 32) hx hb ht iw_R hown hK hP 0 rfl rfl 3 (by decide) (ht _ wd_680) (fun _ h9 => h9) rfl d_R_street_103 ?_
            refine lv_iload_n hx hb d_R_street_106 rfl (lv_at hl 2 rfl) ?_
            obtain ⟨hi27, hf⟩ := tg_of hf
            refine va_iast (f := s_20.2.1 3) hx hb hK hP (cwR_D hd) hS 4 3 rfl rfl hi27 d_R_street_107 (fun H locs hP _ hS => ?_)
            replace hP : va_P D clS (cwR ad ta (tI (tF s_20 0 (2 : Int32)) 3 ((s_20.1 3).toNatClampNeg) p0)) H := hP
            refine lv_aload_n hx hb d_R_street_108 rfl (lv_at hl 1 rfl) ?_
            refine va_get (ci := 8) (v := .ref (ad 5)) (C := R_R) (T := F_R) (N := 32) hx hb ht iw_R hown hK hP 0 rfl rfl 8 (by decide) (ht _ wd_685) (fun _ h9 => h9) rfl d_R_street_109 ?_
            refine lv_aload_n hx hb d_R_street_112 rfl (lv_at hl 1 rfl) ?_
            refine va_get (ci := 8) (v := .int (s_20.1 3)) (C := R_R) (T := F_R) (N := 32) hx hb ht iw_R hown hK hP 0 rfl rfl 3 (by decide) (ht _ wd_680) (fun _ h9 => h9) rfl d_R_street_113 ?_
            refine lv_iload_n hx hb d_R_street_116 rfl (lv_at hl 3 rfl) ?_
            obtain ⟨hi28, hf⟩ := tg_of hf
            refine va_iast (f := s_20.2.1 4) hx hb hK hP (cwR_D hd) hS 5 4 rfl rfl hi28 d_R_street_117 (fun H locs hP _ hS => ?_)
            replace hP : va_P D clS (cwR ad ta (tI (tI (tF s_20 0 (2 : Int32)) 3 ((s_20.1 3).toNatClampNeg) p0) 4 ((s_20.1 3).toNatClampNeg) p1)) H := hP
            refine lv_aload_n hx hb d_R_street_118 rfl (lv_at hl 1 rfl) ?_
            refine va_get (ci := 8) (v := .ref (ad 6)) (C := R_R) (T := F_R) (N := 32) hx hb ht iw_R hown hK hP 0 rfl rfl 9 (by decide) (ht _ wd_686) (fun _ h9 => h9) rfl d_R_street_119 ?_
            refine lv_aload_n hx hb d_R_street_122 rfl (lv_at hl 1 rfl) ?_
            refine va_get (ci := 8) (v := .int (s_20.1 3)) (C := R_R) (T := F_R) (N := 32) hx hb ht iw_R hown hK hP 0 rfl rfl 3 (by decide) (ht _ wd_680) (fun _ h9 => h9) rfl d_R_street_123 ?_
            refine lv_iload_n hx hb d_R_street_126 rfl (lv_at hl 4 rfl) ?_
            obtain ⟨hi29, hf⟩ := tg_of hf
            refine va_iast (f := s_20.2.1 5) hx hb hK hP (cwR_D hd) hS 6 5 rfl rfl hi29 d_R_street_127 (fun H locs hP _ hS => ?_)
            replace hP : va_P D clS (cwR ad ta (tI (tI (tI (tF s_20 0 (2 : Int32)) 3 ((s_20.1 3).toNatClampNeg) p0) 4 ((s_20.1 3).toNatClampNeg) p1) 5 ((s_20.1 3).toNatClampNeg) p2)) H := hP
            refine lv_aload_n hx hb d_R_street_128 rfl (lv_at hl 1 rfl) ?_
            refine va_get (ci := 8) (v := .ref (ad 7)) (C := R_R) (T := F_R) (N := 32) hx hb ht iw_R hown hK hP 0 rfl rfl 10 (by decide) (ht _ wd_687) (fun _ h9 => h9) rfl d_R_street_129 ?_
            refine lv_aload_n hx hb d_R_street_132 rfl (lv_at hl 1 rfl) ?_
            refine va_get (ci := 8) (v := .int (s_20.1 3)) (C := R_R) (T := F_R) (N := 32) hx hb ht iw_R hown hK hP 0 rfl rfl 3 (by decide) (ht _ wd_680) (fun _ h9 => h9) rfl d_R_street_133 ?_
            refine lv_iload hx hb d_R_street_136 (lv_at hl 5 rfl) ?_
            obtain ⟨hi30, hf⟩ := tg_of hf
            refine va_iast (f := s_20.2.1 6) hx hb hK hP (cwR_D hd) hS 7 6 rfl rfl hi30 d_R_street_138 (fun H locs hP _ hS => ?_)
            replace hP : va_P D clS (cwR ad ta (tI (tI (tI (tI (tF s_20 0 (2 : Int32)) 3 ((s_20.1 3).toNatClampNeg) p0) 4 ((s_20.1 3).toNatClampNeg) p1) 5 ((s_20.1 3).toNatClampNeg) p2) 6 ((s_20.1 3).toNatClampNeg) p3)) H := hP
            refine lv_aload_n hx hb d_R_street_139 rfl (lv_at hl 1 rfl) ?_
            refine va_get (ci := 8) (v := .ref (ad 8)) (C := R_R) (T := F_R) (N := 32) hx hb ht iw_R hown hK hP 0 rfl rfl 11 (by decide) (ht _ wd_688) (fun _ h9 => h9) rfl d_R_street_140 ?_
            refine lv_aload_n hx hb d_R_street_143 rfl (lv_at hl 1 rfl) ?_
            refine va_get (ci := 8) (v := .int (s_20.1 3)) (C := R_R) (T := F_R) (N := 32) hx hb ht iw_R hown hK hP 0 rfl rfl 3 (by decide) (ht _ wd_680) (fun _ h9 => h9) rfl d_R_street_144 ?_
            refine lv_iload hx hb d_R_street_147 (lv_at hl 6 rfl) ?_
            obtain ⟨hi31, hf⟩ := tg_of hf
            refine va_iast (f := s_20.2.1 7) hx hb hK hP (cwR_D hd) hS 8 7 rfl rfl hi31 d_R_street_149 (fun H locs hP _ hS => ?_)
            replace hP : va_P D clS (cwR ad ta (tI (tI (tI (tI (tI (tF s_20 0 (2 : Int32)) 3 ((s_20.1 3).toNatClampNeg) p0) 4 ((s_20.1 3).toNatClampNeg) p1) 5 ((s_20.1 3).toNatClampNeg) p2) 6 ((s_20.1 3).toNatClampNeg) p3) 7 ((s_20.1 3).toNatClampNeg) p4)) H := hP
            refine lv_aload_n hx hb d_R_street_150 rfl (lv_at hl 1 rfl) ?_
            refine va_get (ci := 8) (v := .ref (ad 11)) (C := R_R) (T := F_R) (N := 32) hx hb ht iw_R hown hK hP 0 rfl rfl 14 (by decide) (ht _ wd_691) (fun _ h9 => h9) rfl d_R_street_151 ?_
            refine lv_aload_n hx hb d_R_street_154 rfl (lv_at hl 1 rfl) ?_
            refine va_get (ci := 8) (v := .int (s_20.1 3)) (C := R_R) (T := F_R) (N := 32) hx hb ht iw_R hown hK hP 0 rfl rfl 3 (by decide) (ht _ wd_680) (fun _ h9 => h9) rfl d_R_street_155 ?_
            refine lv_iconst (v := ((-1) : Int32)) hx hb d_R_street_158 (by decide) ?_
            obtain ⟨hi32, hf⟩ := tg_of hf
            refine va_iast (f := s_20.2.1 10) hx hb hK hP (cwR_D hd) hS 11 10 rfl rfl hi32 d_R_street_159 (fun H locs hP _ hS => ?_)
            replace hP : va_P D clS (cwR ad ta (tI (tI (tI (tI (tI (tI (tF s_20 0 (2 : Int32)) 3 ((s_20.1 3).toNatClampNeg) p0) 4 ((s_20.1 3).toNatClampNeg) p1) 5 ((s_20.1 3).toNatClampNeg) p2) 6 ((s_20.1 3).toNatClampNeg) p3) 7 ((s_20.1 3).toNatClampNeg) p4) 10 ((s_20.1 3).toNatClampNeg) ((-1) : Int32))) H := hP
            refine lv_aload_n hx hb d_R_street_160 rfl (lv_at hl 1 rfl) ?_
            refine lv_dup hx hb d_R_street_161 rfl ?_
            refine va_get (ci := 8) (v := .int (s_20.1 3)) (C := R_R) (T := F_R) (N := 32) hx hb ht iw_R hown hK hP 0 rfl rfl 3 (by decide) (ht _ wd_680) (fun _ h9 => h9) rfl d_R_street_162 ?_
            refine lv_iconst (v := (1 : Int32)) hx hb d_R_street_165 (by decide) ?_
            refine lv_iadd hx hb d_R_street_166 ?_
            refine va_put (ci := 8) (v := .int ((s_20.1 3) + (1 : Int32))) (ty := .int) (C := R_R) (T := F_R) (N := 32) hx hb ht iw_R ft_R to_R nm_R hown hK hP (cwR_D hd) hS 0 rfl rfl 3 (by decide) (ht _ wd_680) (fun _ h9 => h9) rfl (by decide +kernel) rfl rfl (Nat.le_of_ble_eq_true rfl) d_R_street_167 (fun H locs hP _ hS => ?_)
            replace hP : va_P D clS (cwR ad ta (tF (tI (tI (tI (tI (tI (tI (tF s_20 0 (2 : Int32)) 3 ((s_20.1 3).toNatClampNeg) p0) 4 ((s_20.1 3).toNatClampNeg) p1) 5 ((s_20.1 3).toNatClampNeg) p2) 6 ((s_20.1 3).toNatClampNeg) p3) 7 ((s_20.1 3).toNatClampNeg) p4) 10 ((s_20.1 3).toNatClampNeg) ((-1) : Int32)) 3 ((s_20.1 3) + (1 : Int32)))) H := hP
            refine lv_aload_n hx hb d_R_street_170 rfl (lv_at hl 1 rfl) ?_
            refine va_get (ci := 8) (v := .int ((s_20.1 3) + (1 : Int32))) (C := R_R) (T := F_R) (N := 32) hx hb ht iw_R hown hK hP 0 rfl rfl 3 (by decide) (ht _ wd_680) (fun _ h9 => h9) rfl d_R_street_171 ?_
            refine lv_iconst (v := (1 : Int32)) hx hb d_R_street_174 (by decide) ?_
            refine lv_isub hx hb d_R_street_175 ?_
            obtain ⟨rfl, rfl⟩ := tp_of hf
            exact W.iret (v := (((s_20.1 3) + (1 : Int32)) - (1 : Int32))) hx hb hr (fun t ht hW => ⟨rfl, by rw [ht]; exact hP, hS.F ht⟩) hS.2.2 d_R_street_176
          · replace hf := ti_neg hc hf
            refine lv_iconst (v := (0 : Int32)) hx hb d_R_street_96 (by decide) ?_
            obtain ⟨rfl, rfl⟩ := tp_of hf
            exact W.iret (v := (0 : Int32)) hx hb hr (fun t ht hW => ⟨rfl, by rw [ht]; exact hP, hS.F ht⟩) hS.2.2 d_R_street_97
      · replace hf := ti_pos hc hf
        refine lv_iconst (v := (1 : Int32)) hx hb d_R_street_68 (by decide) ?_
        refine lv_goto (tgt := 86) hx hb d_R_street_69 (by decide) ?_
        refine va_put (ci := 8) (v := .int (1 : Int32)) (ty := .int) (C := R_R) (T := F_R) (N := 32) hx hb ht iw_R ft_R to_R nm_R hown hK hP (cwR_D hd) hS 0 rfl rfl 0 (by decide) (ht _ wd_677) (fun _ h9 => h9) rfl (by decide +kernel) rfl rfl (Nat.le_of_ble_eq_true rfl) d_R_street_86 (fun H locs hP _ hS => ?_)
        replace hP : va_P D clS (cwR ad ta (tF s_20 0 (1 : Int32))) H := hP
        refine lv_aload_n hx hb d_R_street_89 rfl (lv_at hl 1 rfl) ?_
        refine va_get (ci := 8) (v := .int (1 : Int32)) (C := R_R) (T := F_R) (N := 32) hx hb ht iw_R hown hK hP 0 rfl rfl 0 (by decide) (ht _ wd_677) (fun _ h9 => h9) rfl d_R_street_90 ?_
        refine lv_if_le (tgt := 98) hx hb d_R_street_93 (by decide) (fun hc => ?_) (fun hc => ?_)
        · replace hf := ti_pos hc hf
          refine lv_aload_n hx hb d_R_street_98 rfl (lv_at hl 1 rfl) ?_
          refine va_get (ci := 8) (v := .ref (ad 4)) (C := R_R) (T := F_R) (N := 32) hx hb ht iw_R hown hK hP 0 rfl rfl 7 (by decide) (ht _ wd_684) (fun _ h9 => h9) rfl d_R_street_99 ?_
          refine lv_aload_n hx hb d_R_street_102 rfl (lv_at hl 1 rfl) ?_
          refine va_get (ci := 8) (v := .int (s_20.1 3)) (C := R_R) (T := F_R) (N := 32) hx hb ht iw_R hown hK hP 0 rfl rfl 3 (by decide) (ht _ wd_680) (fun _ h9 => h9) rfl d_R_street_103 ?_
          refine lv_iload_n hx hb d_R_street_106 rfl (lv_at hl 2 rfl) ?_
          obtain ⟨hi33, hf⟩ := tg_of hf
          refine va_iast (f := s_20.2.1 3) hx hb hK hP (cwR_D hd) hS 4 3 rfl rfl hi33 d_R_street_107 (fun H locs hP _ hS => ?_)
          replace hP : va_P D clS (cwR ad ta (tI (tF s_20 0 (1 : Int32)) 3 ((s_20.1 3).toNatClampNeg) p0)) H := hP
          refine lv_aload_n hx hb d_R_street_108 rfl (lv_at hl 1 rfl) ?_
          refine va_get (ci := 8) (v := .ref (ad 5)) (C := R_R) (T := F_R) (N := 32) hx hb ht iw_R hown hK hP 0 rfl rfl 8 (by decide) (ht _ wd_685) (fun _ h9 => h9) rfl d_R_street_109 ?_
          refine lv_aload_n hx hb d_R_street_112 rfl (lv_at hl 1 rfl) ?_
          refine va_get (ci := 8) (v := .int (s_20.1 3)) (C := R_R) (T := F_R) (N := 32) hx hb ht iw_R hown hK hP 0 rfl rfl 3 (by decide) (ht _ wd_680) (fun _ h9 => h9) rfl d_R_street_113 ?_
          refine lv_iload_n hx hb d_R_street_116 rfl (lv_at hl 3 rfl) ?_
          obtain ⟨hi34, hf⟩ := tg_of hf
          refine va_iast (f := s_20.2.1 4) hx hb hK hP (cwR_D hd) hS 5 4 rfl rfl hi34 d_R_street_117 (fun H locs hP _ hS => ?_)
          replace hP : va_P D clS (cwR ad ta (tI (tI (tF s_20 0 (1 : Int32)) 3 ((s_20.1 3).toNatClampNeg) p0) 4 ((s_20.1 3).toNatClampNeg) p1)) H := hP
          refine lv_aload_n hx hb d_R_street_118 rfl (lv_at hl 1 rfl) ?_
          refine va_get (ci := 8) (v := .ref (ad 6)) (C := R_R) (T := F_R) (N := 32) hx hb ht iw_R hown hK hP 0 rfl rfl 9 (by decide) (ht _ wd_686) (fun _ h9 => h9) rfl d_R_street_119 ?_
          refine lv_aload_n hx hb d_R_street_122 rfl (lv_at hl 1 rfl) ?_
          refine va_get (ci := 8) (v := .int (s_20.1 3)) (C := R_R) (T := F_R) (N := 32) hx hb ht iw_R hown hK hP 0 rfl rfl 3 (by decide) (ht _ wd_680) (fun _ h9 => h9) rfl d_R_street_123 ?_
          refine lv_iload_n hx hb d_R_street_126 rfl (lv_at hl 4 rfl) ?_
          obtain ⟨hi35, hf⟩ := tg_of hf
          refine va_iast (f := s_20.2.1 5) hx hb hK hP (cwR_D hd) hS 6 5 rfl rfl hi35 d_R_street_127 (fun H locs hP _ hS => ?_)
          replace hP : va_P D clS (cwR ad ta (tI (tI (tI (tF s_20 0 (1 : Int32)) 3 ((s_20.1 3).toNatClampNeg) p0) 4 ((s_20.1 3).toNatClampNeg) p1) 5 ((s_20.1 3).toNatClampNeg) p2)) H := hP
          refine lv_aload_n hx hb d_R_street_128 rfl (lv_at hl 1 rfl) ?_
          refine va_get (ci := 8) (v := .ref (ad 7)) (C := R_R) (T := F_R) (N := 32) hx hb ht iw_R hown hK hP 0 rfl rfl 10 (by decide) (ht _ wd_687) (fun _ h9 => h9) rfl d_R_street_129 ?_
          refine lv_aload_n hx hb d_R_street_132 rfl (lv_at hl 1 rfl) ?_
          refine va_get (ci := 8) (v := .int (s_20.1 3)) (C := R_R) (T := F_R) (N := 32) hx hb ht iw_R hown hK hP 0 rfl rfl 3 (by decide) (ht _ wd_680) (fun _ h9 => h9) rfl d_R_street_133 ?_
          refine lv_iload hx hb d_R_street_136 (lv_at hl 5 rfl) ?_
          obtain ⟨hi36, hf⟩ := tg_of hf
          refine va_iast (f := s_20.2.1 6) hx hb hK hP (cwR_D hd) hS 7 6 rfl rfl hi36 d_R_street_138 (fun H locs hP _ hS => ?_)
          replace hP : va_P D clS (cwR ad ta (tI (tI (tI (tI (tF s_20 0 (1 : Int32)) 3 ((s_20.1 3).toNatClampNeg) p0) 4 ((s_20.1 3).toNatClampNeg) p1) 5 ((s_20.1 3).toNatClampNeg) p2) 6 ((s_20.1 3).toNatClampNeg) p3)) H := hP
          refine lv_aload_n hx hb d_R_street_139 rfl (lv_at hl 1 rfl) ?_
          refine va_get (ci := 8) (v := .ref (ad 8)) (C := R_R) (T := F_R) (N := 32) hx hb ht iw_R hown hK hP 0 rfl rfl 11 (by decide) (ht _ wd_688) (fun _ h9 => h9) rfl d_R_street_140 ?_
          refine lv_aload_n hx hb d_R_street_143 rfl (lv_at hl 1 rfl) ?_
          refine va_get (ci := 8) (v := .int (s_20.1 3)) (C := R_R) (T := F_R) (N := 32) hx hb ht iw_R hown hK hP 0 rfl rfl 3 (by decide) (ht _ wd_680) (fun _ h9 => h9) rfl d_R_street_144 ?_
          refine lv_iload hx hb d_R_street_147 (lv_at hl 6 rfl) ?_
          obtain ⟨hi37, hf⟩ := tg_of hf
          refine va_iast (f := s_20.2.1 7) hx hb hK hP (cwR_D hd) hS 8 7 rfl rfl hi37 d_R_street_149 (fun H locs hP _ hS => ?_)
          replace hP : va_P D clS (cwR ad ta (tI (tI (tI (tI (tI (tF s_20 0 (1 : Int32)) 3 ((s_20.1 3).toNatClampNeg) p0) 4 ((s_20.1 3).toNatClampNeg) p1) 5 ((s_20.1 3).toNatClampNeg) p2) 6 ((s_20.1 3).toNatClampNeg) p3) 7 ((s_20.1 3).toNatClampNeg) p4)) H := hP
          refine lv_aload_n hx hb d_R_street_150 rfl (lv_at hl 1 rfl) ?_
          refine va_get (ci := 8) (v := .ref (ad 11)) (C := R_R) (T := F_R) (N := 32) hx hb ht iw_R hown hK hP 0 rfl rfl 14 (by decide) (ht _ wd_691) (fun _ h9 => h9) rfl d_R_street_151 ?_
          refine lv_aload_n hx hb d_R_street_154 rfl (lv_at hl 1 rfl) ?_
          refine va_get (ci := 8) (v := .int (s_20.1 3)) (C := R_R) (T := F_R) (N := 32) hx hb ht iw_R hown hK hP 0 rfl rfl 3 (by decide) (ht _ wd_680) (fun _ h9 => h9) rfl d_R_street_155 ?_
          refine lv_iconst (v := ((-1) : Int32)) hx hb d_R_street_158 (by decide) ?_
          obtain ⟨hi38, hf⟩ := tg_of hf
          refine va_iast (f := s_20.2.1 10) hx hb hK hP (cwR_D hd) hS 11 10 rfl rfl hi38 d_R_street_159 (fun H locs hP _ hS => ?_)
          replace hP : va_P D clS (cwR ad ta (tI (tI (tI (tI (tI (tI (tF s_20 0 (1 : Int32)) 3 ((s_20.1 3).toNatClampNeg) p0) 4 ((s_20.1 3).toNatClampNeg) p1) 5 ((s_20.1 3).toNatClampNeg) p2) 6 ((s_20.1 3).toNatClampNeg) p3) 7 ((s_20.1 3).toNatClampNeg) p4) 10 ((s_20.1 3).toNatClampNeg) ((-1) : Int32))) H := hP
          refine lv_aload_n hx hb d_R_street_160 rfl (lv_at hl 1 rfl) ?_
          refine lv_dup hx hb d_R_street_161 rfl ?_
          refine va_get (ci := 8) (v := .int (s_20.1 3)) (C := R_R) (T := F_R) (N := 32) hx hb ht iw_R hown hK hP 0 rfl rfl 3 (by decide) (ht _ wd_680) (fun _ h9 => h9) rfl d_R_street_162 ?_
          refine lv_iconst (v := (1 : Int32)) hx hb d_R_street_165 (by decide) ?_
          refine lv_iadd hx hb d_R_street_166 ?_
          refine va_put (ci := 8) (v := .int ((s_20.1 3) + (1 : Int32))) (ty := .int) (C := R_R) (T := F_R) (N := 32) hx hb ht iw_R ft_R to_R nm_R hown hK hP (cwR_D hd) hS 0 rfl rfl 3 (by decide) (ht _ wd_680) (fun _ h9 => h9) rfl (by decide +kernel) rfl rfl (Nat.le_of_ble_eq_true rfl) d_R_street_167 (fun H locs hP _ hS => ?_)
          replace hP : va_P D clS (cwR ad ta (tF (tI (tI (tI (tI (tI (tI (tF s_20 0 (1 : Int32)) 3 ((s_20.1 3).toNatClampNeg) p0) 4 ((s_20.1 3).toNatClampNeg) p1) 5 ((s_20.1 3).toNatClampNeg) p2) 6 ((s_20.1 3).toNatClampNeg) p3) 7 ((s_20.1 3).toNatClampNeg) p4) 10 ((s_20.1 3).toNatClampNeg) ((-1) : Int32)) 3 ((s_20.1 3) + (1 : Int32)))) H := hP
          refine lv_aload_n hx hb d_R_street_170 rfl (lv_at hl 1 rfl) ?_
          refine va_get (ci := 8) (v := .int ((s_20.1 3) + (1 : Int32))) (C := R_R) (T := F_R) (N := 32) hx hb ht iw_R hown hK hP 0 rfl rfl 3 (by decide) (ht _ wd_680) (fun _ h9 => h9) rfl d_R_street_171 ?_
          refine lv_iconst (v := (1 : Int32)) hx hb d_R_street_174 (by decide) ?_
          refine lv_isub hx hb d_R_street_175 ?_
          obtain ⟨rfl, rfl⟩ := tp_of hf
          exact W.iret (v := (((s_20.1 3) + (1 : Int32)) - (1 : Int32))) hx hb hr (fun t ht hW => ⟨rfl, by rw [ht]; exact hP, hS.F ht⟩) hS.2.2 d_R_street_176
        · replace hf := ti_neg hc hf
          refine lv_iconst (v := (0 : Int32)) hx hb d_R_street_96 (by decide) ?_
          obtain ⟨rfl, rfl⟩ := tp_of hf
          exact W.iret (v := (0 : Int32)) hx hb hr (fun t ht hW => ⟨rfl, by rw [ht]; exact hP, hS.F ht⟩) hS.2.2 d_R_street_97
    · replace hf := ti_neg hc hf
      refine lv_iload_n hx hb d_R_street_16 rfl (lv_at hl 1 rfl) ?_
      refine lv_iload_n hx hb d_R_street_17 rfl (lv_at hl 2 rfl) ?_
      refine lv_icmp_eq (tgt := 59) hx hb d_R_street_18 (by decide) (fun hc => ?_) (fun hc => ?_)
      · replace hf := ti_pos hc hf
        refine lv_iconst (v := (0 : Int32)) hx hb d_R_street_59 (by decide) ?_
        refine lv_istore (lv' := [(6, .int (0 : Int32)), (0, .ref (ad 0)), (1, .int p0), (2, .int p1), (3, .int p2), (4, .int p3), (5, .int p4)]) hx hb d_R_street_60 hl (by decide) rfl (fun ls hl => ?_)
        refine lv_aload_n hx hb d_R_street_62 rfl (lv_at hl 1 rfl) ?_
        refine lv_iload hx hb d_R_street_63 (lv_at hl 0 rfl) ?_
        refine lv_if_ne (tgt := 72) hx hb d_R_street_65 (by decide) (fun hc => ?_) (fun hc => ?_)
        · replace hf := ti_neg hc hf
          refine lv_aload_n hx hb d_R_street_72 rfl (lv_at hl 1 rfl) ?_
          refine va_get (ci := 8) (v := .int (s_20.1 3)) (C := R_R) (T := F_R) (N := 32) hx hb ht iw_R hown hK hP 0 rfl rfl 3 (by decide) (ht _ wd_680) (fun _ h9 => h9) rfl d_R_street_73 ?_
          refine lv_bipush (v := (40 : Int32)) hx hb d_R_street_76 (by decide) ?_
          refine lv_icmp_ne (tgt := 85) hx hb d_R_street_78 (by decide) (fun hc => ?_) (fun hc => ?_)
          · replace hf := ti_neg hc hf
            refine lv_iconst (v := (0 : Int32)) hx hb d_R_street_85 (by decide) ?_
            refine va_put (ci := 8) (v := .int (0 : Int32)) (ty := .int) (C := R_R) (T := F_R) (N := 32) hx hb ht iw_R ft_R to_R nm_R hown hK hP (cwR_D hd) hS 0 rfl rfl 0 (by decide) (ht _ wd_677) (fun _ h9 => h9) rfl (by decide +kernel) rfl rfl (Nat.le_of_ble_eq_true rfl) d_R_street_86 (fun H locs hP _ hS => ?_)
            replace hP : va_P D clS (cwR ad ta (tF s_20 0 (0 : Int32))) H := hP
            refine lv_aload_n hx hb d_R_street_89 rfl (lv_at hl 1 rfl) ?_
            refine va_get (ci := 8) (v := .int (0 : Int32)) (C := R_R) (T := F_R) (N := 32) hx hb ht iw_R hown hK hP 0 rfl rfl 0 (by decide) (ht _ wd_677) (fun _ h9 => h9) rfl d_R_street_90 ?_
            refine lv_if_le (tgt := 98) hx hb d_R_street_93 (by decide) (fun hc => ?_) (fun hc => ?_)
            · replace hf := ti_pos hc hf
              refine lv_aload_n hx hb d_R_street_98 rfl (lv_at hl 1 rfl) ?_
              refine va_get (ci := 8) (v := .ref (ad 4)) (C := R_R) (T := F_R) (N := 32) hx hb ht iw_R hown hK hP 0 rfl rfl 7 (by decide) (ht _ wd_684) (fun _ h9 => h9) rfl d_R_street_99 ?_
              refine lv_aload_n hx hb d_R_street_102 rfl (lv_at hl 1 rfl) ?_
              refine va_get (ci := 8) (v := .int (s_20.1 3)) (C := R_R) (T := F_R) (N := 32) hx hb ht iw_R hown hK hP 0 rfl rfl 3 (by decide) (ht _ wd_680) (fun _ h9 => h9) rfl d_R_street_103 ?_
              refine lv_iload_n hx hb d_R_street_106 rfl (lv_at hl 2 rfl) ?_
              obtain ⟨hi39, hf⟩ := tg_of hf
              refine va_iast (f := s_20.2.1 3) hx hb hK hP (cwR_D hd) hS 4 3 rfl rfl hi39 d_R_street_107 (fun H locs hP _ hS => ?_)
              replace hP : va_P D clS (cwR ad ta (tI (tF s_20 0 (0 : Int32)) 3 ((s_20.1 3).toNatClampNeg) p0)) H := hP
              refine lv_aload_n hx hb d_R_street_108 rfl (lv_at hl 1 rfl) ?_
              refine va_get (ci := 8) (v := .ref (ad 5)) (C := R_R) (T := F_R) (N := 32) hx hb ht iw_R hown hK hP 0 rfl rfl 8 (by decide) (ht _ wd_685) (fun _ h9 => h9) rfl d_R_street_109 ?_
              refine lv_aload_n hx hb d_R_street_112 rfl (lv_at hl 1 rfl) ?_
              refine va_get (ci := 8) (v := .int (s_20.1 3)) (C := R_R) (T := F_R) (N := 32) hx hb ht iw_R hown hK hP 0 rfl rfl 3 (by decide) (ht _ wd_680) (fun _ h9 => h9) rfl d_R_street_113 ?_
              refine lv_iload_n hx hb d_R_street_116 rfl (lv_at hl 3 rfl) ?_
              obtain ⟨hi40, hf⟩ := tg_of hf
              refine va_iast (f := s_20.2.1 4) hx hb hK hP (cwR_D hd) hS 5 4 rfl rfl hi40 d_R_street_117 (fun H locs hP _ hS => ?_)
              replace hP : va_P D clS (cwR ad ta (tI (tI (tF s_20 0 (0 : Int32)) 3 ((s_20.1 3).toNatClampNeg) p0) 4 ((s_20.1 3).toNatClampNeg) p1)) H := hP
              refine lv_aload_n hx hb d_R_street_118 rfl (lv_at hl 1 rfl) ?_
              refine va_get (ci := 8) (v := .ref (ad 6)) (C := R_R) (T := F_R) (N := 32) hx hb ht iw_R hown hK hP 0 rfl rfl 9 (by decide) (ht _ wd_686) (fun _ h9 => h9) rfl d_R_street_119 ?_
              refine lv_aload_n hx hb d_R_street_122 rfl (lv_at hl 1 rfl) ?_
              refine va_get (ci := 8) (v := .int (s_20.1 3)) (C := R_R) (T := F_R) (N := 32) hx hb ht iw_R hown hK hP 0 rfl rfl 3 (by decide) (ht _ wd_680) (fun _ h9 => h9) rfl d_R_street_123 ?_
              refine lv_iload_n hx hb d_R_street_126 rfl (lv_at hl 4 rfl) ?_
              obtain ⟨hi41, hf⟩ := tg_of hf
              refine va_iast (f := s_20.2.1 5) hx hb hK hP (cwR_D hd) hS 6 5 rfl rfl hi41 d_R_street_127 (fun H locs hP _ hS => ?_)
              replace hP : va_P D clS (cwR ad ta (tI (tI (tI (tF s_20 0 (0 : Int32)) 3 ((s_20.1 3).toNatClampNeg) p0) 4 ((s_20.1 3).toNatClampNeg) p1) 5 ((s_20.1 3).toNatClampNeg) p2)) H := hP
              refine lv_aload_n hx hb d_R_street_128 rfl (lv_at hl 1 rfl) ?_
              refine va_get (ci := 8) (v := .ref (ad 7)) (C := R_R) (T := F_R) (N := 32) hx hb ht iw_R hown hK hP 0 rfl rfl 10 (by decide) (ht _ wd_687) (fun _ h9 => h9) rfl d_R_street_129 ?_
              refine lv_aload_n hx hb d_R_street_132 rfl (lv_at hl 1 rfl) ?_
              refine va_get (ci := 8) (v := .int (s_20.1 3)) (C := R_R) (T := F_R) (N := 32) hx hb ht iw_R hown hK hP 0 rfl rfl 3 (by decide) (ht _ wd_680) (fun _ h9 => h9) rfl d_R_street_133 ?_
              refine lv_iload hx hb d_R_street_136 (lv_at hl 5 rfl) ?_
              obtain ⟨hi42, hf⟩ := tg_of hf
              refine va_iast (f := s_20.2.1 6) hx hb hK hP (cwR_D hd) hS 7 6 rfl rfl hi42 d_R_street_138 (fun H locs hP _ hS => ?_)
              replace hP : va_P D clS (cwR ad ta (tI (tI (tI (tI (tF s_20 0 (0 : Int32)) 3 ((s_20.1 3).toNatClampNeg) p0) 4 ((s_20.1 3).toNatClampNeg) p1) 5 ((s_20.1 3).toNatClampNeg) p2) 6 ((s_20.1 3).toNatClampNeg) p3)) H := hP
              refine lv_aload_n hx hb d_R_street_139 rfl (lv_at hl 1 rfl) ?_
              refine va_get (ci := 8) (v := .ref (ad 8)) (C := R_R) (T := F_R) (N := 32) hx hb ht iw_R hown hK hP 0 rfl rfl 11 (by decide) (ht _ wd_688) (fun _ h9 => h9) rfl d_R_street_140 ?_
              refine lv_aload_n hx hb d_R_street_143 rfl (lv_at hl 1 rfl) ?_
              refine va_get (ci := 8) (v := .int (s_20.1 3)) (C := R_R) (T := F_R) (N := 32) hx hb ht iw_R hown hK hP 0 rfl rfl 3 (by decide) (ht _ wd_680) (fun _ h9 => h9) rfl d_R_street_144 ?_
              refine lv_iload hx hb d_R_street_147 (lv_at hl 6 rfl) ?_
              obtain ⟨hi43, hf⟩ := tg_of hf
              refine va_iast (f := s_20.2.1 7) hx hb hK hP (cwR_D hd) hS 8 7 rfl rfl hi43 d_R_street_149 (fun H locs hP _ hS => ?_)
              replace hP : va_P D clS (cwR ad ta (tI (tI (tI (tI (tI (tF s_20 0 (0 : Int32)) 3 ((s_20.1 3).toNatClampNeg) p0) 4 ((s_20.1 3).toNatClampNeg) p1) 5 ((s_20.1 3).toNatClampNeg) p2) 6 ((s_20.1 3).toNatClampNeg) p3) 7 ((s_20.1 3).toNatClampNeg) p4)) H := hP
              refine lv_aload_n hx hb d_R_street_150 rfl (lv_at hl 1 rfl) ?_
              refine va_get (ci := 8) (v := .ref (ad 11)) (C := R_R) (T := F_R) (N := 32) hx hb ht iw_R hown hK hP 0 rfl rfl 14 (by decide) (ht _ wd_691) (fun _ h9 => h9) rfl d_R_street_151 ?_
              refine lv_aload_n hx hb d_R_street_154 rfl (lv_at hl 1 rfl) ?_
              refine va_get (ci := 8) (v := .int (s_20.1 3)) (C := R_R) (T := F_R) (N := 32) hx hb ht iw_R hown hK hP 0 rfl rfl 3 (by decide) (ht _ wd_680) (fun _ h9 => h9) rfl d_R_street_155 ?_
              refine lv_iconst (v := ((-1) : Int32)) hx hb d_R_street_158 (by decide) ?_
              obtain ⟨hi44, hf⟩ := tg_of hf
              refine va_iast (f := s_20.2.1 10) hx hb hK hP (cwR_D hd) hS 11 10 rfl rfl hi44 d_R_street_159 (fun H locs hP _ hS => ?_)
              replace hP : va_P D clS (cwR ad ta (tI (tI (tI (tI (tI (tI (tF s_20 0 (0 : Int32)) 3 ((s_20.1 3).toNatClampNeg) p0) 4 ((s_20.1 3).toNatClampNeg) p1) 5 ((s_20.1 3).toNatClampNeg) p2) 6 ((s_20.1 3).toNatClampNeg) p3) 7 ((s_20.1 3).toNatClampNeg) p4) 10 ((s_20.1 3).toNatClampNeg) ((-1) : Int32))) H := hP
              refine lv_aload_n hx hb d_R_street_160 rfl (lv_at hl 1 rfl) ?_
              refine lv_dup hx hb d_R_street_161 rfl ?_
              refine va_get (ci := 8) (v := .int (s_20.1 3)) (C := R_R) (T := F_R) (N := 32) hx hb ht iw_R hown hK hP 0 rfl rfl 3 (by decide) (ht _ wd_680) (fun _ h9 => h9) rfl d_R_street_162 ?_
              refine lv_iconst (v := (1 : Int32)) hx hb d_R_street_165 (by decide) ?_
              refine lv_iadd hx hb d_R_street_166 ?_
              refine va_put (ci := 8) (v := .int ((s_20.1 3) + (1 : Int32))) (ty := .int) (C := R_R) (T := F_R) (N := 32) hx hb ht iw_R ft_R to_R nm_R hown hK hP (cwR_D hd) hS 0 rfl rfl 3 (by decide) (ht _ wd_680) (fun _ h9 => h9) rfl (by decide +kernel) rfl rfl (Nat.le_of_ble_eq_true rfl) d_R_street_167 (fun H locs hP _ hS => ?_)
              replace hP : va_P D clS (cwR ad ta (tF (tI (tI (tI (tI (tI (tI (tF s_20 0 (0 : Int32)) 3 ((s_20.1 3).toNatClampNeg) p0) 4 ((s_20.1 3).toNatClampNeg) p1) 5 ((s_20.1 3).toNatClampNeg) p2) 6 ((s_20.1 3).toNatClampNeg) p3) 7 ((s_20.1 3).toNatClampNeg) p4) 10 ((s_20.1 3).toNatClampNeg) ((-1) : Int32)) 3 ((s_20.1 3) + (1 : Int32)))) H := hP
              refine lv_aload_n hx hb d_R_street_170 rfl (lv_at hl 1 rfl) ?_
              refine va_get (ci := 8) (v := .int ((s_20.1 3) + (1 : Int32))) (C := R_R) (T := F_R) (N := 32) hx hb ht iw_R hown hK hP 0 rfl rfl 3 (by decide) (ht _ wd_680) (fun _ h9 => h9) rfl d_R_street_171 ?_
              refine lv_iconst (v := (1 : Int32)) hx hb d_R_street_174 (by decide) ?_
              refine lv_isub hx hb d_R_street_175 ?_
              obtain ⟨rfl, rfl⟩ := tp_of hf
              exact W.iret (v := (((s_20.1 3) + (1 : Int32)) - (1 : Int32))) hx hb hr (fun t ht hW => ⟨rfl, by rw [ht]; exact hP, hS.F ht⟩) hS.2.2 d_R_street_176
            · replace hf := ti_neg hc hf
              refine lv_iconst (v := (0 : Int32)) hx hb d_R_street_96 (by decide) ?_
              obtain ⟨rfl, rfl⟩ := tp_of hf
              exact W.iret (v := (0 : Int32)) hx hb hr (fun t ht hW => ⟨rfl, by rw [ht]; exact hP, hS.F ht⟩) hS.2.2 d_R_street_97
          · replace hf := ti_pos hc hf
            refine lv_iconst (v := (2 : Int32)) hx hb d_R_street_81 (by decide) ?_
            refine lv_goto (tgt := 86) hx hb d_R_street_82 (by decide) ?_
            refine va_put (ci := 8) (v := .int (2 : Int32)) (ty := .int) (C := R_R) (T := F_R) (N := 32) hx hb ht iw_R ft_R to_R nm_R hown hK hP (cwR_D hd) hS 0 rfl rfl 0 (by decide) (ht _ wd_677) (fun _ h9 => h9) rfl (by decide +kernel) rfl rfl (Nat.le_of_ble_eq_true rfl) d_R_street_86 (fun H locs hP _ hS => ?_)
            replace hP : va_P D clS (cwR ad ta (tF s_20 0 (2 : Int32))) H := hP
            refine lv_aload_n hx hb d_R_street_89 rfl (lv_at hl 1 rfl) ?_
            refine va_get (ci := 8) (v := .int (2 : Int32)) (C := R_R) (T := F_R) (N := 32) hx hb ht iw_R hown hK hP 0 rfl rfl 0 (by decide) (ht _ wd_677) (fun _ h9 => h9) rfl d_R_street_90 ?_
            refine lv_if_le (tgt := 98) hx hb d_R_street_93 (by decide) (fun hc => ?_) (fun hc => ?_)
            · replace hf := ti_pos hc hf
              refine lv_aload_n hx hb d_R_street_98 rfl (lv_at hl 1 rfl) ?_
              refine va_get (ci := 8) (v := .ref (ad 4)) (C := R_R) (T := F_R) (N := 32) hx hb ht iw_R hown hK hP 0 rfl rfl 7 (by decide) (ht _ wd_684) (fun _ h9 => h9) rfl d_R_street_99 ?_
              refine lv_aload_n hx hb d_R_street_102 rfl (lv_at hl 1 rfl) ?_
              refine va_get (ci := 8) (v := .int (s_20.1 3)) (C := R_R) (T := F_R) (N := 32) hx hb ht iw_R hown hK hP 0 rfl rfl 3 (by decide) (ht _ wd_680) (fun _ h9 => h9) rfl d_R_street_103 ?_
              refine lv_iload_n hx hb d_R_street_106 rfl (lv_at hl 2 rfl) ?_
              obtain ⟨hi45, hf⟩ := tg_of hf
              refine va_iast (f := s_20.2.1 3) hx hb hK hP (cwR_D hd) hS 4 3 rfl rfl hi45 d_R_street_107 (fun H locs hP _ hS => ?_)
              replace hP : va_P D clS (cwR ad ta (tI (tF s_20 0 (2 : Int32)) 3 ((s_20.1 3).toNatClampNeg) p0)) H := hP
              refine lv_aload_n hx hb d_R_street_108 rfl (lv_at hl 1 rfl) ?_
              refine va_get (ci := 8) (v := .ref (ad 5)) (C := R_R) (T := F_R) (N := 32) hx hb ht iw_R hown hK hP 0 rfl rfl 8 (by decide) (ht _ wd_685) (fun _ h9 => h9) rfl d_R_street_109 ?_
              refine lv_aload_n hx hb d_R_street_112 rfl (lv_at hl 1 rfl) ?_
              refine va_get (ci := 8) (v := .int (s_20.1 3)) (C := R_R) (T := F_R) (N := 32) hx hb ht iw_R hown hK hP 0 rfl rfl 3 (by decide) (ht _ wd_680) (fun _ h9 => h9) rfl d_R_street_113 ?_
              refine lv_iload_n hx hb d_R_street_116 rfl (lv_at hl 3 rfl) ?_
              obtain ⟨hi46, hf⟩ := tg_of hf
              refine va_iast (f := s_20.2.1 4) hx hb hK hP (cwR_D hd) hS 5 4 rfl rfl hi46 d_R_street_117 (fun H locs hP _ hS => ?_)
              replace hP : va_P D clS (cwR ad ta (tI (tI (tF s_20 0 (2 : Int32)) 3 ((s_20.1 3).toNatClampNeg) p0) 4 ((s_20.1 3).toNatClampNeg) p1)) H := hP
              refine lv_aload_n hx hb d_R_street_118 rfl (lv_at hl 1 rfl) ?_
              refine va_get (ci := 8) (v := .ref (ad 6)) (C := R_R) (T := F_R) (N := 32) hx hb ht iw_R hown hK hP 0 rfl rfl 9 (by decide) (ht _ wd_686) (fun _ h9 => h9) rfl d_R_street_119 ?_
              refine lv_aload_n hx hb d_R_street_122 rfl (lv_at hl 1 rfl) ?_
              refine va_get (ci := 8) (v := .int (s_20.1 3)) (C := R_R) (T := F_R) (N := 32) hx hb ht iw_R hown hK hP 0 rfl rfl 3 (by decide) (ht _ wd_680) (fun _ h9 => h9) rfl d_R_street_123 ?_
              refine lv_iload_n hx hb d_R_street_126 rfl (lv_at hl 4 rfl) ?_
              obtain ⟨hi47, hf⟩ := tg_of hf
              refine va_iast (f := s_20.2.1 5) hx hb hK hP (cwR_D hd) hS 6 5 rfl rfl hi47 d_R_street_127 (fun H locs hP _ hS => ?_)
              replace hP : va_P D clS (cwR ad ta (tI (tI (tI (tF s_20 0 (2 : Int32)) 3 ((s_20.1 3).toNatClampNeg) p0) 4 ((s_20.1 3).toNatClampNeg) p1) 5 ((s_20.1 3).toNatClampNeg) p2)) H := hP
              refine lv_aload_n hx hb d_R_street_128 rfl (lv_at hl 1 rfl) ?_
              refine va_get (ci := 8) (v := .ref (ad 7)) (C := R_R) (T := F_R) (N := 32) hx hb ht iw_R hown hK hP 0 rfl rfl 10 (by decide) (ht _ wd_687) (fun _ h9 => h9) rfl d_R_street_129 ?_
              refine lv_aload_n hx hb d_R_street_132 rfl (lv_at hl 1 rfl) ?_
              refine va_get (ci := 8) (v := .int (s_20.1 3)) (C := R_R) (T := F_R) (N := 32) hx hb ht iw_R hown hK hP 0 rfl rfl 3 (by decide) (ht _ wd_680) (fun _ h9 => h9) rfl d_R_street_133 ?_
              refine lv_iload hx hb d_R_street_136 (lv_at hl 5 rfl) ?_
              obtain ⟨hi48, hf⟩ := tg_of hf
              refine va_iast (f := s_20.2.1 6) hx hb hK hP (cwR_D hd) hS 7 6 rfl rfl hi48 d_R_street_138 (fun H locs hP _ hS => ?_)
              replace hP : va_P D clS (cwR ad ta (tI (tI (tI (tI (tF s_20 0 (2 : Int32)) 3 ((s_20.1 3).toNatClampNeg) p0) 4 ((s_20.1 3).toNatClampNeg) p1) 5 ((s_20.1 3).toNatClampNeg) p2) 6 ((s_20.1 3).toNatClampNeg) p3)) H := hP
              refine lv_aload_n hx hb d_R_street_139 rfl (lv_at hl 1 rfl) ?_
              refine va_get (ci := 8) (v := .ref (ad 8)) (C := R_R) (T := F_R) (N := 32) hx hb ht iw_R hown hK hP 0 rfl rfl 11 (by decide) (ht _ wd_688) (fun _ h9 => h9) rfl d_R_street_140 ?_
              refine lv_aload_n hx hb d_R_street_143 rfl (lv_at hl 1 rfl) ?_
              refine va_get (ci := 8) (v := .int (s_20.1 3)) (C := R_R) (T := F_R) (N := 32) hx hb ht iw_R hown hK hP 0 rfl rfl 3 (by decide) (ht _ wd_680) (fun _ h9 => h9) rfl d_R_street_144 ?_
              refine lv_iload hx hb d_R_street_147 (lv_at hl 6 rfl) ?_
              obtain ⟨hi49, hf⟩ := tg_of hf
              refine va_iast (f := s_20.2.1 7) hx hb hK hP (cwR_D hd) hS 8 7 rfl rfl hi49 d_R_street_149 (fun H locs hP _ hS => ?_)
              replace hP : va_P D clS (cwR ad ta (tI (tI (tI (tI (tI (tF s_20 0 (2 : Int32)) 3 ((s_20.1 3).toNatClampNeg) p0) 4 ((s_20.1 3).toNatClampNeg) p1) 5 ((s_20.1 3).toNatClampNeg) p2) 6 ((s_20.1 3).toNatClampNeg) p3) 7 ((s_20.1 3).toNatClampNeg) p4)) H := hP
              refine lv_aload_n hx hb d_R_street_150 rfl (lv_at hl 1 rfl) ?_
              refine va_get (ci := 8) (v := .ref (ad 11)) (C := R_R) (T := F_R) (N := 32) hx hb ht iw_R hown hK hP 0 rfl rfl 14 (by decide) (ht _ wd_691) (fun _ h9 => h9) rfl d_R_street_151 ?_
              refine lv_aload_n hx hb d_R_street_154 rfl (lv_at hl 1 rfl) ?_
              refine va_get (ci := 8) (v := .int (s_20.1 3)) (C := R_R) (T := F_R) (N := 32) hx hb ht iw_R hown hK hP 0 rfl rfl 3 (by decide) (ht _ wd_680) (fun _ h9 => h9) rfl d_R_street_155 ?_
              refine lv_iconst (v := ((-1) : Int32)) hx hb d_R_street_158 (by decide) ?_
              obtain ⟨hi50, hf⟩ := tg_of hf
              refine va_iast (f := s_20.2.1 10) hx hb hK hP (cwR_D hd) hS 11 10 rfl rfl hi50 d_R_street_159 (fun H locs hP _ hS => ?_)
              replace hP : va_P D clS (cwR ad ta (tI (tI (tI (tI (tI (tI (tF s_20 0 (2 : Int32)) 3 ((s_20.1 3).toNatClampNeg) p0) 4 ((s_20.1 3).toNatClampNeg) p1) 5 ((s_20.1 3).toNatClampNeg) p2) 6 ((s_20.1 3).toNatClampNeg) p3) 7 ((s_20.1 3).toNatClampNeg) p4) 10 ((s_20.1 3).toNatClampNeg) ((-1) : Int32))) H := hP
              refine lv_aload_n hx hb d_R_street_160 rfl (lv_at hl 1 rfl) ?_
              refine lv_dup hx hb d_R_street_161 rfl ?_
              refine va_get (ci := 8) (v := .int (s_20.1 3)) (C := R_R) (T := F_R) (N := 32) hx hb ht iw_R hown hK hP 0 rfl rfl 3 (by decide) (ht _ wd_680) (fun _ h9 => h9) rfl d_R_street_162 ?_
              refine lv_iconst (v := (1 : Int32)) hx hb d_R_street_165 (by decide) ?_
              refine lv_iadd hx hb d_R_street_166 ?_
              refine va_put (ci := 8) (v := .int ((s_20.1 3) + (1 : Int32))) (ty := .int) (C := R_R) (T := F_R) (N := 32) hx hb ht iw_R ft_R to_R nm_R hown hK hP (cwR_D hd) hS 0 rfl rfl 3 (by decide) (ht _ wd_680) (fun _ h9 => h9) rfl (by decide +kernel) rfl rfl (Nat.le_of_ble_eq_true rfl) d_R_street_167 (fun H locs hP _ hS => ?_)
              replace hP : va_P D clS (cwR ad ta (tF (tI (tI (tI (tI (tI (tI (tF s_20 0 (2 : Int32)) 3 ((s_20.1 3).toNatClampNeg) p0) 4 ((s_20.1 3).toNatClampNeg) p1) 5 ((s_20.1 3).toNatClampNeg) p2) 6 ((s_20.1 3).toNatClampNeg) p3) 7 ((s_20.1 3).toNatClampNeg) p4) 10 ((s_20.1 3).toNatClampNeg) ((-1) : Int32)) 3 ((s_20.1 3) + (1 : Int32)))) H := hP
              refine lv_aload_n hx hb d_R_street_170 rfl (lv_at hl 1 rfl) ?_
              refine va_get (ci := 8) (v := .int ((s_20.1 3) + (1 : Int32))) (C := R_R) (T := F_R) (N := 32) hx hb ht iw_R hown hK hP 0 rfl rfl 3 (by decide) (ht _ wd_680) (fun _ h9 => h9) rfl d_R_street_171 ?_
              refine lv_iconst (v := (1 : Int32)) hx hb d_R_street_174 (by decide) ?_
              refine lv_isub hx hb d_R_street_175 ?_
              obtain ⟨rfl, rfl⟩ := tp_of hf
              exact W.iret (v := (((s_20.1 3) + (1 : Int32)) - (1 : Int32))) hx hb hr (fun t ht hW => ⟨rfl, by rw [ht]; exact hP, hS.F ht⟩) hS.2.2 d_R_street_176
            · replace hf := ti_neg hc hf
              refine lv_iconst (v := (0 : Int32)) hx hb d_R_street_96 (by decide) ?_
              obtain ⟨rfl, rfl⟩ := tp_of hf
              exact W.iret (v := (0 : Int32)) hx hb hr (fun t ht hW => ⟨rfl, by rw [ht]; exact hP, hS.F ht⟩) hS.2.2 d_R_street_97
        · replace hf := ti_pos hc hf
          refine lv_iconst (v := (1 : Int32)) hx hb d_R_street_68 (by decide) ?_
          refine lv_goto (tgt := 86) hx hb d_R_street_69 (by decide) ?_
          refine va_put (ci := 8) (v := .int (1 : Int32)) (ty := .int) (C := R_R) (T := F_R) (N := 32) hx hb ht iw_R ft_R to_R nm_R hown hK hP (cwR_D hd) hS 0 rfl rfl 0 (by decide) (ht _ wd_677) (fun _ h9 => h9) rfl (by decide +kernel) rfl rfl (Nat.le_of_ble_eq_true rfl) d_R_street_86 (fun H locs hP _ hS => ?_)
          replace hP : va_P D clS (cwR ad ta (tF s_20 0 (1 : Int32))) H := hP
          refine lv_aload_n hx hb d_R_street_89 rfl (lv_at hl 1 rfl) ?_
          refine va_get (ci := 8) (v := .int (1 : Int32)) (C := R_R) (T := F_R) (N := 32) hx hb ht iw_R hown hK hP 0 rfl rfl 0 (by decide) (ht _ wd_677) (fun _ h9 => h9) rfl d_R_street_90 ?_
          refine lv_if_le (tgt := 98) hx hb d_R_street_93 (by decide) (fun hc => ?_) (fun hc => ?_)
          · replace hf := ti_pos hc hf
            refine lv_aload_n hx hb d_R_street_98 rfl (lv_at hl 1 rfl) ?_
            refine va_get (ci := 8) (v := .ref (ad 4)) (C := R_R) (T := F_R) (N := 32) hx hb ht iw_R hown hK hP 0 rfl rfl 7 (by decide) (ht _ wd_684) (fun _ h9 => h9) rfl d_R_street_99 ?_
            refine lv_aload_n hx hb d_R_street_102 rfl (lv_at hl 1 rfl) ?_
            refine va_get (ci := 8) (v := .int (s_20.1 3)) (C := R_R) (T := F_R) (N := 32) hx hb ht iw_R hown hK hP 0 rfl rfl 3 (by decide) (ht _ wd_680) (fun _ h9 => h9) rfl d_R_street_103 ?_
            refine lv_iload_n hx hb d_R_street_106 rfl (lv_at hl 2 rfl) ?_
            obtain ⟨hi51, hf⟩ := tg_of hf
            refine va_iast (f := s_20.2.1 3) hx hb hK hP (cwR_D hd) hS 4 3 rfl rfl hi51 d_R_street_107 (fun H locs hP _ hS => ?_)
            replace hP : va_P D clS (cwR ad ta (tI (tF s_20 0 (1 : Int32)) 3 ((s_20.1 3).toNatClampNeg) p0)) H := hP
            refine lv_aload_n hx hb d_R_street_108 rfl (lv_at hl 1 rfl) ?_
            refine va_get (ci := 8) (v := .ref (ad 5)) (C := R_R) (T := F_R) (N := 32) hx hb ht iw_R hown hK hP 0 rfl rfl 8 (by decide) (ht _ wd_685) (fun _ h9 => h9) rfl d_R_street_109 ?_
            refine lv_aload_n hx hb d_R_street_112 rfl (lv_at hl 1 rfl) ?_
            refine va_get (ci := 8) (v := .int (s_20.1 3)) (C := R_R) (T := F_R) (N := 32) hx hb ht iw_R hown hK hP 0 rfl rfl 3 (by decide) (ht _ wd_680) (fun _ h9 => h9) rfl d_R_street_113 ?_
            refine lv_iload_n hx hb d_R_street_116 rfl (lv_at hl 3 rfl) ?_
            obtain ⟨hi52, hf⟩ := tg_of hf
            refine va_iast (f := s_20.2.1 4) hx hb hK hP (cwR_D hd) hS 5 4 rfl rfl hi52 d_R_street_117 (fun H locs hP _ hS => ?_)
            replace hP : va_P D clS (cwR ad ta (tI (tI (tF s_20 0 (1 : Int32)) 3 ((s_20.1 3).toNatClampNeg) p0) 4 ((s_20.1 3).toNatClampNeg) p1)) H := hP
            refine lv_aload_n hx hb d_R_street_118 rfl (lv_at hl 1 rfl) ?_
            refine va_get (ci := 8) (v := .ref (ad 6)) (C := R_R) (T := F_R) (N := 32) hx hb ht iw_R hown hK hP 0 rfl rfl 9 (by decide) (ht _ wd_686) (fun _ h9 => h9) rfl d_R_street_119 ?_
            refine lv_aload_n hx hb d_R_street_122 rfl (lv_at hl 1 rfl) ?_
            refine va_get (ci := 8) (v := .int (s_20.1 3)) (C := R_R) (T := F_R) (N := 32) hx hb ht iw_R hown hK hP 0 rfl rfl 3 (by decide) (ht _ wd_680) (fun _ h9 => h9) rfl d_R_street_123 ?_
            refine lv_iload_n hx hb d_R_street_126 rfl (lv_at hl 4 rfl) ?_
            obtain ⟨hi53, hf⟩ := tg_of hf
            refine va_iast (f := s_20.2.1 5) hx hb hK hP (cwR_D hd) hS 6 5 rfl rfl hi53 d_R_street_127 (fun H locs hP _ hS => ?_)
            replace hP : va_P D clS (cwR ad ta (tI (tI (tI (tF s_20 0 (1 : Int32)) 3 ((s_20.1 3).toNatClampNeg) p0) 4 ((s_20.1 3).toNatClampNeg) p1) 5 ((s_20.1 3).toNatClampNeg) p2)) H := hP
            refine lv_aload_n hx hb d_R_street_128 rfl (lv_at hl 1 rfl) ?_
            refine va_get (ci := 8) (v := .ref (ad 7)) (C := R_R) (T := F_R) (N := 32) hx hb ht iw_R hown hK hP 0 rfl rfl 10 (by decide) (ht _ wd_687) (fun _ h9 => h9) rfl d_R_street_129 ?_
            refine lv_aload_n hx hb d_R_street_132 rfl (lv_at hl 1 rfl) ?_
            refine va_get (ci := 8) (v := .int (s_20.1 3)) (C := R_R) (T := F_R) (N := 32) hx hb ht iw_R hown hK hP 0 rfl rfl 3 (by decide) (ht _ wd_680) (fun _ h9 => h9) rfl d_R_street_133 ?_
            refine lv_iload hx hb d_R_street_136 (lv_at hl 5 rfl) ?_
            obtain ⟨hi54, hf⟩ := tg_of hf
            refine va_iast (f := s_20.2.1 6) hx hb hK hP (cwR_D hd) hS 7 6 rfl rfl hi54 d_R_street_138 (fun H locs hP _ hS => ?_)
            replace hP : va_P D clS (cwR ad ta (tI (tI (tI (tI (tF s_20 0 (1 : Int32)) 3 ((s_20.1 3).toNatClampNeg) p0) 4 ((s_20.1 3).toNatClampNeg) p1) 5 ((s_20.1 3).toNatClampNeg) p2) 6 ((s_20.1 3).toNatClampNeg) p3)) H := hP
            refine lv_aload_n hx hb d_R_street_139 rfl (lv_at hl 1 rfl) ?_
            refine va_get (ci := 8) (v := .ref (ad 8)) (C := R_R) (T := F_R) (N := 32) hx hb ht iw_R hown hK hP 0 rfl rfl 11 (by decide) (ht _ wd_688) (fun _ h9 => h9) rfl d_R_street_140 ?_
            refine lv_aload_n hx hb d_R_street_143 rfl (lv_at hl 1 rfl) ?_
            refine va_get (ci := 8) (v := .int (s_20.1 3)) (C := R_R) (T := F_R) (N := 32) hx hb ht iw_R hown hK hP 0 rfl rfl 3 (by decide) (ht _ wd_680) (fun _ h9 => h9) rfl d_R_street_144 ?_
            refine lv_iload hx hb d_R_street_147 (lv_at hl 6 rfl) ?_
            obtain ⟨hi55, hf⟩ := tg_of hf
            refine va_iast (f := s_20.2.1 7) hx hb hK hP (cwR_D hd) hS 8 7 rfl rfl hi55 d_R_street_149 (fun H locs hP _ hS => ?_)
            replace hP : va_P D clS (cwR ad ta (tI (tI (tI (tI (tI (tF s_20 0 (1 : Int32)) 3 ((s_20.1 3).toNatClampNeg) p0) 4 ((s_20.1 3).toNatClampNeg) p1) 5 ((s_20.1 3).toNatClampNeg) p2) 6 ((s_20.1 3).toNatClampNeg) p3) 7 ((s_20.1 3).toNatClampNeg) p4)) H := hP
            refine lv_aload_n hx hb d_R_street_150 rfl (lv_at hl 1 rfl) ?_
            refine va_get (ci := 8) (v := .ref (ad 11)) (C := R_R) (T := F_R) (N := 32) hx hb ht iw_R hown hK hP 0 rfl rfl 14 (by decide) (ht _ wd_691) (fun _ h9 => h9) rfl d_R_street_151 ?_
            refine lv_aload_n hx hb d_R_street_154 rfl (lv_at hl 1 rfl) ?_
            refine va_get (ci := 8) (v := .int (s_20.1 3)) (C := R_R) (T := F_R) (N := 32) hx hb ht iw_R hown hK hP 0 rfl rfl 3 (by decide) (ht _ wd_680) (fun _ h9 => h9) rfl d_R_street_155 ?_
            refine lv_iconst (v := ((-1) : Int32)) hx hb d_R_street_158 (by decide) ?_
            obtain ⟨hi56, hf⟩ := tg_of hf
            refine va_iast (f := s_20.2.1 10) hx hb hK hP (cwR_D hd) hS 11 10 rfl rfl hi56 d_R_street_159 (fun H locs hP _ hS => ?_)
            replace hP : va_P D clS (cwR ad ta (tI (tI (tI (tI (tI (tI (tF s_20 0 (1 : Int32)) 3 ((s_20.1 3).toNatClampNeg) p0) 4 ((s_20.1 3).toNatClampNeg) p1) 5 ((s_20.1 3).toNatClampNeg) p2) 6 ((s_20.1 3).toNatClampNeg) p3) 7 ((s_20.1 3).toNatClampNeg) p4) 10 ((s_20.1 3).toNatClampNeg) ((-1) : Int32))) H := hP
            refine lv_aload_n hx hb d_R_street_160 rfl (lv_at hl 1 rfl) ?_
            refine lv_dup hx hb d_R_street_161 rfl ?_
            refine va_get (ci := 8) (v := .int (s_20.1 3)) (C := R_R) (T := F_R) (N := 32) hx hb ht iw_R hown hK hP 0 rfl rfl 3 (by decide) (ht _ wd_680) (fun _ h9 => h9) rfl d_R_street_162 ?_
            refine lv_iconst (v := (1 : Int32)) hx hb d_R_street_165 (by decide) ?_
            refine lv_iadd hx hb d_R_street_166 ?_
            refine va_put (ci := 8) (v := .int ((s_20.1 3) + (1 : Int32))) (ty := .int) (C := R_R) (T := F_R) (N := 32) hx hb ht iw_R ft_R to_R nm_R hown hK hP (cwR_D hd) hS 0 rfl rfl 3 (by decide) (ht _ wd_680) (fun _ h9 => h9) rfl (by decide +kernel) rfl rfl (Nat.le_of_ble_eq_true rfl) d_R_street_167 (fun H locs hP _ hS => ?_)
            replace hP : va_P D clS (cwR ad ta (tF (tI (tI (tI (tI (tI (tI (tF s_20 0 (1 : Int32)) 3 ((s_20.1 3).toNatClampNeg) p0) 4 ((s_20.1 3).toNatClampNeg) p1) 5 ((s_20.1 3).toNatClampNeg) p2) 6 ((s_20.1 3).toNatClampNeg) p3) 7 ((s_20.1 3).toNatClampNeg) p4) 10 ((s_20.1 3).toNatClampNeg) ((-1) : Int32)) 3 ((s_20.1 3) + (1 : Int32)))) H := hP
            refine lv_aload_n hx hb d_R_street_170 rfl (lv_at hl 1 rfl) ?_
            refine va_get (ci := 8) (v := .int ((s_20.1 3) + (1 : Int32))) (C := R_R) (T := F_R) (N := 32) hx hb ht iw_R hown hK hP 0 rfl rfl 3 (by decide) (ht _ wd_680) (fun _ h9 => h9) rfl d_R_street_171 ?_
            refine lv_iconst (v := (1 : Int32)) hx hb d_R_street_174 (by decide) ?_
            refine lv_isub hx hb d_R_street_175 ?_
            obtain ⟨rfl, rfl⟩ := tp_of hf
            exact W.iret (v := (((s_20.1 3) + (1 : Int32)) - (1 : Int32))) hx hb hr (fun t ht hW => ⟨rfl, by rw [ht]; exact hP, hS.F ht⟩) hS.2.2 d_R_street_176
          · replace hf := ti_neg hc hf
            refine lv_iconst (v := (0 : Int32)) hx hb d_R_street_96 (by decide) ?_
            obtain ⟨rfl, rfl⟩ := tp_of hf
            exact W.iret (v := (0 : Int32)) hx hb hr (fun t ht hW => ⟨rfl, by rw [ht]; exact hP, hS.F ht⟩) hS.2.2 d_R_street_97
      · replace hf := ti_neg hc hf
        refine lv_iload_n hx hb d_R_street_21 rfl (lv_at hl 3 rfl) ?_
        refine lv_iconst (v := (1 : Int32)) hx hb d_R_street_22 (by decide) ?_
        refine lv_sipush (v := (1000 : Int32)) hx hb d_R_street_23 (by decide) ?_
        obtain ⟨r_57, s_57, hq57, hf⟩ := tb2_of hf
        refine tr_calli (va_runS (As := [.int p2, .int (1 : Int32), .int (1000 : Int32)]) (rest := []) ⟨hx, hb, hml, hown, ht⟩ (mc_R_isIn l hd hq57) ⟨(tw_cb (n := 3) ht wc_R_isIn wd_43 wd_790 ⟨rfl, rfl⟩ (by decide +kernel) ⟨(Nat.le_of_ble_eq_true rfl), (Nat.le_of_ble_eq_true rfl)⟩), ht _ wd_791⟩ ⟨tP_blind, fun U hU hW => ⟨rfl, by rw [hU]; exact hP, va_K.moved hW.alike hK, tW_warm hW hN⟩⟩ rfl rfl hl.1 rfl (lv_room (Nat.le_of_ble_eq_true rfl)) d_R_street_26 ⟨Nat.zero_le _, Nat.zero_le _⟩) hS (fun _ h => h.elim) (fun _ h => h.elim) (fun H locs hP hS => ?_)
        refine lv_if_eq (tgt := 59) hx hb d_R_street_29 (by decide) (fun hc => ?_) (fun hc => ?_)
        · replace hf := ti_pos hc hf
          refine lv_iconst (v := (0 : Int32)) hx hb d_R_street_59 (by decide) ?_
          refine lv_istore (lv' := [(6, .int (0 : Int32)), (0, .ref (ad 0)), (1, .int p0), (2, .int p1), (3, .int p2), (4, .int p3), (5, .int p4)]) hx hb d_R_street_60 hl (by decide) rfl (fun ls hl => ?_)
          refine lv_aload_n hx hb d_R_street_62 rfl (lv_at hl 1 rfl) ?_
          refine lv_iload hx hb d_R_street_63 (lv_at hl 0 rfl) ?_
          refine lv_if_ne (tgt := 72) hx hb d_R_street_65 (by decide) (fun hc => ?_) (fun hc => ?_)
          · replace hf := ti_neg hc hf
            refine lv_aload_n hx hb d_R_street_72 rfl (lv_at hl 1 rfl) ?_
            refine va_get (ci := 8) (v := .int (s_57.1 3)) (C := R_R) (T := F_R) (N := 32) hx hb ht iw_R hown hK hP 0 rfl rfl 3 (by decide) (ht _ wd_680) (fun _ h9 => h9) rfl d_R_street_73 ?_
            refine lv_bipush (v := (40 : Int32)) hx hb d_R_street_76 (by decide) ?_
            refine lv_icmp_ne (tgt := 85) hx hb d_R_street_78 (by decide) (fun hc => ?_) (fun hc => ?_)
            · replace hf := ti_neg hc hf
              refine lv_iconst (v := (0 : Int32)) hx hb d_R_street_85 (by decide) ?_
              refine va_put (ci := 8) (v := .int (0 : Int32)) (ty := .int) (C := R_R) (T := F_R) (N := 32) hx hb ht iw_R ft_R to_R nm_R hown hK hP (cwR_D hd) hS 0 rfl rfl 0 (by decide) (ht _ wd_677) (fun _ h9 => h9) rfl (by decide +kernel) rfl rfl (Nat.le_of_ble_eq_true rfl) d_R_street_86 (fun H locs hP _ hS => ?_)
              replace hP : va_P D clS (cwR ad ta (tF s_57 0 (0 : Int32))) H := hP
              refine lv_aload_n hx hb d_R_street_89 rfl (lv_at hl 1 rfl) ?_
              refine va_get (ci := 8) (v := .int (0 : Int32)) (C := R_R) (T := F_R) (N := 32) hx hb ht iw_R hown hK hP 0 rfl rfl 0 (by decide) (ht _ wd_677) (fun _ h9 => h9) rfl d_R_street_90 ?_
              refine lv_if_le (tgt := 98) hx hb d_R_street_93 (by decide) (fun hc => ?_) (fun hc => ?_)
              · replace hf := ti_pos hc hf
                refine lv_aload_n hx hb d_R_street_98 rfl (lv_at hl 1 rfl) ?_
                refine va_get (ci := 8) (v := .ref (ad 4)) (C := R_R) (T := F_R) (N := 32) hx hb ht iw_R hown hK hP 0 rfl rfl 7 (by decide) (ht _ wd_684) (fun _ h9 => h9) rfl d_R_street_99 ?_
                refine lv_aload_n hx hb d_R_street_102 rfl (lv_at hl 1 rfl) ?_
                refine va_get (ci := 8) (v := .int (s_57.1 3)) (C := R_R) (T := F_R) (N := 32) hx hb ht iw_R hown hK hP 0 rfl rfl 3 (by decide) (ht _ wd_680) (fun _ h9 => h9) rfl d_R_street_103 ?_
                refine lv_iload_n hx hb d_R_street_106 rfl (lv_at hl 2 rfl) ?_
                obtain ⟨hi58, hf⟩ := tg_of hf
                refine va_iast (f := s_57.2.1 3) hx hb hK hP (cwR_D hd) hS 4 3 rfl rfl hi58 d_R_street_107 (fun H locs hP _ hS => ?_)
                replace hP : va_P D clS (cwR ad ta (tI (tF s_57 0 (0 : Int32)) 3 ((s_57.1 3).toNatClampNeg) p0)) H := hP
                refine lv_aload_n hx hb d_R_street_108 rfl (lv_at hl 1 rfl) ?_
                refine va_get (ci := 8) (v := .ref (ad 5)) (C := R_R) (T := F_R) (N := 32) hx hb ht iw_R hown hK hP 0 rfl rfl 8 (by decide) (ht _ wd_685) (fun _ h9 => h9) rfl d_R_street_109 ?_
                refine lv_aload_n hx hb d_R_street_112 rfl (lv_at hl 1 rfl) ?_
                refine va_get (ci := 8) (v := .int (s_57.1 3)) (C := R_R) (T := F_R) (N := 32) hx hb ht iw_R hown hK hP 0 rfl rfl 3 (by decide) (ht _ wd_680) (fun _ h9 => h9) rfl d_R_street_113 ?_
                refine lv_iload_n hx hb d_R_street_116 rfl (lv_at hl 3 rfl) ?_
                obtain ⟨hi59, hf⟩ := tg_of hf
                refine va_iast (f := s_57.2.1 4) hx hb hK hP (cwR_D hd) hS 5 4 rfl rfl hi59 d_R_street_117 (fun H locs hP _ hS => ?_)
                replace hP : va_P D clS (cwR ad ta (tI (tI (tF s_57 0 (0 : Int32)) 3 ((s_57.1 3).toNatClampNeg) p0) 4 ((s_57.1 3).toNatClampNeg) p1)) H := hP
                refine lv_aload_n hx hb d_R_street_118 rfl (lv_at hl 1 rfl) ?_
                refine va_get (ci := 8) (v := .ref (ad 6)) (C := R_R) (T := F_R) (N := 32) hx hb ht iw_R hown hK hP 0 rfl rfl 9 (by decide) (ht _ wd_686) (fun _ h9 => h9) rfl d_R_street_119 ?_
                refine lv_aload_n hx hb d_R_street_122 rfl (lv_at hl 1 rfl) ?_
                refine va_get (ci := 8) (v := .int (s_57.1 3)) (C := R_R) (T := F_R) (N := 32) hx hb ht iw_R hown hK hP 0 rfl rfl 3 (by decide) (ht _ wd_680) (fun _ h9 => h9) rfl d_R_street_123 ?_
                refine lv_iload_n hx hb d_R_street_126 rfl (lv_at hl 4 rfl) ?_
                obtain ⟨hi60, hf⟩ := tg_of hf
                refine va_iast (f := s_57.2.1 5) hx hb hK hP (cwR_D hd) hS 6 5 rfl rfl hi60 d_R_street_127 (fun H locs hP _ hS => ?_)
                replace hP : va_P D clS (cwR ad ta (tI (tI (tI (tF s_57 0 (0 : Int32)) 3 ((s_57.1 3).toNatClampNeg) p0) 4 ((s_57.1 3).toNatClampNeg) p1) 5 ((s_57.1 3).toNatClampNeg) p2)) H := hP
                refine lv_aload_n hx hb d_R_street_128 rfl (lv_at hl 1 rfl) ?_
                refine va_get (ci := 8) (v := .ref (ad 7)) (C := R_R) (T := F_R) (N := 32) hx hb ht iw_R hown hK hP 0 rfl rfl 10 (by decide) (ht _ wd_687) (fun _ h9 => h9) rfl d_R_street_129 ?_
                refine lv_aload_n hx hb d_R_street_132 rfl (lv_at hl 1 rfl) ?_
                refine va_get (ci := 8) (v := .int (s_57.1 3)) (C := R_R) (T := F_R) (N := 32) hx hb ht iw_R hown hK hP 0 rfl rfl 3 (by decide) (ht _ wd_680) (fun _ h9 => h9) rfl d_R_street_133 ?_
                refine lv_iload hx hb d_R_street_136 (lv_at hl 5 rfl) ?_
                obtain ⟨hi61, hf⟩ := tg_of hf
                refine va_iast (f := s_57.2.1 6) hx hb hK hP (cwR_D hd) hS 7 6 rfl rfl hi61 d_R_street_138 (fun H locs hP _ hS => ?_)
                replace hP : va_P D clS (cwR ad ta (tI (tI (tI (tI (tF s_57 0 (0 : Int32)) 3 ((s_57.1 3).toNatClampNeg) p0) 4 ((s_57.1 3).toNatClampNeg) p1) 5 ((s_57.1 3).toNatClampNeg) p2) 6 ((s_57.1 3).toNatClampNeg) p3)) H := hP
                refine lv_aload_n hx hb d_R_street_139 rfl (lv_at hl 1 rfl) ?_
                refine va_get (ci := 8) (v := .ref (ad 8)) (C := R_R) (T := F_R) (N := 32) hx hb ht iw_R hown hK hP 0 rfl rfl 11 (by decide) (ht _ wd_688) (fun _ h9 => h9) rfl d_R_street_140 ?_
                refine lv_aload_n hx hb d_R_street_143 rfl (lv_at hl 1 rfl) ?_
                refine va_get (ci := 8) (v := .int (s_57.1 3)) (C := R_R) (T := F_R) (N := 32) hx hb ht iw_R hown hK hP 0 rfl rfl 3 (by decide) (ht _ wd_680) (fun _ h9 => h9) rfl d_R_street_144 ?_
                refine lv_iload hx hb d_R_street_147 (lv_at hl 6 rfl) ?_
                obtain ⟨hi62, hf⟩ := tg_of hf
                refine va_iast (f := s_57.2.1 7) hx hb hK hP (cwR_D hd) hS 8 7 rfl rfl hi62 d_R_street_149 (fun H locs hP _ hS => ?_)
                replace hP : va_P D clS (cwR ad ta (tI (tI (tI (tI (tI (tF s_57 0 (0 : Int32)) 3 ((s_57.1 3).toNatClampNeg) p0) 4 ((s_57.1 3).toNatClampNeg) p1) 5 ((s_57.1 3).toNatClampNeg) p2) 6 ((s_57.1 3).toNatClampNeg) p3) 7 ((s_57.1 3).toNatClampNeg) p4)) H := hP
                refine lv_aload_n hx hb d_R_street_150 rfl (lv_at hl 1 rfl) ?_
                refine va_get (ci := 8) (v := .ref (ad 11)) (C := R_R) (T := F_R) (N := 32) hx hb ht iw_R hown hK hP 0 rfl rfl 14 (by decide) (ht _ wd_691) (fun _ h9 => h9) rfl d_R_street_151 ?_
                refine lv_aload_n hx hb d_R_street_154 rfl (lv_at hl 1 rfl) ?_
                refine va_get (ci := 8) (v := .int (s_57.1 3)) (C := R_R) (T := F_R) (N := 32) hx hb ht iw_R hown hK hP 0 rfl rfl 3 (by decide) (ht _ wd_680) (fun _ h9 => h9) rfl d_R_street_155 ?_
                refine lv_iconst (v := ((-1) : Int32)) hx hb d_R_street_158 (by decide) ?_
                obtain ⟨hi63, hf⟩ := tg_of hf
                refine va_iast (f := s_57.2.1 10) hx hb hK hP (cwR_D hd) hS 11 10 rfl rfl hi63 d_R_street_159 (fun H locs hP _ hS => ?_)
                replace hP : va_P D clS (cwR ad ta (tI (tI (tI (tI (tI (tI (tF s_57 0 (0 : Int32)) 3 ((s_57.1 3).toNatClampNeg) p0) 4 ((s_57.1 3).toNatClampNeg) p1) 5 ((s_57.1 3).toNatClampNeg) p2) 6 ((s_57.1 3).toNatClampNeg) p3) 7 ((s_57.1 3).toNatClampNeg) p4) 10 ((s_57.1 3).toNatClampNeg) ((-1) : Int32))) H := hP
                refine lv_aload_n hx hb d_R_street_160 rfl (lv_at hl 1 rfl) ?_
                refine lv_dup hx hb d_R_street_161 rfl ?_
                refine va_get (ci := 8) (v := .int (s_57.1 3)) (C := R_R) (T := F_R) (N := 32) hx hb ht iw_R hown hK hP 0 rfl rfl 3 (by decide) (ht _ wd_680) (fun _ h9 => h9) rfl d_R_street_162 ?_
                refine lv_iconst (v := (1 : Int32)) hx hb d_R_street_165 (by decide) ?_
                refine lv_iadd hx hb d_R_street_166 ?_
                refine va_put (ci := 8) (v := .int ((s_57.1 3) + (1 : Int32))) (ty := .int) (C := R_R) (T := F_R) (N := 32) hx hb ht iw_R ft_R to_R nm_R hown hK hP (cwR_D hd) hS 0 rfl rfl 3 (by decide) (ht _ wd_680) (fun _ h9 => h9) rfl (by decide +kernel) rfl rfl (Nat.le_of_ble_eq_true rfl) d_R_street_167 (fun H locs hP _ hS => ?_)
                replace hP : va_P D clS (cwR ad ta (tF (tI (tI (tI (tI (tI (tI (tF s_57 0 (0 : Int32)) 3 ((s_57.1 3).toNatClampNeg) p0) 4 ((s_57.1 3).toNatClampNeg) p1) 5 ((s_57.1 3).toNatClampNeg) p2) 6 ((s_57.1 3).toNatClampNeg) p3) 7 ((s_57.1 3).toNatClampNeg) p4) 10 ((s_57.1 3).toNatClampNeg) ((-1) : Int32)) 3 ((s_57.1 3) + (1 : Int32)))) H := hP
                refine lv_aload_n hx hb d_R_street_170 rfl (lv_at hl 1 rfl) ?_
                refine va_get (ci := 8) (v := .int ((s_57.1 3) + (1 : Int32))) (C := R_R) (T := F_R) (N := 32) hx hb ht iw_R hown hK hP 0 rfl rfl 3 (by decide) (ht _ wd_680) (fun _ h9 => h9) rfl d_R_street_171 ?_
                refine lv_iconst (v := (1 : Int32)) hx hb d_R_street_174 (by decide) ?_
                refine lv_isub hx hb d_R_street_175 ?_
                obtain ⟨rfl, rfl⟩ := tp_of hf
                exact W.iret (v := (((s_57.1 3) + (1 : Int32)) - (1 : Int32))) hx hb hr (fun t ht hW => ⟨rfl, by rw [ht]; exact hP, hS.F ht⟩) hS.2.2 d_R_street_176
              · replace hf := ti_neg hc hf
                refine lv_iconst (v := (0 : Int32)) hx hb d_R_street_96 (by decide) ?_
                obtain ⟨rfl, rfl⟩ := tp_of hf
                exact W.iret (v := (0 : Int32)) hx hb hr (fun t ht hW => ⟨rfl, by rw [ht]; exact hP, hS.F ht⟩) hS.2.2 d_R_street_97
            · replace hf := ti_pos hc hf
              refine lv_iconst (v := (2 : Int32)) hx hb d_R_street_81 (by decide) ?_
              refine lv_goto (tgt := 86) hx hb d_R_street_82 (by decide) ?_
              refine va_put (ci := 8) (v := .int (2 : Int32)) (ty := .int) (C := R_R) (T := F_R) (N := 32) hx hb ht iw_R ft_R to_R nm_R hown hK hP (cwR_D hd) hS 0 rfl rfl 0 (by decide) (ht _ wd_677) (fun _ h9 => h9) rfl (by decide +kernel) rfl rfl (Nat.le_of_ble_eq_true rfl) d_R_street_86 (fun H locs hP _ hS => ?_)
              replace hP : va_P D clS (cwR ad ta (tF s_57 0 (2 : Int32))) H := hP
              refine lv_aload_n hx hb d_R_street_89 rfl (lv_at hl 1 rfl) ?_
              refine va_get (ci := 8) (v := .int (2 : Int32)) (C := R_R) (T := F_R) (N := 32) hx hb ht iw_R hown hK hP 0 rfl rfl 0 (by decide) (ht _ wd_677) (fun _ h9 => h9) rfl d_R_street_90 ?_
              refine lv_if_le (tgt := 98) hx hb d_R_street_93 (by decide) (fun hc => ?_) (fun hc => ?_)
              · replace hf := ti_pos hc hf
                refine lv_aload_n hx hb d_R_street_98 rfl (lv_at hl 1 rfl) ?_
                refine va_get (ci := 8) (v := .ref (ad 4)) (C := R_R) (T := F_R) (N := 32) hx hb ht iw_R hown hK hP 0 rfl rfl 7 (by decide) (ht _ wd_684) (fun _ h9 => h9) rfl d_R_street_99 ?_
                refine lv_aload_n hx hb d_R_street_102 rfl (lv_at hl 1 rfl) ?_
                refine va_get (ci := 8) (v := .int (s_57.1 3)) (C := R_R) (T := F_R) (N := 32) hx hb ht iw_R hown hK hP 0 rfl rfl 3 (by decide) (ht _ wd_680) (fun _ h9 => h9) rfl d_R_street_103 ?_
                refine lv_iload_n hx hb d_R_street_106 rfl (lv_at hl 2 rfl) ?_
                obtain ⟨hi64, hf⟩ := tg_of hf
                refine va_iast (f := s_57.2.1 3) hx hb hK hP (cwR_D hd) hS 4 3 rfl rfl hi64 d_R_street_107 (fun H locs hP _ hS => ?_)
                replace hP : va_P D clS (cwR ad ta (tI (tF s_57 0 (2 : Int32)) 3 ((s_57.1 3).toNatClampNeg) p0)) H := hP
                refine lv_aload_n hx hb d_R_street_108 rfl (lv_at hl 1 rfl) ?_
                refine va_get (ci := 8) (v := .ref (ad 5)) (C := R_R) (T := F_R) (N := 32) hx hb ht iw_R hown hK hP 0 rfl rfl 8 (by decide) (ht _ wd_685) (fun _ h9 => h9) rfl d_R_street_109 ?_
                refine lv_aload_n hx hb d_R_street_112 rfl (lv_at hl 1 rfl) ?_
                refine va_get (ci := 8) (v := .int (s_57.1 3)) (C := R_R) (T := F_R) (N := 32) hx hb ht iw_R hown hK hP 0 rfl rfl 3 (by decide) (ht _ wd_680) (fun _ h9 => h9) rfl d_R_street_113 ?_
                refine lv_iload_n hx hb d_R_street_116 rfl (lv_at hl 3 rfl) ?_
                obtain ⟨hi65, hf⟩ := tg_of hf
                refine va_iast (f := s_57.2.1 4) hx hb hK hP (cwR_D hd) hS 5 4 rfl rfl hi65 d_R_street_117 (fun H locs hP _ hS => ?_)
                replace hP : va_P D clS (cwR ad ta (tI (tI (tF s_57 0 (2 : Int32)) 3 ((s_57.1 3).toNatClampNeg) p0) 4 ((s_57.1 3).toNatClampNeg) p1)) H := hP
                refine lv_aload_n hx hb d_R_street_118 rfl (lv_at hl 1 rfl) ?_
                refine va_get (ci := 8) (v := .ref (ad 6)) (C := R_R) (T := F_R) (N := 32) hx hb ht iw_R hown hK hP 0 rfl rfl 9 (by decide) (ht _ wd_686) (fun _ h9 => h9) rfl d_R_street_119 ?_
                refine lv_aload_n hx hb d_R_street_122 rfl (lv_at hl 1 rfl) ?_
                refine va_get (ci := 8) (v := .int (s_57.1 3)) (C := R_R) (T := F_R) (N := 32) hx hb ht iw_R hown hK hP 0 rfl rfl 3 (by decide) (ht _ wd_680) (fun _ h9 => h9) rfl d_R_street_123 ?_
                refine lv_iload_n hx hb d_R_street_126 rfl (lv_at hl 4 rfl) ?_
                obtain ⟨hi66, hf⟩ := tg_of hf
                refine va_iast (f := s_57.2.1 5) hx hb hK hP (cwR_D hd) hS 6 5 rfl rfl hi66 d_R_street_127 (fun H locs hP _ hS => ?_)
                replace hP : va_P D clS (cwR ad ta (tI (tI (tI (tF s_57 0 (2 : Int32)) 3 ((s_57.1 3).toNatClampNeg) p0) 4 ((s_57.1 3).toNatClampNeg) p1) 5 ((s_57.1 3).toNatClampNeg) p2)) H := hP
                refine lv_aload_n hx hb d_R_street_128 rfl (lv_at hl 1 rfl) ?_
                refine va_get (ci := 8) (v := .ref (ad 7)) (C := R_R) (T := F_R) (N := 32) hx hb ht iw_R hown hK hP 0 rfl rfl 10 (by decide) (ht _ wd_687) (fun _ h9 => h9) rfl d_R_street_129 ?_
                refine lv_aload_n hx hb d_R_street_132 rfl (lv_at hl 1 rfl) ?_
                refine va_get (ci := 8) (v := .int (s_57.1 3)) (C := R_R) (T := F_R) (N := 32) hx hb ht iw_R hown hK hP 0 rfl rfl 3 (by decide) (ht _ wd_680) (fun _ h9 => h9) rfl d_R_street_133 ?_
                refine lv_iload hx hb d_R_street_136 (lv_at hl 5 rfl) ?_
                obtain ⟨hi67, hf⟩ := tg_of hf
                refine va_iast (f := s_57.2.1 6) hx hb hK hP (cwR_D hd) hS 7 6 rfl rfl hi67 d_R_street_138 (fun H locs hP _ hS => ?_)
                replace hP : va_P D clS (cwR ad ta (tI (tI (tI (tI (tF s_57 0 (2 : Int32)) 3 ((s_57.1 3).toNatClampNeg) p0) 4 ((s_57.1 3).toNatClampNeg) p1) 5 ((s_57.1 3).toNatClampNeg) p2) 6 ((s_57.1 3).toNatClampNeg) p3)) H := hP
                refine lv_aload_n hx hb d_R_street_139 rfl (lv_at hl 1 rfl) ?_
                refine va_get (ci := 8) (v := .ref (ad 8)) (C := R_R) (T := F_R) (N := 32) hx hb ht iw_R hown hK hP 0 rfl rfl 11 (by decide) (ht _ wd_688) (fun _ h9 => h9) rfl d_R_street_140 ?_
                refine lv_aload_n hx hb d_R_street_143 rfl (lv_at hl 1 rfl) ?_
                refine va_get (ci := 8) (v := .int (s_57.1 3)) (C := R_R) (T := F_R) (N := 32) hx hb ht iw_R hown hK hP 0 rfl rfl 3 (by decide) (ht _ wd_680) (fun _ h9 => h9) rfl d_R_street_144 ?_
                refine lv_iload hx hb d_R_street_147 (lv_at hl 6 rfl) ?_
                obtain ⟨hi68, hf⟩ := tg_of hf
                refine va_iast (f := s_57.2.1 7) hx hb hK hP (cwR_D hd) hS 8 7 rfl rfl hi68 d_R_street_149 (fun H locs hP _ hS => ?_)
                replace hP : va_P D clS (cwR ad ta (tI (tI (tI (tI (tI (tF s_57 0 (2 : Int32)) 3 ((s_57.1 3).toNatClampNeg) p0) 4 ((s_57.1 3).toNatClampNeg) p1) 5 ((s_57.1 3).toNatClampNeg) p2) 6 ((s_57.1 3).toNatClampNeg) p3) 7 ((s_57.1 3).toNatClampNeg) p4)) H := hP
                refine lv_aload_n hx hb d_R_street_150 rfl (lv_at hl 1 rfl) ?_
                refine va_get (ci := 8) (v := .ref (ad 11)) (C := R_R) (T := F_R) (N := 32) hx hb ht iw_R hown hK hP 0 rfl rfl 14 (by decide) (ht _ wd_691) (fun _ h9 => h9) rfl d_R_street_151 ?_
                refine lv_aload_n hx hb d_R_street_154 rfl (lv_at hl 1 rfl) ?_
                refine va_get (ci := 8) (v := .int (s_57.1 3)) (C := R_R) (T := F_R) (N := 32) hx hb ht iw_R hown hK hP 0 rfl rfl 3 (by decide) (ht _ wd_680) (fun _ h9 => h9) rfl d_R_street_155 ?_
                refine lv_iconst (v := ((-1) : Int32)) hx hb d_R_street_158 (by decide) ?_
                obtain ⟨hi69, hf⟩ := tg_of hf
                refine va_iast (f := s_57.2.1 10) hx hb hK hP (cwR_D hd) hS 11 10 rfl rfl hi69 d_R_street_159 (fun H locs hP _ hS => ?_)
                replace hP : va_P D clS (cwR ad ta (tI (tI (tI (tI (tI (tI (tF s_57 0 (2 : Int32)) 3 ((s_57.1 3).toNatClampNeg) p0) 4 ((s_57.1 3).toNatClampNeg) p1) 5 ((s_57.1 3).toNatClampNeg) p2) 6 ((s_57.1 3).toNatClampNeg) p3) 7 ((s_57.1 3).toNatClampNeg) p4) 10 ((s_57.1 3).toNatClampNeg) ((-1) : Int32))) H := hP
                refine lv_aload_n hx hb d_R_street_160 rfl (lv_at hl 1 rfl) ?_
                refine lv_dup hx hb d_R_street_161 rfl ?_
                refine va_get (ci := 8) (v := .int (s_57.1 3)) (C := R_R) (T := F_R) (N := 32) hx hb ht iw_R hown hK hP 0 rfl rfl 3 (by decide) (ht _ wd_680) (fun _ h9 => h9) rfl d_R_street_162 ?_
                refine lv_iconst (v := (1 : Int32)) hx hb d_R_street_165 (by decide) ?_
                refine lv_iadd hx hb d_R_street_166 ?_
                refine va_put (ci := 8) (v := .int ((s_57.1 3) + (1 : Int32))) (ty := .int) (C := R_R) (T := F_R) (N := 32) hx hb ht iw_R ft_R to_R nm_R hown hK hP (cwR_D hd) hS 0 rfl rfl 3 (by decide) (ht _ wd_680) (fun _ h9 => h9) rfl (by decide +kernel) rfl rfl (Nat.le_of_ble_eq_true rfl) d_R_street_167 (fun H locs hP _ hS => ?_)
                replace hP : va_P D clS (cwR ad ta (tF (tI (tI (tI (tI (tI (tI (tF s_57 0 (2 : Int32)) 3 ((s_57.1 3).toNatClampNeg) p0) 4 ((s_57.1 3).toNatClampNeg) p1) 5 ((s_57.1 3).toNatClampNeg) p2) 6 ((s_57.1 3).toNatClampNeg) p3) 7 ((s_57.1 3).toNatClampNeg) p4) 10 ((s_57.1 3).toNatClampNeg) ((-1) : Int32)) 3 ((s_57.1 3) + (1 : Int32)))) H := hP
                refine lv_aload_n hx hb d_R_street_170 rfl (lv_at hl 1 rfl) ?_
                refine va_get (ci := 8) (v := .int ((s_57.1 3) + (1 : Int32))) (C := R_R) (T := F_R) (N := 32) hx hb ht iw_R hown hK hP 0 rfl rfl 3 (by decide) (ht _ wd_680) (fun _ h9 => h9) rfl d_R_street_171 ?_
                refine lv_iconst (v := (1 : Int32)) hx hb d_R_street_174 (by decide) ?_
                refine lv_isub hx hb d_R_street_175 ?_
                obtain ⟨rfl, rfl⟩ := tp_of hf
                exact W.iret (v := (((s_57.1 3) + (1 : Int32)) - (1 : Int32))) hx hb hr (fun t ht hW => ⟨rfl, by rw [ht]; exact hP, hS.F ht⟩) hS.2.2 d_R_street_176
              · replace hf := ti_neg hc hf
                refine lv_iconst (v := (0 : Int32)) hx hb d_R_street_96 (by decide) ?_
                obtain ⟨rfl, rfl⟩ := tp_of hf
                exact W.iret (v := (0 : Int32)) hx hb hr (fun t ht hW => ⟨rfl, by rw [ht]; exact hP, hS.F ht⟩) hS.2.2 d_R_street_97
          · replace hf := ti_pos hc hf
            refine lv_iconst (v := (1 : Int32)) hx hb d_R_street_68 (by decide) ?_
            refine lv_goto (tgt := 86) hx hb d_R_street_69 (by decide) ?_
            refine va_put (ci := 8) (v := .int (1 : Int32)) (ty := .int) (C := R_R) (T := F_R) (N := 32) hx hb ht iw_R ft_R to_R nm_R hown hK hP (cwR_D hd) hS 0 rfl rfl 0 (by decide) (ht _ wd_677) (fun _ h9 => h9) rfl (by decide +kernel) rfl rfl (Nat.le_of_ble_eq_true rfl) d_R_street_86 (fun H locs hP _ hS => ?_)
            replace hP : va_P D clS (cwR ad ta (tF s_57 0 (1 : Int32))) H := hP
            refine lv_aload_n hx hb d_R_street_89 rfl (lv_at hl 1 rfl) ?_
            refine va_get (ci := 8) (v := .int (1 : Int32)) (C := R_R) (T := F_R) (N := 32) hx hb ht iw_R hown hK hP 0 rfl rfl 0 (by decide) (ht _ wd_677) (fun _ h9 => h9) rfl d_R_street_90 ?_
            refine lv_if_le (tgt := 98) hx hb d_R_street_93 (by decide) (fun hc => ?_) (fun hc => ?_)
            · replace hf := ti_pos hc hf
              refine lv_aload_n hx hb d_R_street_98 rfl (lv_at hl 1 rfl) ?_
              refine va_get (ci := 8) (v := .ref (ad 4)) (C := R_R) (T := F_R) (N := 32) hx hb ht iw_R hown hK hP 0 rfl rfl 7 (by decide) (ht _ wd_684) (fun _ h9 => h9) rfl d_R_street_99 ?_
              refine lv_aload_n hx hb d_R_street_102 rfl (lv_at hl 1 rfl) ?_
              refine va_get (ci := 8) (v := .int (s_57.1 3)) (C := R_R) (T := F_R) (N := 32) hx hb ht iw_R hown hK hP 0 rfl rfl 3 (by decide) (ht _ wd_680) (fun _ h9 => h9) rfl d_R_street_103 ?_
              refine lv_iload_n hx hb d_R_street_106 rfl (lv_at hl 2 rfl) ?_
              obtain ⟨hi70, hf⟩ := tg_of hf
              refine va_iast (f := s_57.2.1 3) hx hb hK hP (cwR_D hd) hS 4 3 rfl rfl hi70 d_R_street_107 (fun H locs hP _ hS => ?_)
              replace hP : va_P D clS (cwR ad ta (tI (tF s_57 0 (1 : Int32)) 3 ((s_57.1 3).toNatClampNeg) p0)) H := hP
              refine lv_aload_n hx hb d_R_street_108 rfl (lv_at hl 1 rfl) ?_
              refine va_get (ci := 8) (v := .ref (ad 5)) (C := R_R) (T := F_R) (N := 32) hx hb ht iw_R hown hK hP 0 rfl rfl 8 (by decide) (ht _ wd_685) (fun _ h9 => h9) rfl d_R_street_109 ?_
              refine lv_aload_n hx hb d_R_street_112 rfl (lv_at hl 1 rfl) ?_
              refine va_get (ci := 8) (v := .int (s_57.1 3)) (C := R_R) (T := F_R) (N := 32) hx hb ht iw_R hown hK hP 0 rfl rfl 3 (by decide) (ht _ wd_680) (fun _ h9 => h9) rfl d_R_street_113 ?_
              refine lv_iload_n hx hb d_R_street_116 rfl (lv_at hl 3 rfl) ?_
              obtain ⟨hi71, hf⟩ := tg_of hf
              refine va_iast (f := s_57.2.1 4) hx hb hK hP (cwR_D hd) hS 5 4 rfl rfl hi71 d_R_street_117 (fun H locs hP _ hS => ?_)
              replace hP : va_P D clS (cwR ad ta (tI (tI (tF s_57 0 (1 : Int32)) 3 ((s_57.1 3).toNatClampNeg) p0) 4 ((s_57.1 3).toNatClampNeg) p1)) H := hP
              refine lv_aload_n hx hb d_R_street_118 rfl (lv_at hl 1 rfl) ?_
              refine va_get (ci := 8) (v := .ref (ad 6)) (C := R_R) (T := F_R) (N := 32) hx hb ht iw_R hown hK hP 0 rfl rfl 9 (by decide) (ht _ wd_686) (fun _ h9 => h9) rfl d_R_street_119 ?_
              refine lv_aload_n hx hb d_R_street_122 rfl (lv_at hl 1 rfl) ?_
              refine va_get (ci := 8) (v := .int (s_57.1 3)) (C := R_R) (T := F_R) (N := 32) hx hb ht iw_R hown hK hP 0 rfl rfl 3 (by decide) (ht _ wd_680) (fun _ h9 => h9) rfl d_R_street_123 ?_
              refine lv_iload_n hx hb d_R_street_126 rfl (lv_at hl 4 rfl) ?_
              obtain ⟨hi72, hf⟩ := tg_of hf
              refine va_iast (f := s_57.2.1 5) hx hb hK hP (cwR_D hd) hS 6 5 rfl rfl hi72 d_R_street_127 (fun H locs hP _ hS => ?_)
              replace hP : va_P D clS (cwR ad ta (tI (tI (tI (tF s_57 0 (1 : Int32)) 3 ((s_57.1 3).toNatClampNeg) p0) 4 ((s_57.1 3).toNatClampNeg) p1) 5 ((s_57.1 3).toNatClampNeg) p2)) H := hP
              refine lv_aload_n hx hb d_R_street_128 rfl (lv_at hl 1 rfl) ?_
              refine va_get (ci := 8) (v := .ref (ad 7)) (C := R_R) (T := F_R) (N := 32) hx hb ht iw_R hown hK hP 0 rfl rfl 10 (by decide) (ht _ wd_687) (fun _ h9 => h9) rfl d_R_street_129 ?_
              refine lv_aload_n hx hb d_R_street_132 rfl (lv_at hl 1 rfl) ?_
              refine va_get (ci := 8) (v := .int (s_57.1 3)) (C := R_R) (T := F_R) (N := 32) hx hb ht iw_R hown hK hP 0 rfl rfl 3 (by decide) (ht _ wd_680) (fun _ h9 => h9) rfl d_R_street_133 ?_
              refine lv_iload hx hb d_R_street_136 (lv_at hl 5 rfl) ?_
              obtain ⟨hi73, hf⟩ := tg_of hf
              refine va_iast (f := s_57.2.1 6) hx hb hK hP (cwR_D hd) hS 7 6 rfl rfl hi73 d_R_street_138 (fun H locs hP _ hS => ?_)
              replace hP : va_P D clS (cwR ad ta (tI (tI (tI (tI (tF s_57 0 (1 : Int32)) 3 ((s_57.1 3).toNatClampNeg) p0) 4 ((s_57.1 3).toNatClampNeg) p1) 5 ((s_57.1 3).toNatClampNeg) p2) 6 ((s_57.1 3).toNatClampNeg) p3)) H := hP
              refine lv_aload_n hx hb d_R_street_139 rfl (lv_at hl 1 rfl) ?_
              refine va_get (ci := 8) (v := .ref (ad 8)) (C := R_R) (T := F_R) (N := 32) hx hb ht iw_R hown hK hP 0 rfl rfl 11 (by decide) (ht _ wd_688) (fun _ h9 => h9) rfl d_R_street_140 ?_
              refine lv_aload_n hx hb d_R_street_143 rfl (lv_at hl 1 rfl) ?_
              refine va_get (ci := 8) (v := .int (s_57.1 3)) (C := R_R) (T := F_R) (N := 32) hx hb ht iw_R hown hK hP 0 rfl rfl 3 (by decide) (ht _ wd_680) (fun _ h9 => h9) rfl d_R_street_144 ?_
              refine lv_iload hx hb d_R_street_147 (lv_at hl 6 rfl) ?_
              obtain ⟨hi74, hf⟩ := tg_of hf
              refine va_iast (f := s_57.2.1 7) hx hb hK hP (cwR_D hd) hS 8 7 rfl rfl hi74 d_R_street_149 (fun H locs hP _ hS => ?_)
              replace hP : va_P D clS (cwR ad ta (tI (tI (tI (tI (tI (tF s_57 0 (1 : Int32)) 3 ((s_57.1 3).toNatClampNeg) p0) 4 ((s_57.1 3).toNatClampNeg) p1) 5 ((s_57.1 3).toNatClampNeg) p2) 6 ((s_57.1 3).toNatClampNeg) p3) 7 ((s_57.1 3).toNatClampNeg) p4)) H := hP
              refine lv_aload_n hx hb d_R_street_150 rfl (lv_at hl 1 rfl) ?_
              refine va_get (ci := 8) (v := .ref (ad 11)) (C := R_R) (T := F_R) (N := 32) hx hb ht iw_R hown hK hP 0 rfl rfl 14 (by decide) (ht _ wd_691) (fun _ h9 => h9) rfl d_R_street_151 ?_
              refine lv_aload_n hx hb d_R_street_154 rfl (lv_at hl 1 rfl) ?_
              refine va_get (ci := 8) (v := .int (s_57.1 3)) (C := R_R) (T := F_R) (N := 32) hx hb ht iw_R hown hK hP 0 rfl rfl 3 (by decide) (ht _ wd_680) (fun _ h9 => h9) rfl d_R_street_155 ?_
              refine lv_iconst (v := ((-1) : Int32)) hx hb d_R_street_158 (by decide) ?_
              obtain ⟨hi75, hf⟩ := tg_of hf
              refine va_iast (f := s_57.2.1 10) hx hb hK hP (cwR_D hd) hS 11 10 rfl rfl hi75 d_R_street_159 (fun H locs hP _ hS => ?_)
              replace hP : va_P D clS (cwR ad ta (tI (tI (tI (tI (tI (tI (tF s_57 0 (1 : Int32)) 3 ((s_57.1 3).toNatClampNeg) p0) 4 ((s_57.1 3).toNatClampNeg) p1) 5 ((s_57.1 3).toNatClampNeg) p2) 6 ((s_57.1 3).toNatClampNeg) p3) 7 ((s_57.1 3).toNatClampNeg) p4) 10 ((s_57.1 3).toNatClampNeg) ((-1) : Int32))) H := hP
              refine lv_aload_n hx hb d_R_street_160 rfl (lv_at hl 1 rfl) ?_
              refine lv_dup hx hb d_R_street_161 rfl ?_
              refine va_get (ci := 8) (v := .int (s_57.1 3)) (C := R_R) (T := F_R) (N := 32) hx hb ht iw_R hown hK hP 0 rfl rfl 3 (by decide) (ht _ wd_680) (fun _ h9 => h9) rfl d_R_street_162 ?_
              refine lv_iconst (v := (1 : Int32)) hx hb d_R_street_165 (by decide) ?_
              refine lv_iadd hx hb d_R_street_166 ?_
              refine va_put (ci := 8) (v := .int ((s_57.1 3) + (1 : Int32))) (ty := .int) (C := R_R) (T := F_R) (N := 32) hx hb ht iw_R ft_R to_R nm_R hown hK hP (cwR_D hd) hS 0 rfl rfl 3 (by decide) (ht _ wd_680) (fun _ h9 => h9) rfl (by decide +kernel) rfl rfl (Nat.le_of_ble_eq_true rfl) d_R_street_167 (fun H locs hP _ hS => ?_)
              replace hP : va_P D clS (cwR ad ta (tF (tI (tI (tI (tI (tI (tI (tF s_57 0 (1 : Int32)) 3 ((s_57.1 3).toNatClampNeg) p0) 4 ((s_57.1 3).toNatClampNeg) p1) 5 ((s_57.1 3).toNatClampNeg) p2) 6 ((s_57.1 3).toNatClampNeg) p3) 7 ((s_57.1 3).toNatClampNeg) p4) 10 ((s_57.1 3).toNatClampNeg) ((-1) : Int32)) 3 ((s_57.1 3) + (1 : Int32)))) H := hP
              refine lv_aload_n hx hb d_R_street_170 rfl (lv_at hl 1 rfl) ?_
              refine va_get (ci := 8) (v := .int ((s_57.1 3) + (1 : Int32))) (C := R_R) (T := F_R) (N := 32) hx hb ht iw_R hown hK hP 0 rfl rfl 3 (by decide) (ht _ wd_680) (fun _ h9 => h9) rfl d_R_street_171 ?_
              refine lv_iconst (v := (1 : Int32)) hx hb d_R_street_174 (by decide) ?_
              refine lv_isub hx hb d_R_street_175 ?_
              obtain ⟨rfl, rfl⟩ := tp_of hf
              exact W.iret (v := (((s_57.1 3) + (1 : Int32)) - (1 : Int32))) hx hb hr (fun t ht hW => ⟨rfl, by rw [ht]; exact hP, hS.F ht⟩) hS.2.2 d_R_street_176
            · replace hf := ti_neg hc hf
              refine lv_iconst (v := (0 : Int32)) hx hb d_R_street_96 (by decide) ?_
              obtain ⟨rfl, rfl⟩ := tp_of hf
              exact W.iret (v := (0 : Int32)) hx hb hr (fun t ht hW => ⟨rfl, by rw [ht]; exact hP, hS.F ht⟩) hS.2.2 d_R_street_97
        · replace hf := ti_neg hc hf
          refine lv_iload hx hb d_R_street_32 (lv_at hl 4 rfl) ?_
          refine lv_iconst (v := (0 : Int32)) hx hb d_R_street_34 (by decide) ?_
          refine lv_sipush (v := (1000 : Int32)) hx hb d_R_street_35 (by decide) ?_
          obtain ⟨r_76, s_76, hq76, hf⟩ := tb2_of hf
          refine tr_calli (va_runS (As := [.int p3, .int (0 : Int32), .int (1000 : Int32)]) (rest := []) ⟨hx, hb, hml, hown, ht⟩ (mc_R_isIn l hd hq76) ⟨(tw_cb (n := 3) ht wc_R_isIn wd_43 wd_790 ⟨rfl, rfl⟩ (by decide +kernel) ⟨(Nat.le_of_ble_eq_true rfl), (Nat.le_of_ble_eq_true rfl)⟩), ht _ wd_791⟩ ⟨tP_blind, fun U hU hW => ⟨rfl, by rw [hU]; exact hP, va_K.moved hW.alike hK, tW_warm hW hN⟩⟩ rfl rfl hl.1 rfl (lv_room (Nat.le_of_ble_eq_true rfl)) d_R_street_38 ⟨Nat.zero_le _, Nat.zero_le _⟩) hS (fun _ h => h.elim) (fun _ h => h.elim) (fun H locs hP hS => ?_)
          refine lv_if_eq (tgt := 59) hx hb d_R_street_41 (by decide) (fun hc => ?_) (fun hc => ?_)
          · replace hf := ti_pos hc hf
            refine lv_iconst (v := (0 : Int32)) hx hb d_R_street_59 (by decide) ?_
            refine lv_istore (lv' := [(6, .int (0 : Int32)), (0, .ref (ad 0)), (1, .int p0), (2, .int p1), (3, .int p2), (4, .int p3), (5, .int p4)]) hx hb d_R_street_60 hl (by decide) rfl (fun ls hl => ?_)
            refine lv_aload_n hx hb d_R_street_62 rfl (lv_at hl 1 rfl) ?_
            refine lv_iload hx hb d_R_street_63 (lv_at hl 0 rfl) ?_
            refine lv_if_ne (tgt := 72) hx hb d_R_street_65 (by decide) (fun hc => ?_) (fun hc => ?_)
            · replace hf := ti_neg hc hf
              refine lv_aload_n hx hb d_R_street_72 rfl (lv_at hl 1 rfl) ?_
              refine va_get (ci := 8) (v := .int (s_76.1 3)) (C := R_R) (T := F_R) (N := 32) hx hb ht iw_R hown hK hP 0 rfl rfl 3 (by decide) (ht _ wd_680) (fun _ h9 => h9) rfl d_R_street_73 ?_
              refine lv_bipush (v := (40 : Int32)) hx hb d_R_street_76 (by decide) ?_
              refine lv_icmp_ne (tgt := 85) hx hb d_R_street_78 (by decide) (fun hc => ?_) (fun hc => ?_)
              · replace hf := ti_neg hc hf
                refine lv_iconst (v := (0 : Int32)) hx hb d_R_street_85 (by decide) ?_
                refine va_put (ci := 8) (v := .int (0 : Int32)) (ty := .int) (C := R_R) (T := F_R) (N := 32) hx hb ht iw_R ft_R to_R nm_R hown hK hP (cwR_D hd) hS 0 rfl rfl 0 (by decide) (ht _ wd_677) (fun _ h9 => h9) rfl (by decide +kernel) rfl rfl (Nat.le_of_ble_eq_true rfl) d_R_street_86 (fun H locs hP _ hS => ?_)
                replace hP : va_P D clS (cwR ad ta (tF s_76 0 (0 : Int32))) H := hP
                refine lv_aload_n hx hb d_R_street_89 rfl (lv_at hl 1 rfl) ?_
                refine va_get (ci := 8) (v := .int (0 : Int32)) (C := R_R) (T := F_R) (N := 32) hx hb ht iw_R hown hK hP 0 rfl rfl 0 (by decide) (ht _ wd_677) (fun _ h9 => h9) rfl d_R_street_90 ?_
                refine lv_if_le (tgt := 98) hx hb d_R_street_93 (by decide) (fun hc => ?_) (fun hc => ?_)
                · replace hf := ti_pos hc hf
                  refine lv_aload_n hx hb d_R_street_98 rfl (lv_at hl 1 rfl) ?_
                  refine va_get (ci := 8) (v := .ref (ad 4)) (C := R_R) (T := F_R) (N := 32) hx hb ht iw_R hown hK hP 0 rfl rfl 7 (by decide) (ht _ wd_684) (fun _ h9 => h9) rfl d_R_street_99 ?_
                  refine lv_aload_n hx hb d_R_street_102 rfl (lv_at hl 1 rfl) ?_
                  refine va_get (ci := 8) (v := .int (s_76.1 3)) (C := R_R) (T := F_R) (N := 32) hx hb ht iw_R hown hK hP 0 rfl rfl 3 (by decide) (ht _ wd_680) (fun _ h9 => h9) rfl d_R_street_103 ?_
                  refine lv_iload_n hx hb d_R_street_106 rfl (lv_at hl 2 rfl) ?_
                  obtain ⟨hi77, hf⟩ := tg_of hf
                  refine va_iast (f := s_76.2.1 3) hx hb hK hP (cwR_D hd) hS 4 3 rfl rfl hi77 d_R_street_107 (fun H locs hP _ hS => ?_)
                  replace hP : va_P D clS (cwR ad ta (tI (tF s_76 0 (0 : Int32)) 3 ((s_76.1 3).toNatClampNeg) p0)) H := hP
                  refine lv_aload_n hx hb d_R_street_108 rfl (lv_at hl 1 rfl) ?_
                  refine va_get (ci := 8) (v := .ref (ad 5)) (C := R_R) (T := F_R) (N := 32) hx hb ht iw_R hown hK hP 0 rfl rfl 8 (by decide) (ht _ wd_685) (fun _ h9 => h9) rfl d_R_street_109 ?_
                  refine lv_aload_n hx hb d_R_street_112 rfl (lv_at hl 1 rfl) ?_
                  refine va_get (ci := 8) (v := .int (s_76.1 3)) (C := R_R) (T := F_R) (N := 32) hx hb ht iw_R hown hK hP 0 rfl rfl 3 (by decide) (ht _ wd_680) (fun _ h9 => h9) rfl d_R_street_113 ?_
                  refine lv_iload_n hx hb d_R_street_116 rfl (lv_at hl 3 rfl) ?_
                  obtain ⟨hi78, hf⟩ := tg_of hf
                  refine va_iast (f := s_76.2.1 4) hx hb hK hP (cwR_D hd) hS 5 4 rfl rfl hi78 d_R_street_117 (fun H locs hP _ hS => ?_)
                  replace hP : va_P D clS (cwR ad ta (tI (tI (tF s_76 0 (0 : Int32)) 3 ((s_76.1 3).toNatClampNeg) p0) 4 ((s_76.1 3).toNatClampNeg) p1)) H := hP
                  refine lv_aload_n hx hb d_R_street_118 rfl (lv_at hl 1 rfl) ?_
                  refine va_get (ci := 8) (v := .ref (ad 6)) (C := R_R) (T := F_R) (N := 32) hx hb ht iw_R hown hK hP 0 rfl rfl 9 (by decide) (ht _ wd_686) (fun _ h9 => h9) rfl d_R_street_119 ?_
                  refine lv_aload_n hx hb d_R_street_122 rfl (lv_at hl 1 rfl) ?_
                  refine va_get (ci := 8) (v := .int (s_76.1 3)) (C := R_R) (T := F_R) (N := 32) hx hb ht iw_R hown hK hP 0 rfl rfl 3 (by decide) (ht _ wd_680) (fun _ h9 => h9) rfl d_R_street_123 ?_
                  refine lv_iload_n hx hb d_R_street_126 rfl (lv_at hl 4 rfl) ?_
                  obtain ⟨hi79, hf⟩ := tg_of hf
                  refine va_iast (f := s_76.2.1 5) hx hb hK hP (cwR_D hd) hS 6 5 rfl rfl hi79 d_R_street_127 (fun H locs hP _ hS => ?_)
                  replace hP : va_P D clS (cwR ad ta (tI (tI (tI (tF s_76 0 (0 : Int32)) 3 ((s_76.1 3).toNatClampNeg) p0) 4 ((s_76.1 3).toNatClampNeg) p1) 5 ((s_76.1 3).toNatClampNeg) p2)) H := hP
                  refine lv_aload_n hx hb d_R_street_128 rfl (lv_at hl 1 rfl) ?_
                  refine va_get (ci := 8) (v := .ref (ad 7)) (C := R_R) (T := F_R) (N := 32) hx hb ht iw_R hown hK hP 0 rfl rfl 10 (by decide) (ht _ wd_687) (fun _ h9 => h9) rfl d_R_street_129 ?_
                  refine lv_aload_n hx hb d_R_street_132 rfl (lv_at hl 1 rfl) ?_
                  refine va_get (ci := 8) (v := .int (s_76.1 3)) (C := R_R) (T := F_R) (N := 32) hx hb ht iw_R hown hK hP 0 rfl rfl 3 (by decide) (ht _ wd_680) (fun _ h9 => h9) rfl d_R_street_133 ?_
                  refine lv_iload hx hb d_R_street_136 (lv_at hl 5 rfl) ?_
                  obtain ⟨hi80, hf⟩ := tg_of hf
                  refine va_iast (f := s_76.2.1 6) hx hb hK hP (cwR_D hd) hS 7 6 rfl rfl hi80 d_R_street_138 (fun H locs hP _ hS => ?_)
                  replace hP : va_P D clS (cwR ad ta (tI (tI (tI (tI (tF s_76 0 (0 : Int32)) 3 ((s_76.1 3).toNatClampNeg) p0) 4 ((s_76.1 3).toNatClampNeg) p1) 5 ((s_76.1 3).toNatClampNeg) p2) 6 ((s_76.1 3).toNatClampNeg) p3)) H := hP
                  refine lv_aload_n hx hb d_R_street_139 rfl (lv_at hl 1 rfl) ?_
                  refine va_get (ci := 8) (v := .ref (ad 8)) (C := R_R) (T := F_R) (N := 32) hx hb ht iw_R hown hK hP 0 rfl rfl 11 (by decide) (ht _ wd_688) (fun _ h9 => h9) rfl d_R_street_140 ?_
                  refine lv_aload_n hx hb d_R_street_143 rfl (lv_at hl 1 rfl) ?_
                  refine va_get (ci := 8) (v := .int (s_76.1 3)) (C := R_R) (T := F_R) (N := 32) hx hb ht iw_R hown hK hP 0 rfl rfl 3 (by decide) (ht _ wd_680) (fun _ h9 => h9) rfl d_R_street_144 ?_
                  refine lv_iload hx hb d_R_street_147 (lv_at hl 6 rfl) ?_
                  obtain ⟨hi81, hf⟩ := tg_of hf
                  refine va_iast (f := s_76.2.1 7) hx hb hK hP (cwR_D hd) hS 8 7 rfl rfl hi81 d_R_street_149 (fun H locs hP _ hS => ?_)
                  replace hP : va_P D clS (cwR ad ta (tI (tI (tI (tI (tI (tF s_76 0 (0 : Int32)) 3 ((s_76.1 3).toNatClampNeg) p0) 4 ((s_76.1 3).toNatClampNeg) p1) 5 ((s_76.1 3).toNatClampNeg) p2) 6 ((s_76.1 3).toNatClampNeg) p3) 7 ((s_76.1 3).toNatClampNeg) p4)) H := hP
                  refine lv_aload_n hx hb d_R_street_150 rfl (lv_at hl 1 rfl) ?_
                  refine va_get (ci := 8) (v := .ref (ad 11)) (C := R_R) (T := F_R) (N := 32) hx hb ht iw_R hown hK hP 0 rfl rfl 14 (by decide) (ht _ wd_691) (fun _ h9 => h9) rfl d_R_street_151 ?_
                  refine lv_aload_n hx hb d_R_street_154 rfl (lv_at hl 1 rfl) ?_
                  refine va_get (ci := 8) (v := .int (s_76.1 3)) (C := R_R) (T := F_R) (N := 32) hx hb ht iw_R hown hK hP 0 rfl rfl 3 (by decide) (ht _ wd_680) (fun _ h9 => h9) rfl d_R_street_155 ?_
                  refine lv_iconst (v := ((-1) : Int32)) hx hb d_R_street_158 (by decide) ?_
                  obtain ⟨hi82, hf⟩ := tg_of hf
                  refine va_iast (f := s_76.2.1 10) hx hb hK hP (cwR_D hd) hS 11 10 rfl rfl hi82 d_R_street_159 (fun H locs hP _ hS => ?_)
                  replace hP : va_P D clS (cwR ad ta (tI (tI (tI (tI (tI (tI (tF s_76 0 (0 : Int32)) 3 ((s_76.1 3).toNatClampNeg) p0) 4 ((s_76.1 3).toNatClampNeg) p1) 5 ((s_76.1 3).toNatClampNeg) p2) 6 ((s_76.1 3).toNatClampNeg) p3) 7 ((s_76.1 3).toNatClampNeg) p4) 10 ((s_76.1 3).toNatClampNeg) ((-1) : Int32))) H := hP
                  refine lv_aload_n hx hb d_R_street_160 rfl (lv_at hl 1 rfl) ?_
                  refine lv_dup hx hb d_R_street_161 rfl ?_
                  refine va_get (ci := 8) (v := .int (s_76.1 3)) (C := R_R) (T := F_R) (N := 32) hx hb ht iw_R hown hK hP 0 rfl rfl 3 (by decide) (ht _ wd_680) (fun _ h9 => h9) rfl d_R_street_162 ?_
                  refine lv_iconst (v := (1 : Int32)) hx hb d_R_street_165 (by decide) ?_
                  refine lv_iadd hx hb d_R_street_166 ?_
                  refine va_put (ci := 8) (v := .int ((s_76.1 3) + (1 : Int32))) (ty := .int) (C := R_R) (T := F_R) (N := 32) hx hb ht iw_R ft_R to_R nm_R hown hK hP (cwR_D hd) hS 0 rfl rfl 3 (by decide) (ht _ wd_680) (fun _ h9 => h9) rfl (by decide +kernel) rfl rfl (Nat.le_of_ble_eq_true rfl) d_R_street_167 (fun H locs hP _ hS => ?_)
                  replace hP : va_P D clS (cwR ad ta (tF (tI (tI (tI (tI (tI (tI (tF s_76 0 (0 : Int32)) 3 ((s_76.1 3).toNatClampNeg) p0) 4 ((s_76.1 3).toNatClampNeg) p1) 5 ((s_76.1 3).toNatClampNeg) p2) 6 ((s_76.1 3).toNatClampNeg) p3) 7 ((s_76.1 3).toNatClampNeg) p4) 10 ((s_76.1 3).toNatClampNeg) ((-1) : Int32)) 3 ((s_76.1 3) + (1 : Int32)))) H := hP
                  refine lv_aload_n hx hb d_R_street_170 rfl (lv_at hl 1 rfl) ?_
                  refine va_get (ci := 8) (v := .int ((s_76.1 3) + (1 : Int32))) (C := R_R) (T := F_R) (N := 32) hx hb ht iw_R hown hK hP 0 rfl rfl 3 (by decide) (ht _ wd_680) (fun _ h9 => h9) rfl d_R_street_171 ?_
                  refine lv_iconst (v := (1 : Int32)) hx hb d_R_street_174 (by decide) ?_
                  refine lv_isub hx hb d_R_street_175 ?_
                  obtain ⟨rfl, rfl⟩ := tp_of hf
                  exact W.iret (v := (((s_76.1 3) + (1 : Int32)) - (1 : Int32))) hx hb hr (fun t ht hW => ⟨rfl, by rw [ht]; exact hP, hS.F ht⟩) hS.2.2 d_R_street_176
                · replace hf := ti_neg hc hf
                  refine lv_iconst (v := (0 : Int32)) hx hb d_R_street_96 (by decide) ?_
                  obtain ⟨rfl, rfl⟩ := tp_of hf
                  exact W.iret (v := (0 : Int32)) hx hb hr (fun t ht hW => ⟨rfl, by rw [ht]; exact hP, hS.F ht⟩) hS.2.2 d_R_street_97
              · replace hf := ti_pos hc hf
                refine lv_iconst (v := (2 : Int32)) hx hb d_R_street_81 (by decide) ?_
                refine lv_goto (tgt := 86) hx hb d_R_street_82 (by decide) ?_
                refine va_put (ci := 8) (v := .int (2 : Int32)) (ty := .int) (C := R_R) (T := F_R) (N := 32) hx hb ht iw_R ft_R to_R nm_R hown hK hP (cwR_D hd) hS 0 rfl rfl 0 (by decide) (ht _ wd_677) (fun _ h9 => h9) rfl (by decide +kernel) rfl rfl (Nat.le_of_ble_eq_true rfl) d_R_street_86 (fun H locs hP _ hS => ?_)
                replace hP : va_P D clS (cwR ad ta (tF s_76 0 (2 : Int32))) H := hP
                refine lv_aload_n hx hb d_R_street_89 rfl (lv_at hl 1 rfl) ?_
                refine va_get (ci := 8) (v := .int (2 : Int32)) (C := R_R) (T := F_R) (N := 32) hx hb ht iw_R hown hK hP 0 rfl rfl 0 (by decide) (ht _ wd_677) (fun _ h9 => h9) rfl d_R_street_90 ?_
                refine lv_if_le (tgt := 98) hx hb d_R_street_93 (by decide) (fun hc => ?_) (fun hc => ?_)
                · replace hf := ti_pos hc hf
                  refine lv_aload_n hx hb d_R_street_98 rfl (lv_at hl 1 rfl) ?_
                  refine va_get (ci := 8) (v := .ref (ad 4)) (C := R_R) (T := F_R) (N := 32) hx hb ht iw_R hown hK hP 0 rfl rfl 7 (by decide) (ht _ wd_684) (fun _ h9 => h9) rfl d_R_street_99 ?_
                  refine lv_aload_n hx hb d_R_street_102 rfl (lv_at hl 1 rfl) ?_
                  refine va_get (ci := 8) (v := .int (s_76.1 3)) (C := R_R) (T := F_R) (N := 32) hx hb ht iw_R hown hK hP 0 rfl rfl 3 (by decide) (ht _ wd_680) (fun _ h9 => h9) rfl d_R_street_103 ?_
                  refine lv_iload_n hx hb d_R_street_106 rfl (lv_at hl 2 rfl) ?_
                  obtain ⟨hi83, hf⟩ := tg_of hf
                  refine va_iast (f := s_76.2.1 3) hx hb hK hP (cwR_D hd) hS 4 3 rfl rfl hi83 d_R_street_107 (fun H locs hP _ hS => ?_)
                  replace hP : va_P D clS (cwR ad ta (tI (tF s_76 0 (2 : Int32)) 3 ((s_76.1 3).toNatClampNeg) p0)) H := hP
                  refine lv_aload_n hx hb d_R_street_108 rfl (lv_at hl 1 rfl) ?_
                  refine va_get (ci := 8) (v := .ref (ad 5)) (C := R_R) (T := F_R) (N := 32) hx hb ht iw_R hown hK hP 0 rfl rfl 8 (by decide) (ht _ wd_685) (fun _ h9 => h9) rfl d_R_street_109 ?_
                  refine lv_aload_n hx hb d_R_street_112 rfl (lv_at hl 1 rfl) ?_
                  refine va_get (ci := 8) (v := .int (s_76.1 3)) (C := R_R) (T := F_R) (N := 32) hx hb ht iw_R hown hK hP 0 rfl rfl 3 (by decide) (ht _ wd_680) (fun _ h9 => h9) rfl d_R_street_113 ?_
                  refine lv_iload_n hx hb d_R_street_116 rfl (lv_at hl 3 rfl) ?_
                  obtain ⟨hi84, hf⟩ := tg_of hf
                  refine va_iast (f := s_76.2.1 4) hx hb hK hP (cwR_D hd) hS 5 4 rfl rfl hi84 d_R_street_117 (fun H locs hP _ hS => ?_)
                  replace hP : va_P D clS (cwR ad ta (tI (tI (tF s_76 0 (2 : Int32)) 3 ((s_76.1 3).toNatClampNeg) p0) 4 ((s_76.1 3).toNatClampNeg) p1)) H := hP
                  refine lv_aload_n hx hb d_R_street_118 rfl (lv_at hl 1 rfl) ?_
                  refine va_get (ci := 8) (v := .ref (ad 6)) (C := R_R) (T := F_R) (N := 32) hx hb ht iw_R hown hK hP 0 rfl rfl 9 (by decide) (ht _ wd_686) (fun _ h9 => h9) rfl d_R_street_119 ?_
                  refine lv_aload_n hx hb d_R_street_122 rfl (lv_at hl 1 rfl) ?_
                  refine va_get (ci := 8) (v := .int (s_76.1 3)) (C := R_R) (T := F_R) (N := 32) hx hb ht iw_R hown hK hP 0 rfl rfl 3 (by decide) (ht _ wd_680) (fun _ h9 => h9) rfl d_R_street_123 ?_
                  refine lv_iload_n hx hb d_R_street_126 rfl (lv_at hl 4 rfl) ?_
                  obtain ⟨hi85, hf⟩ := tg_of hf
                  refine va_iast (f := s_76.2.1 5) hx hb hK hP (cwR_D hd) hS 6 5 rfl rfl hi85 d_R_street_127 (fun H locs hP _ hS => ?_)
                  replace hP : va_P D clS (cwR ad ta (tI (tI (tI (tF s_76 0 (2 : Int32)) 3 ((s_76.1 3).toNatClampNeg) p0) 4 ((s_76.1 3).toNatClampNeg) p1) 5 ((s_76.1 3).toNatClampNeg) p2)) H := hP
                  refine lv_aload_n hx hb d_R_street_128 rfl (lv_at hl 1 rfl) ?_
                  refine va_get (ci := 8) (v := .ref (ad 7)) (C := R_R) (T := F_R) (N := 32) hx hb ht iw_R hown hK hP 0 rfl rfl 10 (by decide) (ht _ wd_687) (fun _ h9 => h9) rfl d_R_street_129 ?_
                  refine lv_aload_n hx hb d_R_street_132 rfl (lv_at hl 1 rfl) ?_
                  refine va_get (ci := 8) (v := .int (s_76.1 3)) (C := R_R) (T := F_R) (N := 32) hx hb ht iw_R hown hK hP 0 rfl rfl 3 (by decide) (ht _ wd_680) (fun _ h9 => h9) rfl d_R_street_133 ?_
                  refine lv_iload hx hb d_R_street_136 (lv_at hl 5 rfl) ?_
                  obtain ⟨hi86, hf⟩ := tg_of hf
                  refine va_iast (f := s_76.2.1 6) hx hb hK hP (cwR_D hd) hS 7 6 rfl rfl hi86 d_R_street_138 (fun H locs hP _ hS => ?_)
                  replace hP : va_P D clS (cwR ad ta (tI (tI (tI (tI (tF s_76 0 (2 : Int32)) 3 ((s_76.1 3).toNatClampNeg) p0) 4 ((s_76.1 3).toNatClampNeg) p1) 5 ((s_76.1 3).toNatClampNeg) p2) 6 ((s_76.1 3).toNatClampNeg) p3)) H := hP
                  refine lv_aload_n hx hb d_R_street_139 rfl (lv_at hl 1 rfl) ?_
                  refine va_get (ci := 8) (v := .ref (ad 8)) (C := R_R) (T := F_R) (N := 32) hx hb ht iw_R hown hK hP 0 rfl rfl 11 (by decide) (ht _ wd_688) (fun _ h9 => h9) rfl d_R_street_140 ?_
                  refine lv_aload_n hx hb d_R_street_143 rfl (lv_at hl 1 rfl) ?_
                  refine va_get (ci := 8) (v := .int (s_76.1 3)) (C := R_R) (T := F_R) (N := 32) hx hb ht iw_R hown hK hP 0 rfl rfl 3 (by decide) (ht _ wd_680) (fun _ h9 => h9) rfl d_R_street_144 ?_
                  refine lv_iload hx hb d_R_street_147 (lv_at hl 6 rfl) ?_
                  obtain ⟨hi87, hf⟩ := tg_of hf
                  refine va_iast (f := s_76.2.1 7) hx hb hK hP (cwR_D hd) hS 8 7 rfl rfl hi87 d_R_street_149 (fun H locs hP _ hS => ?_)
                  replace hP : va_P D clS (cwR ad ta (tI (tI (tI (tI (tI (tF s_76 0 (2 : Int32)) 3 ((s_76.1 3).toNatClampNeg) p0) 4 ((s_76.1 3).toNatClampNeg) p1) 5 ((s_76.1 3).toNatClampNeg) p2) 6 ((s_76.1 3).toNatClampNeg) p3) 7 ((s_76.1 3).toNatClampNeg) p4)) H := hP
                  refine lv_aload_n hx hb d_R_street_150 rfl (lv_at hl 1 rfl) ?_
                  refine va_get (ci := 8) (v := .ref (ad 11)) (C := R_R) (T := F_R) (N := 32) hx hb ht iw_R hown hK hP 0 rfl rfl 14 (by decide) (ht _ wd_691) (fun _ h9 => h9) rfl d_R_street_151 ?_
                  refine lv_aload_n hx hb d_R_street_154 rfl (lv_at hl 1 rfl) ?_
                  refine va_get (ci := 8) (v := .int (s_76.1 3)) (C := R_R) (T := F_R) (N := 32) hx hb ht iw_R hown hK hP 0 rfl rfl 3 (by decide) (ht _ wd_680) (fun _ h9 => h9) rfl d_R_street_155 ?_
                  refine lv_iconst (v := ((-1) : Int32)) hx hb d_R_street_158 (by decide) ?_
                  obtain ⟨hi88, hf⟩ := tg_of hf
                  refine va_iast (f := s_76.2.1 10) hx hb hK hP (cwR_D hd) hS 11 10 rfl rfl hi88 d_R_street_159 (fun H locs hP _ hS => ?_)
                  replace hP : va_P D clS (cwR ad ta (tI (tI (tI (tI (tI (tI (tF s_76 0 (2 : Int32)) 3 ((s_76.1 3).toNatClampNeg) p0) 4 ((s_76.1 3).toNatClampNeg) p1) 5 ((s_76.1 3).toNatClampNeg) p2) 6 ((s_76.1 3).toNatClampNeg) p3) 7 ((s_76.1 3).toNatClampNeg) p4) 10 ((s_76.1 3).toNatClampNeg) ((-1) : Int32))) H := hP
                  refine lv_aload_n hx hb d_R_street_160 rfl (lv_at hl 1 rfl) ?_
                  refine lv_dup hx hb d_R_street_161 rfl ?_
                  refine va_get (ci := 8) (v := .int (s_76.1 3)) (C := R_R) (T := F_R) (N := 32) hx hb ht iw_R hown hK hP 0 rfl rfl 3 (by decide) (ht _ wd_680) (fun _ h9 => h9) rfl d_R_street_162 ?_
                  refine lv_iconst (v := (1 : Int32)) hx hb d_R_street_165 (by decide) ?_
                  refine lv_iadd hx hb d_R_street_166 ?_
                  refine va_put (ci := 8) (v := .int ((s_76.1 3) + (1 : Int32))) (ty := .int) (C := R_R) (T := F_R) (N := 32) hx hb ht iw_R ft_R to_R nm_R hown hK hP (cwR_D hd) hS 0 rfl rfl 3 (by decide) (ht _ wd_680) (fun _ h9 => h9) rfl (by decide +kernel) rfl rfl (Nat.le_of_ble_eq_true rfl) d_R_street_167 (fun H locs hP _ hS => ?_)
                  replace hP : va_P D clS (cwR ad ta (tF (tI (tI (tI (tI (tI (tI (tF s_76 0 (2 : Int32)) 3 ((s_76.1 3).toNatClampNeg) p0) 4 ((s_76.1 3).toNatClampNeg) p1) 5 ((s_76.1 3).toNatClampNeg) p2) 6 ((s_76.1 3).toNatClampNeg) p3) 7 ((s_76.1 3).toNatClampNeg) p4) 10 ((s_76.1 3).toNatClampNeg) ((-1) : Int32)) 3 ((s_76.1 3) + (1 : Int32)))) H := hP
                  refine lv_aload_n hx hb d_R_street_170 rfl (lv_at hl 1 rfl) ?_
                  refine va_get (ci := 8) (v := .int ((s_76.1 3) + (1 : Int32))) (C := R_R) (T := F_R) (N := 32) hx hb ht iw_R hown hK hP 0 rfl rfl 3 (by decide) (ht _ wd_680) (fun _ h9 => h9) rfl d_R_street_171 ?_
                  refine lv_iconst (v := (1 : Int32)) hx hb d_R_street_174 (by decide) ?_
                  refine lv_isub hx hb d_R_street_175 ?_
                  obtain ⟨rfl, rfl⟩ := tp_of hf
                  exact W.iret (v := (((s_76.1 3) + (1 : Int32)) - (1 : Int32))) hx hb hr (fun t ht hW => ⟨rfl, by rw [ht]; exact hP, hS.F ht⟩) hS.2.2 d_R_street_176
                · replace hf := ti_neg hc hf
                  refine lv_iconst (v := (0 : Int32)) hx hb d_R_street_96 (by decide) ?_
                  obtain ⟨rfl, rfl⟩ := tp_of hf
                  exact W.iret (v := (0 : Int32)) hx hb hr (fun t ht hW => ⟨rfl, by rw [ht]; exact hP, hS.F ht⟩) hS.2.2 d_R_street_97
            · replace hf := ti_pos hc hf
              refine lv_iconst (v := (1 : Int32)) hx hb d_R_street_68 (by decide) ?_
              refine lv_goto (tgt := 86) hx hb d_R_street_69 (by decide) ?_
              refine va_put (ci := 8) (v := .int (1 : Int32)) (ty := .int) (C := R_R) (T := F_R) (N := 32) hx hb ht iw_R ft_R to_R nm_R hown hK hP (cwR_D hd) hS 0 rfl rfl 0 (by decide) (ht _ wd_677) (fun _ h9 => h9) rfl (by decide +kernel) rfl rfl (Nat.le_of_ble_eq_true rfl) d_R_street_86 (fun H locs hP _ hS => ?_)
              replace hP : va_P D clS (cwR ad ta (tF s_76 0 (1 : Int32))) H := hP
              refine lv_aload_n hx hb d_R_street_89 rfl (lv_at hl 1 rfl) ?_
              refine va_get (ci := 8) (v := .int (1 : Int32)) (C := R_R) (T := F_R) (N := 32) hx hb ht iw_R hown hK hP 0 rfl rfl 0 (by decide) (ht _ wd_677) (fun _ h9 => h9) rfl d_R_street_90 ?_
              refine lv_if_le (tgt := 98) hx hb d_R_street_93 (by decide) (fun hc => ?_) (fun hc => ?_)
              · replace hf := ti_pos hc hf
                refine lv_aload_n hx hb d_R_street_98 rfl (lv_at hl 1 rfl) ?_
                refine va_get (ci := 8) (v := .ref (ad 4)) (C := R_R) (T := F_R) (N := 32) hx hb ht iw_R hown hK hP 0 rfl rfl 7 (by decide) (ht _ wd_684) (fun _ h9 => h9) rfl d_R_street_99 ?_
                refine lv_aload_n hx hb d_R_street_102 rfl (lv_at hl 1 rfl) ?_
                refine va_get (ci := 8) (v := .int (s_76.1 3)) (C := R_R) (T := F_R) (N := 32) hx hb ht iw_R hown hK hP 0 rfl rfl 3 (by decide) (ht _ wd_680) (fun _ h9 => h9) rfl d_R_street_103 ?_
                refine lv_iload_n hx hb d_R_street_106 rfl (lv_at hl 2 rfl) ?_
                obtain ⟨hi89, hf⟩ := tg_of hf
                refine va_iast (f := s_76.2.1 3) hx hb hK hP (cwR_D hd) hS 4 3 rfl rfl hi89 d_R_street_107 (fun H locs hP _ hS => ?_)
                replace hP : va_P D clS (cwR ad ta (tI (tF s_76 0 (1 : Int32)) 3 ((s_76.1 3).toNatClampNeg) p0)) H := hP
                refine lv_aload_n hx hb d_R_street_108 rfl (lv_at hl 1 rfl) ?_
                refine va_get (ci := 8) (v := .ref (ad 5)) (C := R_R) (T := F_R) (N := 32) hx hb ht iw_R hown hK hP 0 rfl rfl 8 (by decide) (ht _ wd_685) (fun _ h9 => h9) rfl d_R_street_109 ?_
                refine lv_aload_n hx hb d_R_street_112 rfl (lv_at hl 1 rfl) ?_
                refine va_get (ci := 8) (v := .int (s_76.1 3)) (C := R_R) (T := F_R) (N := 32) hx hb ht iw_R hown hK hP 0 rfl rfl 3 (by decide) (ht _ wd_680) (fun _ h9 => h9) rfl d_R_street_113 ?_
                refine lv_iload_n hx hb d_R_street_116 rfl (lv_at hl 3 rfl) ?_
                obtain ⟨hi90, hf⟩ := tg_of hf
                refine va_iast (f := s_76.2.1 4) hx hb hK hP (cwR_D hd) hS 5 4 rfl rfl hi90 d_R_street_117 (fun H locs hP _ hS => ?_)
                replace hP : va_P D clS (cwR ad ta (tI (tI (tF s_76 0 (1 : Int32)) 3 ((s_76.1 3).toNatClampNeg) p0) 4 ((s_76.1 3).toNatClampNeg) p1)) H := hP
                refine lv_aload_n hx hb d_R_street_118 rfl (lv_at hl 1 rfl) ?_
                refine va_get (ci := 8) (v := .ref (ad 6)) (C := R_R) (T := F_R) (N := 32) hx hb ht iw_R hown hK hP 0 rfl rfl 9 (by decide) (ht _ wd_686) (fun _ h9 => h9) rfl d_R_street_119 ?_
                refine lv_aload_n hx hb d_R_street_122 rfl (lv_at hl 1 rfl) ?_
                refine va_get (ci := 8) (v := .int (s_76.1 3)) (C := R_R) (T := F_R) (N := 32) hx hb ht iw_R hown hK hP 0 rfl rfl 3 (by decide) (ht _ wd_680) (fun _ h9 => h9) rfl d_R_street_123 ?_
                refine lv_iload_n hx hb d_R_street_126 rfl (lv_at hl 4 rfl) ?_
                obtain ⟨hi91, hf⟩ := tg_of hf
                refine va_iast (f := s_76.2.1 5) hx hb hK hP (cwR_D hd) hS 6 5 rfl rfl hi91 d_R_street_127 (fun H locs hP _ hS => ?_)
                replace hP : va_P D clS (cwR ad ta (tI (tI (tI (tF s_76 0 (1 : Int32)) 3 ((s_76.1 3).toNatClampNeg) p0) 4 ((s_76.1 3).toNatClampNeg) p1) 5 ((s_76.1 3).toNatClampNeg) p2)) H := hP
                refine lv_aload_n hx hb d_R_street_128 rfl (lv_at hl 1 rfl) ?_
                refine va_get (ci := 8) (v := .ref (ad 7)) (C := R_R) (T := F_R) (N := 32) hx hb ht iw_R hown hK hP 0 rfl rfl 10 (by decide) (ht _ wd_687) (fun _ h9 => h9) rfl d_R_street_129 ?_
                refine lv_aload_n hx hb d_R_street_132 rfl (lv_at hl 1 rfl) ?_
                refine va_get (ci := 8) (v := .int (s_76.1 3)) (C := R_R) (T := F_R) (N := 32) hx hb ht iw_R hown hK hP 0 rfl rfl 3 (by decide) (ht _ wd_680) (fun _ h9 => h9) rfl d_R_street_133 ?_
                refine lv_iload hx hb d_R_street_136 (lv_at hl 5 rfl) ?_
                obtain ⟨hi92, hf⟩ := tg_of hf
                refine va_iast (f := s_76.2.1 6) hx hb hK hP (cwR_D hd) hS 7 6 rfl rfl hi92 d_R_street_138 (fun H locs hP _ hS => ?_)
                replace hP : va_P D clS (cwR ad ta (tI (tI (tI (tI (tF s_76 0 (1 : Int32)) 3 ((s_76.1 3).toNatClampNeg) p0) 4 ((s_76.1 3).toNatClampNeg) p1) 5 ((s_76.1 3).toNatClampNeg) p2) 6 ((s_76.1 3).toNatClampNeg) p3)) H := hP
                refine lv_aload_n hx hb d_R_street_139 rfl (lv_at hl 1 rfl) ?_
                refine va_get (ci := 8) (v := .ref (ad 8)) (C := R_R) (T := F_R) (N := 32) hx hb ht iw_R hown hK hP 0 rfl rfl 11 (by decide) (ht _ wd_688) (fun _ h9 => h9) rfl d_R_street_140 ?_
                refine lv_aload_n hx hb d_R_street_143 rfl (lv_at hl 1 rfl) ?_
                refine va_get (ci := 8) (v := .int (s_76.1 3)) (C := R_R) (T := F_R) (N := 32) hx hb ht iw_R hown hK hP 0 rfl rfl 3 (by decide) (ht _ wd_680) (fun _ h9 => h9) rfl d_R_street_144 ?_
                refine lv_iload hx hb d_R_street_147 (lv_at hl 6 rfl) ?_
                obtain ⟨hi93, hf⟩ := tg_of hf
                refine va_iast (f := s_76.2.1 7) hx hb hK hP (cwR_D hd) hS 8 7 rfl rfl hi93 d_R_street_149 (fun H locs hP _ hS => ?_)
                replace hP : va_P D clS (cwR ad ta (tI (tI (tI (tI (tI (tF s_76 0 (1 : Int32)) 3 ((s_76.1 3).toNatClampNeg) p0) 4 ((s_76.1 3).toNatClampNeg) p1) 5 ((s_76.1 3).toNatClampNeg) p2) 6 ((s_76.1 3).toNatClampNeg) p3) 7 ((s_76.1 3).toNatClampNeg) p4)) H := hP
                refine lv_aload_n hx hb d_R_street_150 rfl (lv_at hl 1 rfl) ?_
                refine va_get (ci := 8) (v := .ref (ad 11)) (C := R_R) (T := F_R) (N := 32) hx hb ht iw_R hown hK hP 0 rfl rfl 14 (by decide) (ht _ wd_691) (fun _ h9 => h9) rfl d_R_street_151 ?_
                refine lv_aload_n hx hb d_R_street_154 rfl (lv_at hl 1 rfl) ?_
                refine va_get (ci := 8) (v := .int (s_76.1 3)) (C := R_R) (T := F_R) (N := 32) hx hb ht iw_R hown hK hP 0 rfl rfl 3 (by decide) (ht _ wd_680) (fun _ h9 => h9) rfl d_R_street_155 ?_
                refine lv_iconst (v := ((-1) : Int32)) hx hb d_R_street_158 (by decide) ?_
                obtain ⟨hi94, hf⟩ := tg_of hf
                refine va_iast (f := s_76.2.1 10) hx hb hK hP (cwR_D hd) hS 11 10 rfl rfl hi94 d_R_street_159 (fun H locs hP _ hS => ?_)
                replace hP : va_P D clS (cwR ad ta (tI (tI (tI (tI (tI (tI (tF s_76 0 (1 : Int32)) 3 ((s_76.1 3).toNatClampNeg) p0) 4 ((s_76.1 3).toNatClampNeg) p1) 5 ((s_76.1 3).toNatClampNeg) p2) 6 ((s_76.1 3).toNatClampNeg) p3) 7 ((s_76.1 3).toNatClampNeg) p4) 10 ((s_76.1 3).toNatClampNeg) ((-1) : Int32))) H := hP
                refine lv_aload_n hx hb d_R_street_160 rfl (lv_at hl 1 rfl) ?_
                refine lv_dup hx hb d_R_street_161 rfl ?_
                refine va_get (ci := 8) (v := .int (s_76.1 3)) (C := R_R) (T := F_R) (N := 32) hx hb ht iw_R hown hK hP 0 rfl rfl 3 (by decide) (ht _ wd_680) (fun _ h9 => h9) rfl d_R_street_162 ?_
                refine lv_iconst (v := (1 : Int32)) hx hb d_R_street_165 (by decide) ?_
                refine lv_iadd hx hb d_R_street_166 ?_
                refine va_put (ci := 8) (v := .int ((s_76.1 3) + (1 : Int32))) (ty := .int) (C := R_R) (T := F_R) (N := 32) hx hb ht iw_R ft_R to_R nm_R hown hK hP (cwR_D hd) hS 0 rfl rfl 3 (by decide) (ht _ wd_680) (fun _ h9 => h9) rfl (by decide +kernel) rfl rfl (Nat.le_of_ble_eq_true rfl) d_R_street_167 (fun H locs hP _ hS => ?_)
                replace hP : va_P D clS (cwR ad ta (tF (tI (tI (tI (tI (tI (tI (tF s_76 0 (1 : Int32)) 3 ((s_76.1 3).toNatClampNeg) p0) 4 ((s_76.1 3).toNatClampNeg) p1) 5 ((s_76.1 3).toNatClampNeg) p2) 6 ((s_76.1 3).toNatClampNeg) p3) 7 ((s_76.1 3).toNatClampNeg) p4) 10 ((s_76.1 3).toNatClampNeg) ((-1) : Int32)) 3 ((s_76.1 3) + (1 : Int32)))) H := hP
                refine lv_aload_n hx hb d_R_street_170 rfl (lv_at hl 1 rfl) ?_
                refine va_get (ci := 8) (v := .int ((s_76.1 3) + (1 : Int32))) (C := R_R) (T := F_R) (N := 32) hx hb ht iw_R hown hK hP 0 rfl rfl 3 (by decide) (ht _ wd_680) (fun _ h9 => h9) rfl d_R_street_171 ?_
                refine lv_iconst (v := (1 : Int32)) hx hb d_R_street_174 (by decide) ?_
                refine lv_isub hx hb d_R_street_175 ?_
                obtain ⟨rfl, rfl⟩ := tp_of hf
                exact W.iret (v := (((s_76.1 3) + (1 : Int32)) - (1 : Int32))) hx hb hr (fun t ht hW => ⟨rfl, by rw [ht]; exact hP, hS.F ht⟩) hS.2.2 d_R_street_176
              · replace hf := ti_neg hc hf
                refine lv_iconst (v := (0 : Int32)) hx hb d_R_street_96 (by decide) ?_
                obtain ⟨rfl, rfl⟩ := tp_of hf
                exact W.iret (v := (0 : Int32)) hx hb hr (fun t ht hW => ⟨rfl, by rw [ht]; exact hP, hS.F ht⟩) hS.2.2 d_R_street_97
          · replace hf := ti_neg hc hf
            refine lv_iload hx hb d_R_street_44 (lv_at hl 5 rfl) ?_
            refine lv_iconst (v := (1 : Int32)) hx hb d_R_street_46 (by decide) ?_
            refine lv_ldc (v := (1000000 : Int32)) hx hb hown (ht _ wd_798) d_R_street_47 ?_
            obtain ⟨r_95, s_95, hq95, hf⟩ := tb2_of hf
            refine tr_calli (va_runS (As := [.int p4, .int (1 : Int32), .int (1000000 : Int32)]) (rest := []) ⟨hx, hb, hml, hown, ht⟩ (mc_R_isIn l hd hq95) ⟨(tw_cb (n := 3) ht wc_R_isIn wd_43 wd_790 ⟨rfl, rfl⟩ (by decide +kernel) ⟨(Nat.le_of_ble_eq_true rfl), (Nat.le_of_ble_eq_true rfl)⟩), ht _ wd_791⟩ ⟨tP_blind, fun U hU hW => ⟨rfl, by rw [hU]; exact hP, va_K.moved hW.alike hK, tW_warm hW hN⟩⟩ rfl rfl hl.1 rfl (lv_room (Nat.le_of_ble_eq_true rfl)) d_R_street_49 ⟨Nat.zero_le _, Nat.zero_le _⟩) hS (fun _ h => h.elim) (fun _ h => h.elim) (fun H locs hP hS => ?_)
            refine lv_if_eq (tgt := 59) hx hb d_R_street_52 (by decide) (fun hc => ?_) (fun hc => ?_)
            · replace hf := ti_pos hc hf
              refine lv_iconst (v := (0 : Int32)) hx hb d_R_street_59 (by decide) ?_
              refine lv_istore (lv' := [(6, .int (0 : Int32)), (0, .ref (ad 0)), (1, .int p0), (2, .int p1), (3, .int p2), (4, .int p3), (5, .int p4)]) hx hb d_R_street_60 hl (by decide) rfl (fun ls hl => ?_)
              refine lv_aload_n hx hb d_R_street_62 rfl (lv_at hl 1 rfl) ?_
              refine lv_iload hx hb d_R_street_63 (lv_at hl 0 rfl) ?_
              refine lv_if_ne (tgt := 72) hx hb d_R_street_65 (by decide) (fun hc => ?_) (fun hc => ?_)
              · replace hf := ti_neg hc hf
                refine lv_aload_n hx hb d_R_street_72 rfl (lv_at hl 1 rfl) ?_
                refine va_get (ci := 8) (v := .int (s_95.1 3)) (C := R_R) (T := F_R) (N := 32) hx hb ht iw_R hown hK hP 0 rfl rfl 3 (by decide) (ht _ wd_680) (fun _ h9 => h9) rfl d_R_street_73 ?_
                refine lv_bipush (v := (40 : Int32)) hx hb d_R_street_76 (by decide) ?_
                refine lv_icmp_ne (tgt := 85) hx hb d_R_street_78 (by decide) (fun hc => ?_) (fun hc => ?_)
                · replace hf := ti_neg hc hf
                  refine lv_iconst (v := (0 : Int32)) hx hb d_R_street_85 (by decide) ?_
                  refine va_put (ci := 8) (v := .int (0 : Int32)) (ty := .int) (C := R_R) (T := F_R) (N := 32) hx hb ht iw_R ft_R to_R nm_R hown hK hP (cwR_D hd) hS 0 rfl rfl 0 (by decide) (ht _ wd_677) (fun _ h9 => h9) rfl (by decide +kernel) rfl rfl (Nat.le_of_ble_eq_true rfl) d_R_street_86 (fun H locs hP _ hS => ?_)
                  replace hP : va_P D clS (cwR ad ta (tF s_95 0 (0 : Int32))) H := hP
                  refine lv_aload_n hx hb d_R_street_89 rfl (lv_at hl 1 rfl) ?_
                  refine va_get (ci := 8) (v := .int (0 : Int32)) (C := R_R) (T := F_R) (N := 32) hx hb ht iw_R hown hK hP 0 rfl rfl 0 (by decide) (ht _ wd_677) (fun _ h9 => h9) rfl d_R_street_90 ?_
                  refine lv_if_le (tgt := 98) hx hb d_R_street_93 (by decide) (fun hc => ?_) (fun hc => ?_)
                  · replace hf := ti_pos hc hf
                    refine lv_aload_n hx hb d_R_street_98 rfl (lv_at hl 1 rfl) ?_
                    refine va_get (ci := 8) (v := .ref (ad 4)) (C := R_R) (T := F_R) (N := 32) hx hb ht iw_R hown hK hP 0 rfl rfl 7 (by decide) (ht _ wd_684) (fun _ h9 => h9) rfl d_R_street_99 ?_
                    refine lv_aload_n hx hb d_R_street_102 rfl (lv_at hl 1 rfl) ?_
                    refine va_get (ci := 8) (v := .int (s_95.1 3)) (C := R_R) (T := F_R) (N := 32) hx hb ht iw_R hown hK hP 0 rfl rfl 3 (by decide) (ht _ wd_680) (fun _ h9 => h9) rfl d_R_street_103 ?_
                    refine lv_iload_n hx hb d_R_street_106 rfl (lv_at hl 2 rfl) ?_
                    obtain ⟨hi96, hf⟩ := tg_of hf
                    refine va_iast (f := s_95.2.1 3) hx hb hK hP (cwR_D hd) hS 4 3 rfl rfl hi96 d_R_street_107 (fun H locs hP _ hS => ?_)
                    replace hP : va_P D clS (cwR ad ta (tI (tF s_95 0 (0 : Int32)) 3 ((s_95.1 3).toNatClampNeg) p0)) H := hP
                    refine lv_aload_n hx hb d_R_street_108 rfl (lv_at hl 1 rfl) ?_
                    refine va_get (ci := 8) (v := .ref (ad 5)) (C := R_R) (T := F_R) (N := 32) hx hb ht iw_R hown hK hP 0 rfl rfl 8 (by decide) (ht _ wd_685) (fun _ h9 => h9) rfl d_R_street_109 ?_
                    refine lv_aload_n hx hb d_R_street_112 rfl (lv_at hl 1 rfl) ?_
                    refine va_get (ci := 8) (v := .int (s_95.1 3)) (C := R_R) (T := F_R) (N := 32) hx hb ht iw_R hown hK hP 0 rfl rfl 3 (by decide) (ht _ wd_680) (fun _ h9 => h9) rfl d_R_street_113 ?_
                    refine lv_iload_n hx hb d_R_street_116 rfl (lv_at hl 3 rfl) ?_
                    obtain ⟨hi97, hf⟩ := tg_of hf
                    refine va_iast (f := s_95.2.1 4) hx hb hK hP (cwR_D hd) hS 5 4 rfl rfl hi97 d_R_street_117 (fun H locs hP _ hS => ?_)
                    replace hP : va_P D clS (cwR ad ta (tI (tI (tF s_95 0 (0 : Int32)) 3 ((s_95.1 3).toNatClampNeg) p0) 4 ((s_95.1 3).toNatClampNeg) p1)) H := hP
                    refine lv_aload_n hx hb d_R_street_118 rfl (lv_at hl 1 rfl) ?_
                    refine va_get (ci := 8) (v := .ref (ad 6)) (C := R_R) (T := F_R) (N := 32) hx hb ht iw_R hown hK hP 0 rfl rfl 9 (by decide) (ht _ wd_686) (fun _ h9 => h9) rfl d_R_street_119 ?_
                    refine lv_aload_n hx hb d_R_street_122 rfl (lv_at hl 1 rfl) ?_
                    refine va_get (ci := 8) (v := .int (s_95.1 3)) (C := R_R) (T := F_R) (N := 32) hx hb ht iw_R hown hK hP 0 rfl rfl 3 (by decide) (ht _ wd_680) (fun _ h9 => h9) rfl d_R_street_123 ?_
                    refine lv_iload_n hx hb d_R_street_126 rfl (lv_at hl 4 rfl) ?_
                    obtain ⟨hi98, hf⟩ := tg_of hf
                    refine va_iast (f := s_95.2.1 5) hx hb hK hP (cwR_D hd) hS 6 5 rfl rfl hi98 d_R_street_127 (fun H locs hP _ hS => ?_)
                    replace hP : va_P D clS (cwR ad ta (tI (tI (tI (tF s_95 0 (0 : Int32)) 3 ((s_95.1 3).toNatClampNeg) p0) 4 ((s_95.1 3).toNatClampNeg) p1) 5 ((s_95.1 3).toNatClampNeg) p2)) H := hP
                    refine lv_aload_n hx hb d_R_street_128 rfl (lv_at hl 1 rfl) ?_
                    refine va_get (ci := 8) (v := .ref (ad 7)) (C := R_R) (T := F_R) (N := 32) hx hb ht iw_R hown hK hP 0 rfl rfl 10 (by decide) (ht _ wd_687) (fun _ h9 => h9) rfl d_R_street_129 ?_
                    refine lv_aload_n hx hb d_R_street_132 rfl (lv_at hl 1 rfl) ?_
                    refine va_get (ci := 8) (v := .int (s_95.1 3)) (C := R_R) (T := F_R) (N := 32) hx hb ht iw_R hown hK hP 0 rfl rfl 3 (by decide) (ht _ wd_680) (fun _ h9 => h9) rfl d_R_street_133 ?_
                    refine lv_iload hx hb d_R_street_136 (lv_at hl 5 rfl) ?_
                    obtain ⟨hi99, hf⟩ := tg_of hf
                    refine va_iast (f := s_95.2.1 6) hx hb hK hP (cwR_D hd) hS 7 6 rfl rfl hi99 d_R_street_138 (fun H locs hP _ hS => ?_)
                    replace hP : va_P D clS (cwR ad ta (tI (tI (tI (tI (tF s_95 0 (0 : Int32)) 3 ((s_95.1 3).toNatClampNeg) p0) 4 ((s_95.1 3).toNatClampNeg) p1) 5 ((s_95.1 3).toNatClampNeg) p2) 6 ((s_95.1 3).toNatClampNeg) p3)) H := hP
                    refine lv_aload_n hx hb d_R_street_139 rfl (lv_at hl 1 rfl) ?_
                    refine va_get (ci := 8) (v := .ref (ad 8)) (C := R_R) (T := F_R) (N := 32) hx hb ht iw_R hown hK hP 0 rfl rfl 11 (by decide) (ht _ wd_688) (fun _ h9 => h9) rfl d_R_street_140 ?_
                    refine lv_aload_n hx hb d_R_street_143 rfl (lv_at hl 1 rfl) ?_
                    refine va_get (ci := 8) (v := .int (s_95.1 3)) (C := R_R) (T := F_R) (N := 32) hx hb ht iw_R hown hK hP 0 rfl rfl 3 (by decide) (ht _ wd_680) (fun _ h9 => h9) rfl d_R_street_144 ?_
                    refine lv_iload hx hb d_R_street_147 (lv_at hl 6 rfl) ?_
                    obtain ⟨hi100, hf⟩ := tg_of hf
                    refine va_iast (f := s_95.2.1 7) hx hb hK hP (cwR_D hd) hS 8 7 rfl rfl hi100 d_R_street_149 (fun H locs hP _ hS => ?_)
                    replace hP : va_P D clS (cwR ad ta (tI (tI (tI (tI (tI (tF s_95 0 (0 : Int32)) 3 ((s_95.1 3).toNatClampNeg) p0) 4 ((s_95.1 3).toNatClampNeg) p1) 5 ((s_95.1 3).toNatClampNeg) p2) 6 ((s_95.1 3).toNatClampNeg) p3) 7 ((s_95.1 3).toNatClampNeg) p4)) H := hP
                    refine lv_aload_n hx hb d_R_street_150 rfl (lv_at hl 1 rfl) ?_
                    refine va_get (ci := 8) (v := .ref (ad 11)) (C := R_R) (T := F_R) (N := 32) hx hb ht iw_R hown hK hP 0 rfl rfl 14 (by decide) (ht _ wd_691) (fun _ h9 => h9) rfl d_R_street_151 ?_
                    refine lv_aload_n hx hb d_R_street_154 rfl (lv_at hl 1 rfl) ?_
                    refine va_get (ci := 8) (v := .int (s_95.1 3)) (C := R_R) (T := F_R) (N := 32) hx hb ht iw_R hown hK hP 0 rfl rfl 3 (by decide) (ht _ wd_680) (fun _ h9 => h9) rfl d_R_street_155 ?_
                    refine lv_iconst (v := ((-1) : Int32)) hx hb d_R_street_158 (by decide) ?_
                    obtain ⟨hi101, hf⟩ := tg_of hf
                    refine va_iast (f := s_95.2.1 10) hx hb hK hP (cwR_D hd) hS 11 10 rfl rfl hi101 d_R_street_159 (fun H locs hP _ hS => ?_)
                    replace hP : va_P D clS (cwR ad ta (tI (tI (tI (tI (tI (tI (tF s_95 0 (0 : Int32)) 3 ((s_95.1 3).toNatClampNeg) p0) 4 ((s_95.1 3).toNatClampNeg) p1) 5 ((s_95.1 3).toNatClampNeg) p2) 6 ((s_95.1 3).toNatClampNeg) p3) 7 ((s_95.1 3).toNatClampNeg) p4) 10 ((s_95.1 3).toNatClampNeg) ((-1) : Int32))) H := hP
                    refine lv_aload_n hx hb d_R_street_160 rfl (lv_at hl 1 rfl) ?_
                    refine lv_dup hx hb d_R_street_161 rfl ?_
                    refine va_get (ci := 8) (v := .int (s_95.1 3)) (C := R_R) (T := F_R) (N := 32) hx hb ht iw_R hown hK hP 0 rfl rfl 3 (by decide) (ht _ wd_680) (fun _ h9 => h9) rfl d_R_street_162 ?_
                    refine lv_iconst (v := (1 : Int32)) hx hb d_R_street_165 (by decide) ?_
                    refine lv_iadd hx hb d_R_street_166 ?_
                    refine va_put (ci := 8) (v := .int ((s_95.1 3) + (1 : Int32))) (ty := .int) (C := R_R) (T := F_R) (N := 32) hx hb ht iw_R ft_R to_R nm_R hown hK hP (cwR_D hd) hS 0 rfl rfl 3 (by decide) (ht _ wd_680) (fun _ h9 => h9) rfl (by decide +kernel) rfl rfl (Nat.le_of_ble_eq_true rfl) d_R_street_167 (fun H locs hP _ hS => ?_)
                    replace hP : va_P D clS (cwR ad ta (tF (tI (tI (tI (tI (tI (tI (tF s_95 0 (0 : Int32)) 3 ((s_95.1 3).toNatClampNeg) p0) 4 ((s_95.1 3).toNatClampNeg) p1) 5 ((s_95.1 3).toNatClampNeg) p2) 6 ((s_95.1 3).toNatClampNeg) p3) 7 ((s_95.1 3).toNatClampNeg) p4) 10 ((s_95.1 3).toNatClampNeg) ((-1) : Int32)) 3 ((s_95.1 3) + (1 : Int32)))) H := hP
                    refine lv_aload_n hx hb d_R_street_170 rfl (lv_at hl 1 rfl) ?_
                    refine va_get (ci := 8) (v := .int ((s_95.1 3) + (1 : Int32))) (C := R_R) (T := F_R) (N := 32) hx hb ht iw_R hown hK hP 0 rfl rfl 3 (by decide) (ht _ wd_680) (fun _ h9 => h9) rfl d_R_street_171 ?_
                    refine lv_iconst (v := (1 : Int32)) hx hb d_R_street_174 (by decide) ?_
                    refine lv_isub hx hb d_R_street_175 ?_
                    obtain ⟨rfl, rfl⟩ := tp_of hf
                    exact W.iret (v := (((s_95.1 3) + (1 : Int32)) - (1 : Int32))) hx hb hr (fun t ht hW => ⟨rfl, by rw [ht]; exact hP, hS.F ht⟩) hS.2.2 d_R_street_176
                  · replace hf := ti_neg hc hf
                    refine lv_iconst (v := (0 : Int32)) hx hb d_R_street_96 (by decide) ?_
                    obtain ⟨rfl, rfl⟩ := tp_of hf
                    exact W.iret (v := (0 : Int32)) hx hb hr (fun t ht hW => ⟨rfl, by rw [ht]; exact hP, hS.F ht⟩) hS.2.2 d_R_street_97
                · replace hf := ti_pos hc hf
                  refine lv_iconst (v := (2 : Int32)) hx hb d_R_street_81 (by decide) ?_
                  refine lv_goto (tgt := 86) hx hb d_R_street_82 (by decide) ?_
                  refine va_put (ci := 8) (v := .int (2 : Int32)) (ty := .int) (C := R_R) (T := F_R) (N := 32) hx hb ht iw_R ft_R to_R nm_R hown hK hP (cwR_D hd) hS 0 rfl rfl 0 (by decide) (ht _ wd_677) (fun _ h9 => h9) rfl (by decide +kernel) rfl rfl (Nat.le_of_ble_eq_true rfl) d_R_street_86 (fun H locs hP _ hS => ?_)
                  replace hP : va_P D clS (cwR ad ta (tF s_95 0 (2 : Int32))) H := hP
                  refine lv_aload_n hx hb d_R_street_89 rfl (lv_at hl 1 rfl) ?_
                  refine va_get (ci := 8) (v := .int (2 : Int32)) (C := R_R) (T := F_R) (N := 32) hx hb ht iw_R hown hK hP 0 rfl rfl 0 (by decide) (ht _ wd_677) (fun _ h9 => h9) rfl d_R_street_90 ?_
                  refine lv_if_le (tgt := 98) hx hb d_R_street_93 (by decide) (fun hc => ?_) (fun hc => ?_)
                  · replace hf := ti_pos hc hf
                    refine lv_aload_n hx hb d_R_street_98 rfl (lv_at hl 1 rfl) ?_
                    refine va_get (ci := 8) (v := .ref (ad 4)) (C := R_R) (T := F_R) (N := 32) hx hb ht iw_R hown hK hP 0 rfl rfl 7 (by decide) (ht _ wd_684) (fun _ h9 => h9) rfl d_R_street_99 ?_
                    refine lv_aload_n hx hb d_R_street_102 rfl (lv_at hl 1 rfl) ?_
                    refine va_get (ci := 8) (v := .int (s_95.1 3)) (C := R_R) (T := F_R) (N := 32) hx hb ht iw_R hown hK hP 0 rfl rfl 3 (by decide) (ht _ wd_680) (fun _ h9 => h9) rfl d_R_street_103 ?_
                    refine lv_iload_n hx hb d_R_street_106 rfl (lv_at hl 2 rfl) ?_
                    obtain ⟨hi102, hf⟩ := tg_of hf
                    refine va_iast (f := s_95.2.1 3) hx hb hK hP (cwR_D hd) hS 4 3 rfl rfl hi102 d_R_street_107 (fun H locs hP _ hS => ?_)
                    replace hP : va_P D clS (cwR ad ta (tI (tF s_95 0 (2 : Int32)) 3 ((s_95.1 3).toNatClampNeg) p0)) H := hP
                    refine lv_aload_n hx hb d_R_street_108 rfl (lv_at hl 1 rfl) ?_
                    refine va_get (ci := 8) (v := .ref (ad 5)) (C := R_R) (T := F_R) (N := 32) hx hb ht iw_R hown hK hP 0 rfl rfl 8 (by decide) (ht _ wd_685) (fun _ h9 => h9) rfl d_R_street_109 ?_
                    refine lv_aload_n hx hb d_R_street_112 rfl (lv_at hl 1 rfl) ?_
                    refine va_get (ci := 8) (v := .int (s_95.1 3)) (C := R_R) (T := F_R) (N := 32) hx hb ht iw_R hown hK hP 0 rfl rfl 3 (by decide) (ht _ wd_680) (fun _ h9 => h9) rfl d_R_street_113 ?_
                    refine lv_iload_n hx hb d_R_street_116 rfl (lv_at hl 3 rfl) ?_
                    obtain ⟨hi103, hf⟩ := tg_of hf
                    refine va_iast (f := s_95.2.1 4) hx hb hK hP (cwR_D hd) hS 5 4 rfl rfl hi103 d_R_street_117 (fun H locs hP _ hS => ?_)
                    replace hP : va_P D clS (cwR ad ta (tI (tI (tF s_95 0 (2 : Int32)) 3 ((s_95.1 3).toNatClampNeg) p0) 4 ((s_95.1 3).toNatClampNeg) p1)) H := hP
                    refine lv_aload_n hx hb d_R_street_118 rfl (lv_at hl 1 rfl) ?_
                    refine va_get (ci := 8) (v := .ref (ad 6)) (C := R_R) (T := F_R) (N := 32) hx hb ht iw_R hown hK hP 0 rfl rfl 9 (by decide) (ht _ wd_686) (fun _ h9 => h9) rfl d_R_street_119 ?_
                    refine lv_aload_n hx hb d_R_street_122 rfl (lv_at hl 1 rfl) ?_
                    refine va_get (ci := 8) (v := .int (s_95.1 3)) (C := R_R) (T := F_R) (N := 32) hx hb ht iw_R hown hK hP 0 rfl rfl 3 (by decide) (ht _ wd_680) (fun _ h9 => h9) rfl d_R_street_123 ?_
                    refine lv_iload_n hx hb d_R_street_126 rfl (lv_at hl 4 rfl) ?_
                    obtain ⟨hi104, hf⟩ := tg_of hf
                    refine va_iast (f := s_95.2.1 5) hx hb hK hP (cwR_D hd) hS 6 5 rfl rfl hi104 d_R_street_127 (fun H locs hP _ hS => ?_)
                    replace hP : va_P D clS (cwR ad ta (tI (tI (tI (tF s_95 0 (2 : Int32)) 3 ((s_95.1 3).toNatClampNeg) p0) 4 ((s_95.1 3).toNatClampNeg) p1) 5 ((s_95.1 3).toNatClampNeg) p2)) H := hP
                    refine lv_aload_n hx hb d_R_street_128 rfl (lv_at hl 1 rfl) ?_
                    refine va_get (ci := 8) (v := .ref (ad 7)) (C := R_R) (T := F_R) (N := 32) hx hb ht iw_R hown hK hP 0 rfl rfl 10 (by decide) (ht _ wd_687) (fun _ h9 => h9) rfl d_R_street_129 ?_
                    refine lv_aload_n hx hb d_R_street_132 rfl (lv_at hl 1 rfl) ?_
                    refine va_get (ci := 8) (v := .int (s_95.1 3)) (C := R_R) (T := F_R) (N := 32) hx hb ht iw_R hown hK hP 0 rfl rfl 3 (by decide) (ht _ wd_680) (fun _ h9 => h9) rfl d_R_street_133 ?_
                    refine lv_iload hx hb d_R_street_136 (lv_at hl 5 rfl) ?_
                    obtain ⟨hi105, hf⟩ := tg_of hf
                    refine va_iast (f := s_95.2.1 6) hx hb hK hP (cwR_D hd) hS 7 6 rfl rfl hi105 d_R_street_138 (fun H locs hP _ hS => ?_)
                    replace hP : va_P D clS (cwR ad ta (tI (tI (tI (tI (tF s_95 0 (2 : Int32)) 3 ((s_95.1 3).toNatClampNeg) p0) 4 ((s_95.1 3).toNatClampNeg) p1) 5 ((s_95.1 3).toNatClampNeg) p2) 6 ((s_95.1 3).toNatClampNeg) p3)) H := hP
                    refine lv_aload_n hx hb d_R_street_139 rfl (lv_at hl 1 rfl) ?_
                    refine va_get (ci := 8) (v := .ref (ad 8)) (C := R_R) (T := F_R) (N := 32) hx hb ht iw_R hown hK hP 0 rfl rfl 11 (by decide) (ht _ wd_688) (fun _ h9 => h9) rfl d_R_street_140 ?_
                    refine lv_aload_n hx hb d_R_street_143 rfl (lv_at hl 1 rfl) ?_
                    refine va_get (ci := 8) (v := .int (s_95.1 3)) (C := R_R) (T := F_R) (N := 32) hx hb ht iw_R hown hK hP 0 rfl rfl 3 (by decide) (ht _ wd_680) (fun _ h9 => h9) rfl d_R_street_144 ?_
                    refine lv_iload hx hb d_R_street_147 (lv_at hl 6 rfl) ?_
                    obtain ⟨hi106, hf⟩ := tg_of hf
                    refine va_iast (f := s_95.2.1 7) hx hb hK hP (cwR_D hd) hS 8 7 rfl rfl hi106 d_R_street_149 (fun H locs hP _ hS => ?_)
                    replace hP : va_P D clS (cwR ad ta (tI (tI (tI (tI (tI (tF s_95 0 (2 : Int32)) 3 ((s_95.1 3).toNatClampNeg) p0) 4 ((s_95.1 3).toNatClampNeg) p1) 5 ((s_95.1 3).toNatClampNeg) p2) 6 ((s_95.1 3).toNatClampNeg) p3) 7 ((s_95.1 3).toNatClampNeg) p4)) H := hP
                    refine lv_aload_n hx hb d_R_street_150 rfl (lv_at hl 1 rfl) ?_
                    refine va_get (ci := 8) (v := .ref (ad 11)) (C := R_R) (T := F_R) (N := 32) hx hb ht iw_R hown hK hP 0 rfl rfl 14 (by decide) (ht _ wd_691) (fun _ h9 => h9) rfl d_R_street_151 ?_
                    refine lv_aload_n hx hb d_R_street_154 rfl (lv_at hl 1 rfl) ?_
                    refine va_get (ci := 8) (v := .int (s_95.1 3)) (C := R_R) (T := F_R) (N := 32) hx hb ht iw_R hown hK hP 0 rfl rfl 3 (by decide) (ht _ wd_680) (fun _ h9 => h9) rfl d_R_street_155 ?_
                    refine lv_iconst (v := ((-1) : Int32)) hx hb d_R_street_158 (by decide) ?_
                    obtain ⟨hi107, hf⟩ := tg_of hf
                    refine va_iast (f := s_95.2.1 10) hx hb hK hP (cwR_D hd) hS 11 10 rfl rfl hi107 d_R_street_159 (fun H locs hP _ hS => ?_)
                    replace hP : va_P D clS (cwR ad ta (tI (tI (tI (tI (tI (tI (tF s_95 0 (2 : Int32)) 3 ((s_95.1 3).toNatClampNeg) p0) 4 ((s_95.1 3).toNatClampNeg) p1) 5 ((s_95.1 3).toNatClampNeg) p2) 6 ((s_95.1 3).toNatClampNeg) p3) 7 ((s_95.1 3).toNatClampNeg) p4) 10 ((s_95.1 3).toNatClampNeg) ((-1) : Int32))) H := hP
                    refine lv_aload_n hx hb d_R_street_160 rfl (lv_at hl 1 rfl) ?_
                    refine lv_dup hx hb d_R_street_161 rfl ?_
                    refine va_get (ci := 8) (v := .int (s_95.1 3)) (C := R_R) (T := F_R) (N := 32) hx hb ht iw_R hown hK hP 0 rfl rfl 3 (by decide) (ht _ wd_680) (fun _ h9 => h9) rfl d_R_street_162 ?_
                    refine lv_iconst (v := (1 : Int32)) hx hb d_R_street_165 (by decide) ?_
                    refine lv_iadd hx hb d_R_street_166 ?_
                    refine va_put (ci := 8) (v := .int ((s_95.1 3) + (1 : Int32))) (ty := .int) (C := R_R) (T := F_R) (N := 32) hx hb ht iw_R ft_R to_R nm_R hown hK hP (cwR_D hd) hS 0 rfl rfl 3 (by decide) (ht _ wd_680) (fun _ h9 => h9) rfl (by decide +kernel) rfl rfl (Nat.le_of_ble_eq_true rfl) d_R_street_167 (fun H locs hP _ hS => ?_)
                    replace hP : va_P D clS (cwR ad ta (tF (tI (tI (tI (tI (tI (tI (tF s_95 0 (2 : Int32)) 3 ((s_95.1 3).toNatClampNeg) p0) 4 ((s_95.1 3).toNatClampNeg) p1) 5 ((s_95.1 3).toNatClampNeg) p2) 6 ((s_95.1 3).toNatClampNeg) p3) 7 ((s_95.1 3).toNatClampNeg) p4) 10 ((s_95.1 3).toNatClampNeg) ((-1) : Int32)) 3 ((s_95.1 3) + (1 : Int32)))) H := hP
                    refine lv_aload_n hx hb d_R_street_170 rfl (lv_at hl 1 rfl) ?_
                    refine va_get (ci := 8) (v := .int ((s_95.1 3) + (1 : Int32))) (C := R_R) (T := F_R) (N := 32) hx hb ht iw_R hown hK hP 0 rfl rfl 3 (by decide) (ht _ wd_680) (fun _ h9 => h9) rfl d_R_street_171 ?_
                    refine lv_iconst (v := (1 : Int32)) hx hb d_R_street_174 (by decide) ?_
                    refine lv_isub hx hb d_R_street_175 ?_
                    obtain ⟨rfl, rfl⟩ := tp_of hf
                    exact W.iret (v := (((s_95.1 3) + (1 : Int32)) - (1 : Int32))) hx hb hr (fun t ht hW => ⟨rfl, by rw [ht]; exact hP, hS.F ht⟩) hS.2.2 d_R_street_176
                  · replace hf := ti_neg hc hf
                    refine lv_iconst (v := (0 : Int32)) hx hb d_R_street_96 (by decide) ?_
                    obtain ⟨rfl, rfl⟩ := tp_of hf
                    exact W.iret (v := (0 : Int32)) hx hb hr (fun t ht hW => ⟨rfl, by rw [ht]; exact hP, hS.F ht⟩) hS.2.2 d_R_street_97
              · replace hf := ti_pos hc hf
                refine lv_iconst (v := (1 : Int32)) hx hb d_R_street_68 (by decide) ?_
                refine lv_goto (tgt := 86) hx hb d_R_street_69 (by decide) ?_
                refine va_put (ci := 8) (v := .int (1 : Int32)) (ty := .int) (C := R_R) (T := F_R) (N := 32) hx hb ht iw_R ft_R to_R nm_R hown hK hP (cwR_D hd) hS 0 rfl rfl 0 (by decide) (ht _ wd_677) (fun _ h9 => h9) rfl (by decide +kernel) rfl rfl (Nat.le_of_ble_eq_true rfl) d_R_street_86 (fun H locs hP _ hS => ?_)
                replace hP : va_P D clS (cwR ad ta (tF s_95 0 (1 : Int32))) H := hP
                refine lv_aload_n hx hb d_R_street_89 rfl (lv_at hl 1 rfl) ?_
                refine va_get (ci := 8) (v := .int (1 : Int32)) (C := R_R) (T := F_R) (N := 32) hx hb ht iw_R hown hK hP 0 rfl rfl 0 (by decide) (ht _ wd_677) (fun _ h9 => h9) rfl d_R_street_90 ?_
                refine lv_if_le (tgt := 98) hx hb d_R_street_93 (by decide) (fun hc => ?_) (fun hc => ?_)
                · replace hf := ti_pos hc hf
                  refine lv_aload_n hx hb d_R_street_98 rfl (lv_at hl 1 rfl) ?_
                  refine va_get (ci := 8) (v := .ref (ad 4)) (C := R_R) (T := F_R) (N := 32) hx hb ht iw_R hown hK hP 0 rfl rfl 7 (by decide) (ht _ wd_684) (fun _ h9 => h9) rfl d_R_street_99 ?_
                  refine lv_aload_n hx hb d_R_street_102 rfl (lv_at hl 1 rfl) ?_
                  refine va_get (ci := 8) (v := .int (s_95.1 3)) (C := R_R) (T := F_R) (N := 32) hx hb ht iw_R hown hK hP 0 rfl rfl 3 (by decide) (ht _ wd_680) (fun _ h9 => h9) rfl d_R_street_103 ?_
                  refine lv_iload_n hx hb d_R_street_106 rfl (lv_at hl 2 rfl) ?_
                  obtain ⟨hi108, hf⟩ := tg_of hf
                  refine va_iast (f := s_95.2.1 3) hx hb hK hP (cwR_D hd) hS 4 3 rfl rfl hi108 d_R_street_107 (fun H locs hP _ hS => ?_)
                  replace hP : va_P D clS (cwR ad ta (tI (tF s_95 0 (1 : Int32)) 3 ((s_95.1 3).toNatClampNeg) p0)) H := hP
                  refine lv_aload_n hx hb d_R_street_108 rfl (lv_at hl 1 rfl) ?_
                  refine va_get (ci := 8) (v := .ref (ad 5)) (C := R_R) (T := F_R) (N := 32) hx hb ht iw_R hown hK hP 0 rfl rfl 8 (by decide) (ht _ wd_685) (fun _ h9 => h9) rfl d_R_street_109 ?_
                  refine lv_aload_n hx hb d_R_street_112 rfl (lv_at hl 1 rfl) ?_
                  refine va_get (ci := 8) (v := .int (s_95.1 3)) (C := R_R) (T := F_R) (N := 32) hx hb ht iw_R hown hK hP 0 rfl rfl 3 (by decide) (ht _ wd_680) (fun _ h9 => h9) rfl d_R_street_113 ?_
                  refine lv_iload_n hx hb d_R_street_116 rfl (lv_at hl 3 rfl) ?_
                  obtain ⟨hi109, hf⟩ := tg_of hf
                  refine va_iast (f := s_95.2.1 4) hx hb hK hP (cwR_D hd) hS 5 4 rfl rfl hi109 d_R_street_117 (fun H locs hP _ hS => ?_)
                  replace hP : va_P D clS (cwR ad ta (tI (tI (tF s_95 0 (1 : Int32)) 3 ((s_95.1 3).toNatClampNeg) p0) 4 ((s_95.1 3).toNatClampNeg) p1)) H := hP
                  refine lv_aload_n hx hb d_R_street_118 rfl (lv_at hl 1 rfl) ?_
                  refine va_get (ci := 8) (v := .ref (ad 6)) (C := R_R) (T := F_R) (N := 32) hx hb ht iw_R hown hK hP 0 rfl rfl 9 (by decide) (ht _ wd_686) (fun _ h9 => h9) rfl d_R_street_119 ?_
                  refine lv_aload_n hx hb d_R_street_122 rfl (lv_at hl 1 rfl) ?_
                  refine va_get (ci := 8) (v := .int (s_95.1 3)) (C := R_R) (T := F_R) (N := 32) hx hb ht iw_R hown hK hP 0 rfl rfl 3 (by decide) (ht _ wd_680) (fun _ h9 => h9) rfl d_R_street_123 ?_
                  refine lv_iload_n hx hb d_R_street_126 rfl (lv_at hl 4 rfl) ?_
                  obtain ⟨hi110, hf⟩ := tg_of hf
                  refine va_iast (f := s_95.2.1 5) hx hb hK hP (cwR_D hd) hS 6 5 rfl rfl hi110 d_R_street_127 (fun H locs hP _ hS => ?_)
                  replace hP : va_P D clS (cwR ad ta (tI (tI (tI (tF s_95 0 (1 : Int32)) 3 ((s_95.1 3).toNatClampNeg) p0) 4 ((s_95.1 3).toNatClampNeg) p1) 5 ((s_95.1 3).toNatClampNeg) p2)) H := hP
                  refine lv_aload_n hx hb d_R_street_128 rfl (lv_at hl 1 rfl) ?_
                  refine va_get (ci := 8) (v := .ref (ad 7)) (C := R_R) (T := F_R) (N := 32) hx hb ht iw_R hown hK hP 0 rfl rfl 10 (by decide) (ht _ wd_687) (fun _ h9 => h9) rfl d_R_street_129 ?_
                  refine lv_aload_n hx hb d_R_street_132 rfl (lv_at hl 1 rfl) ?_
                  refine va_get (ci := 8) (v := .int (s_95.1 3)) (C := R_R) (T := F_R) (N := 32) hx hb ht iw_R hown hK hP 0 rfl rfl 3 (by decide) (ht _ wd_680) (fun _ h9 => h9) rfl d_R_street_133 ?_
                  refine lv_iload hx hb d_R_street_136 (lv_at hl 5 rfl) ?_
                  obtain ⟨hi111, hf⟩ := tg_of hf
                  refine va_iast (f := s_95.2.1 6) hx hb hK hP (cwR_D hd) hS 7 6 rfl rfl hi111 d_R_street_138 (fun H locs hP _ hS => ?_)
                  replace hP : va_P D clS (cwR ad ta (tI (tI (tI (tI (tF s_95 0 (1 : Int32)) 3 ((s_95.1 3).toNatClampNeg) p0) 4 ((s_95.1 3).toNatClampNeg) p1) 5 ((s_95.1 3).toNatClampNeg) p2) 6 ((s_95.1 3).toNatClampNeg) p3)) H := hP
                  refine lv_aload_n hx hb d_R_street_139 rfl (lv_at hl 1 rfl) ?_
                  refine va_get (ci := 8) (v := .ref (ad 8)) (C := R_R) (T := F_R) (N := 32) hx hb ht iw_R hown hK hP 0 rfl rfl 11 (by decide) (ht _ wd_688) (fun _ h9 => h9) rfl d_R_street_140 ?_
                  refine lv_aload_n hx hb d_R_street_143 rfl (lv_at hl 1 rfl) ?_
                  refine va_get (ci := 8) (v := .int (s_95.1 3)) (C := R_R) (T := F_R) (N := 32) hx hb ht iw_R hown hK hP 0 rfl rfl 3 (by decide) (ht _ wd_680) (fun _ h9 => h9) rfl d_R_street_144 ?_
                  refine lv_iload hx hb d_R_street_147 (lv_at hl 6 rfl) ?_
                  obtain ⟨hi112, hf⟩ := tg_of hf
                  refine va_iast (f := s_95.2.1 7) hx hb hK hP (cwR_D hd) hS 8 7 rfl rfl hi112 d_R_street_149 (fun H locs hP _ hS => ?_)
                  replace hP : va_P D clS (cwR ad ta (tI (tI (tI (tI (tI (tF s_95 0 (1 : Int32)) 3 ((s_95.1 3).toNatClampNeg) p0) 4 ((s_95.1 3).toNatClampNeg) p1) 5 ((s_95.1 3).toNatClampNeg) p2) 6 ((s_95.1 3).toNatClampNeg) p3) 7 ((s_95.1 3).toNatClampNeg) p4)) H := hP
                  refine lv_aload_n hx hb d_R_street_150 rfl (lv_at hl 1 rfl) ?_
                  refine va_get (ci := 8) (v := .ref (ad 11)) (C := R_R) (T := F_R) (N := 32) hx hb ht iw_R hown hK hP 0 rfl rfl 14 (by decide) (ht _ wd_691) (fun _ h9 => h9) rfl d_R_street_151 ?_
                  refine lv_aload_n hx hb d_R_street_154 rfl (lv_at hl 1 rfl) ?_
                  refine va_get (ci := 8) (v := .int (s_95.1 3)) (C := R_R) (T := F_R) (N := 32) hx hb ht iw_R hown hK hP 0 rfl rfl 3 (by decide) (ht _ wd_680) (fun _ h9 => h9) rfl d_R_street_155 ?_
                  refine lv_iconst (v := ((-1) : Int32)) hx hb d_R_street_158 (by decide) ?_
                  obtain ⟨hi113, hf⟩ := tg_of hf
                  refine va_iast (f := s_95.2.1 10) hx hb hK hP (cwR_D hd) hS 11 10 rfl rfl hi113 d_R_street_159 (fun H locs hP _ hS => ?_)
                  replace hP : va_P D clS (cwR ad ta (tI (tI (tI (tI (tI (tI (tF s_95 0 (1 : Int32)) 3 ((s_95.1 3).toNatClampNeg) p0) 4 ((s_95.1 3).toNatClampNeg) p1) 5 ((s_95.1 3).toNatClampNeg) p2) 6 ((s_95.1 3).toNatClampNeg) p3) 7 ((s_95.1 3).toNatClampNeg) p4) 10 ((s_95.1 3).toNatClampNeg) ((-1) : Int32))) H := hP
                  refine lv_aload_n hx hb d_R_street_160 rfl (lv_at hl 1 rfl) ?_
                  refine lv_dup hx hb d_R_street_161 rfl ?_
                  refine va_get (ci := 8) (v := .int (s_95.1 3)) (C := R_R) (T := F_R) (N := 32) hx hb ht iw_R hown hK hP 0 rfl rfl 3 (by decide) (ht _ wd_680) (fun _ h9 => h9) rfl d_R_street_162 ?_
                  refine lv_iconst (v := (1 : Int32)) hx hb d_R_street_165 (by decide) ?_
                  refine lv_iadd hx hb d_R_street_166 ?_
                  refine va_put (ci := 8) (v := .int ((s_95.1 3) + (1 : Int32))) (ty := .int) (C := R_R) (T := F_R) (N := 32) hx hb ht iw_R ft_R to_R nm_R hown hK hP (cwR_D hd) hS 0 rfl rfl 3 (by decide) (ht _ wd_680) (fun _ h9 => h9) rfl (by decide +kernel) rfl rfl (Nat.le_of_ble_eq_true rfl) d_R_street_167 (fun H locs hP _ hS => ?_)
                  replace hP : va_P D clS (cwR ad ta (tF (tI (tI (tI (tI (tI (tI (tF s_95 0 (1 : Int32)) 3 ((s_95.1 3).toNatClampNeg) p0) 4 ((s_95.1 3).toNatClampNeg) p1) 5 ((s_95.1 3).toNatClampNeg) p2) 6 ((s_95.1 3).toNatClampNeg) p3) 7 ((s_95.1 3).toNatClampNeg) p4) 10 ((s_95.1 3).toNatClampNeg) ((-1) : Int32)) 3 ((s_95.1 3) + (1 : Int32)))) H := hP
                  refine lv_aload_n hx hb d_R_street_170 rfl (lv_at hl 1 rfl) ?_
                  refine va_get (ci := 8) (v := .int ((s_95.1 3) + (1 : Int32))) (C := R_R) (T := F_R) (N := 32) hx hb ht iw_R hown hK hP 0 rfl rfl 3 (by decide) (ht _ wd_680) (fun _ h9 => h9) rfl d_R_street_171 ?_
                  refine lv_iconst (v := (1 : Int32)) hx hb d_R_street_174 (by decide) ?_
                  refine lv_isub hx hb d_R_street_175 ?_
                  obtain ⟨rfl, rfl⟩ := tp_of hf
                  exact W.iret (v := (((s_95.1 3) + (1 : Int32)) - (1 : Int32))) hx hb hr (fun t ht hW => ⟨rfl, by rw [ht]; exact hP, hS.F ht⟩) hS.2.2 d_R_street_176
                · replace hf := ti_neg hc hf
                  refine lv_iconst (v := (0 : Int32)) hx hb d_R_street_96 (by decide) ?_
                  obtain ⟨rfl, rfl⟩ := tp_of hf
                  exact W.iret (v := (0 : Int32)) hx hb hr (fun t ht hW => ⟨rfl, by rw [ht]; exact hP, hS.F ht⟩) hS.2.2 d_R_street_97
            · replace hf := ti_neg hc hf
              refine lv_iconst (v := (1 : Int32)) hx hb d_R_street_55 (by decide) ?_
              refine lv_goto (tgt := 60) hx hb d_R_street_56 (by decide) ?_
              refine lv_istore (lv' := [(6, .int (1 : Int32)), (0, .ref (ad 0)), (1, .int p0), (2, .int p1), (3, .int p2), (4, .int p3), (5, .int p4)]) hx hb d_R_street_60 hl (by decide) rfl (fun ls hl => ?_)
              refine lv_aload_n hx hb d_R_street_62 rfl (lv_at hl 1 rfl) ?_
              refine lv_iload hx hb d_R_street_63 (lv_at hl 0 rfl) ?_
              refine lv_if_ne (tgt := 72) hx hb d_R_street_65 (by decide) (fun hc => ?_) (fun hc => ?_)
              · replace hf := ti_neg hc hf
                refine lv_aload_n hx hb d_R_street_72 rfl (lv_at hl 1 rfl) ?_
                refine va_get (ci := 8) (v := .int (s_95.1 3)) (C := R_R) (T := F_R) (N := 32) hx hb ht iw_R hown hK hP 0 rfl rfl 3 (by decide) (ht _ wd_680) (fun _ h9 => h9) rfl d_R_street_73 ?_
                refine lv_bipush (v := (40 : Int32)) hx hb d_R_street_76 (by decide) ?_
                refine lv_icmp_ne (tgt := 85) hx hb d_R_street_78 (by decide) (fun hc => ?_) (fun hc => ?_)
                · replace hf := ti_neg hc hf
                  refine lv_iconst (v := (0 : Int32)) hx hb d_R_street_85 (by decide) ?_
                  refine va_put (ci := 8) (v := .int (0 : Int32)) (ty := .int) (C := R_R) (T := F_R) (N := 32) hx hb ht iw_R ft_R to_R nm_R hown hK hP (cwR_D hd) hS 0 rfl rfl 0 (by decide) (ht _ wd_677) (fun _ h9 => h9) rfl (by decide +kernel) rfl rfl (Nat.le_of_ble_eq_true rfl) d_R_street_86 (fun H locs hP _ hS => ?_)
                  replace hP : va_P D clS (cwR ad ta (tF s_95 0 (0 : Int32))) H := hP
                  refine lv_aload_n hx hb d_R_street_89 rfl (lv_at hl 1 rfl) ?_
                  refine va_get (ci := 8) (v := .int (0 : Int32)) (C := R_R) (T := F_R) (N := 32) hx hb ht iw_R hown hK hP 0 rfl rfl 0 (by decide) (ht _ wd_677) (fun _ h9 => h9) rfl d_R_street_90 ?_
                  refine lv_if_le (tgt := 98) hx hb d_R_street_93 (by decide) (fun hc => ?_) (fun hc => ?_)
                  · replace hf := ti_pos hc hf
                    refine lv_aload_n hx hb d_R_street_98 rfl (lv_at hl 1 rfl) ?_
                    refine va_get (ci := 8) (v := .ref (ad 4)) (C := R_R) (T := F_R) (N := 32) hx hb ht iw_R hown hK hP 0 rfl rfl 7 (by decide) (ht _ wd_684) (fun _ h9 => h9) rfl d_R_street_99 ?_
                    refine lv_aload_n hx hb d_R_street_102 rfl (lv_at hl 1 rfl) ?_
                    refine va_get (ci := 8) (v := .int (s_95.1 3)) (C := R_R) (T := F_R) (N := 32) hx hb ht iw_R hown hK hP 0 rfl rfl 3 (by decide) (ht _ wd_680) (fun _ h9 => h9) rfl d_R_street_103 ?_
                    refine lv_iload_n hx hb d_R_street_106 rfl (lv_at hl 2 rfl) ?_
                    obtain ⟨hi114, hf⟩ := tg_of hf
                    refine va_iast (f := s_95.2.1 3) hx hb hK hP (cwR_D hd) hS 4 3 rfl rfl hi114 d_R_street_107 (fun H locs hP _ hS => ?_)
                    replace hP : va_P D clS (cwR ad ta (tI (tF s_95 0 (0 : Int32)) 3 ((s_95.1 3).toNatClampNeg) p0)) H := hP
                    refine lv_aload_n hx hb d_R_street_108 rfl (lv_at hl 1 rfl) ?_
                    refine va_get (ci := 8) (v := .ref (ad 5)) (C := R_R) (T := F_R) (N := 32) hx hb ht iw_R hown hK hP 0 rfl rfl 8 (by decide) (ht _ wd_685) (fun _ h9 => h9) rfl d_R_street_109 ?_
                    refine lv_aload_n hx hb d_R_street_112 rfl (lv_at hl 1 rfl) ?_
                    refine va_get (ci := 8) (v := .int (s_95.1 3)) (C := R_R) (T := F_R) (N := 32) hx hb ht iw_R hown hK hP 0 rfl rfl 3 (by decide) (ht _ wd_680) (fun _ h9 => h9) rfl d_R_street_113 ?_
                    refine lv_iload_n hx hb d_R_street_116 rfl (lv_at hl 3 rfl) ?_
                    obtain ⟨hi115, hf⟩ := tg_of hf
                    refine va_iast (f := s_95.2.1 4) hx hb hK hP (cwR_D hd) hS 5 4 rfl rfl hi115 d_R_street_117 (fun H locs hP _ hS => ?_)
                    replace hP : va_P D clS (cwR ad ta (tI (tI (tF s_95 0 (0 : Int32)) 3 ((s_95.1 3).toNatClampNeg) p0) 4 ((s_95.1 3).toNatClampNeg) p1)) H := hP
                    refine lv_aload_n hx hb d_R_street_118 rfl (lv_at hl 1 rfl) ?_
                    refine va_get (ci := 8) (v := .ref (ad 6)) (C := R_R) (T := F_R) (N := 32) hx hb ht iw_R hown hK hP 0 rfl rfl 9 (by decide) (ht _ wd_686) (fun _ h9 => h9) rfl d_R_street_119 ?_
                    refine lv_aload_n hx hb d_R_street_122 rfl (lv_at hl 1 rfl) ?_
                    refine va_get (ci := 8) (v := .int (s_95.1 3)) (C := R_R) (T := F_R) (N := 32) hx hb ht iw_R hown hK hP 0 rfl rfl 3 (by decide) (ht _ wd_680) (fun _ h9 => h9) rfl d_R_street_123 ?_
                    refine lv_iload_n hx hb d_R_street_126 rfl (lv_at hl 4 rfl) ?_
                    obtain ⟨hi116, hf⟩ := tg_of hf
                    refine va_iast (f := s_95.2.1 5) hx hb hK hP (cwR_D hd) hS 6 5 rfl rfl hi116 d_R_street_127 (fun H locs hP _ hS => ?_)
                    replace hP : va_P D clS (cwR ad ta (tI (tI (tI (tF s_95 0 (0 : Int32)) 3 ((s_95.1 3).toNatClampNeg) p0) 4 ((s_95.1 3).toNatClampNeg) p1) 5 ((s_95.1 3).toNatClampNeg) p2)) H := hP
                    refine lv_aload_n hx hb d_R_street_128 rfl (lv_at hl 1 rfl) ?_
                    refine va_get (ci := 8) (v := .ref (ad 7)) (C := R_R) (T := F_R) (N := 32) hx hb ht iw_R hown hK hP 0 rfl rfl 10 (by decide) (ht _ wd_687) (fun _ h9 => h9) rfl d_R_street_129 ?_
                    refine lv_aload_n hx hb d_R_street_132 rfl (lv_at hl 1 rfl) ?_
                    refine va_get (ci := 8) (v := .int (s_95.1 3)) (C := R_R) (T := F_R) (N := 32) hx hb ht iw_R hown hK hP 0 rfl rfl 3 (by decide) (ht _ wd_680) (fun _ h9 => h9) rfl d_R_street_133 ?_
                    refine lv_iload hx hb d_R_street_136 (lv_at hl 5 rfl) ?_
                    obtain ⟨hi117, hf⟩ := tg_of hf
                    refine va_iast (f := s_95.2.1 6) hx hb hK hP (cwR_D hd) hS 7 6 rfl rfl hi117 d_R_street_138 (fun H locs hP _ hS => ?_)
                    replace hP : va_P D clS (cwR ad ta (tI (tI (tI (tI (tF s_95 0 (0 : Int32)) 3 ((s_95.1 3).toNatClampNeg) p0) 4 ((s_95.1 3).toNatClampNeg) p1) 5 ((s_95.1 3).toNatClampNeg) p2) 6 ((s_95.1 3).toNatClampNeg) p3)) H := hP
                    refine lv_aload_n hx hb d_R_street_139 rfl (lv_at hl 1 rfl) ?_
                    refine va_get (ci := 8) (v := .ref (ad 8)) (C := R_R) (T := F_R) (N := 32) hx hb ht iw_R hown hK hP 0 rfl rfl 11 (by decide) (ht _ wd_688) (fun _ h9 => h9) rfl d_R_street_140 ?_
                    refine lv_aload_n hx hb d_R_street_143 rfl (lv_at hl 1 rfl) ?_
                    refine va_get (ci := 8) (v := .int (s_95.1 3)) (C := R_R) (T := F_R) (N := 32) hx hb ht iw_R hown hK hP 0 rfl rfl 3 (by decide) (ht _ wd_680) (fun _ h9 => h9) rfl d_R_street_144 ?_
                    refine lv_iload hx hb d_R_street_147 (lv_at hl 6 rfl) ?_
                    obtain ⟨hi118, hf⟩ := tg_of hf
                    refine va_iast (f := s_95.2.1 7) hx hb hK hP (cwR_D hd) hS 8 7 rfl rfl hi118 d_R_street_149 (fun H locs hP _ hS => ?_)
                    replace hP : va_P D clS (cwR ad ta (tI (tI (tI (tI (tI (tF s_95 0 (0 : Int32)) 3 ((s_95.1 3).toNatClampNeg) p0) 4 ((s_95.1 3).toNatClampNeg) p1) 5 ((s_95.1 3).toNatClampNeg) p2) 6 ((s_95.1 3).toNatClampNeg) p3) 7 ((s_95.1 3).toNatClampNeg) p4)) H := hP
                    refine lv_aload_n hx hb d_R_street_150 rfl (lv_at hl 1 rfl) ?_
                    refine va_get (ci := 8) (v := .ref (ad 11)) (C := R_R) (T := F_R) (N := 32) hx hb ht iw_R hown hK hP 0 rfl rfl 14 (by decide) (ht _ wd_691) (fun _ h9 => h9) rfl d_R_street_151 ?_
                    refine lv_aload_n hx hb d_R_street_154 rfl (lv_at hl 1 rfl) ?_
                    refine va_get (ci := 8) (v := .int (s_95.1 3)) (C := R_R) (T := F_R) (N := 32) hx hb ht iw_R hown hK hP 0 rfl rfl 3 (by decide) (ht _ wd_680) (fun _ h9 => h9) rfl d_R_street_155 ?_
                    refine lv_iconst (v := ((-1) : Int32)) hx hb d_R_street_158 (by decide) ?_
                    obtain ⟨hi119, hf⟩ := tg_of hf
                    refine va_iast (f := s_95.2.1 10) hx hb hK hP (cwR_D hd) hS 11 10 rfl rfl hi119 d_R_street_159 (fun H locs hP _ hS => ?_)
                    replace hP : va_P D clS (cwR ad ta (tI (tI (tI (tI (tI (tI (tF s_95 0 (0 : Int32)) 3 ((s_95.1 3).toNatClampNeg) p0) 4 ((s_95.1 3).toNatClampNeg) p1) 5 ((s_95.1 3).toNatClampNeg) p2) 6 ((s_95.1 3).toNatClampNeg) p3) 7 ((s_95.1 3).toNatClampNeg) p4) 10 ((s_95.1 3).toNatClampNeg) ((-1) : Int32))) H := hP
                    refine lv_aload_n hx hb d_R_street_160 rfl (lv_at hl 1 rfl) ?_
                    refine lv_dup hx hb d_R_street_161 rfl ?_
                    refine va_get (ci := 8) (v := .int (s_95.1 3)) (C := R_R) (T := F_R) (N := 32) hx hb ht iw_R hown hK hP 0 rfl rfl 3 (by decide) (ht _ wd_680) (fun _ h9 => h9) rfl d_R_street_162 ?_
                    refine lv_iconst (v := (1 : Int32)) hx hb d_R_street_165 (by decide) ?_
                    refine lv_iadd hx hb d_R_street_166 ?_
                    refine va_put (ci := 8) (v := .int ((s_95.1 3) + (1 : Int32))) (ty := .int) (C := R_R) (T := F_R) (N := 32) hx hb ht iw_R ft_R to_R nm_R hown hK hP (cwR_D hd) hS 0 rfl rfl 3 (by decide) (ht _ wd_680) (fun _ h9 => h9) rfl (by decide +kernel) rfl rfl (Nat.le_of_ble_eq_true rfl) d_R_street_167 (fun H locs hP _ hS => ?_)
                    replace hP : va_P D clS (cwR ad ta (tF (tI (tI (tI (tI (tI (tI (tF s_95 0 (0 : Int32)) 3 ((s_95.1 3).toNatClampNeg) p0) 4 ((s_95.1 3).toNatClampNeg) p1) 5 ((s_95.1 3).toNatClampNeg) p2) 6 ((s_95.1 3).toNatClampNeg) p3) 7 ((s_95.1 3).toNatClampNeg) p4) 10 ((s_95.1 3).toNatClampNeg) ((-1) : Int32)) 3 ((s_95.1 3) + (1 : Int32)))) H := hP
                    refine lv_aload_n hx hb d_R_street_170 rfl (lv_at hl 1 rfl) ?_
                    refine va_get (ci := 8) (v := .int ((s_95.1 3) + (1 : Int32))) (C := R_R) (T := F_R) (N := 32) hx hb ht iw_R hown hK hP 0 rfl rfl 3 (by decide) (ht _ wd_680) (fun _ h9 => h9) rfl d_R_street_171 ?_
                    refine lv_iconst (v := (1 : Int32)) hx hb d_R_street_174 (by decide) ?_
                    refine lv_isub hx hb d_R_street_175 ?_
                    obtain ⟨rfl, rfl⟩ := tp_of hf
                    exact W.iret (v := (((s_95.1 3) + (1 : Int32)) - (1 : Int32))) hx hb hr (fun t ht hW => ⟨rfl, by rw [ht]; exact hP, hS.F ht⟩) hS.2.2 d_R_street_176
                  · replace hf := ti_neg hc hf
                    refine lv_iconst (v := (0 : Int32)) hx hb d_R_street_96 (by decide) ?_
                    obtain ⟨rfl, rfl⟩ := tp_of hf
                    exact W.iret (v := (0 : Int32)) hx hb hr (fun t ht hW => ⟨rfl, by rw [ht]; exact hP, hS.F ht⟩) hS.2.2 d_R_street_97
                · replace hf := ti_pos hc hf
                  refine lv_iconst (v := (2 : Int32)) hx hb d_R_street_81 (by decide) ?_
                  refine lv_goto (tgt := 86) hx hb d_R_street_82 (by decide) ?_
                  refine va_put (ci := 8) (v := .int (2 : Int32)) (ty := .int) (C := R_R) (T := F_R) (N := 32) hx hb ht iw_R ft_R to_R nm_R hown hK hP (cwR_D hd) hS 0 rfl rfl 0 (by decide) (ht _ wd_677) (fun _ h9 => h9) rfl (by decide +kernel) rfl rfl (Nat.le_of_ble_eq_true rfl) d_R_street_86 (fun H locs hP _ hS => ?_)
                  replace hP : va_P D clS (cwR ad ta (tF s_95 0 (2 : Int32))) H := hP
                  refine lv_aload_n hx hb d_R_street_89 rfl (lv_at hl 1 rfl) ?_
                  refine va_get (ci := 8) (v := .int (2 : Int32)) (C := R_R) (T := F_R) (N := 32) hx hb ht iw_R hown hK hP 0 rfl rfl 0 (by decide) (ht _ wd_677) (fun _ h9 => h9) rfl d_R_street_90 ?_
                  refine lv_if_le (tgt := 98) hx hb d_R_street_93 (by decide) (fun hc => ?_) (fun hc => ?_)
                  · replace hf := ti_pos hc hf
                    refine lv_aload_n hx hb d_R_street_98 rfl (lv_at hl 1 rfl) ?_
                    refine va_get (ci := 8) (v := .ref (ad 4)) (C := R_R) (T := F_R) (N := 32) hx hb ht iw_R hown hK hP 0 rfl rfl 7 (by decide) (ht _ wd_684) (fun _ h9 => h9) rfl d_R_street_99 ?_
                    refine lv_aload_n hx hb d_R_street_102 rfl (lv_at hl 1 rfl) ?_
                    refine va_get (ci := 8) (v := .int (s_95.1 3)) (C := R_R) (T := F_R) (N := 32) hx hb ht iw_R hown hK hP 0 rfl rfl 3 (by decide) (ht _ wd_680) (fun _ h9 => h9) rfl d_R_street_103 ?_
                    refine lv_iload_n hx hb d_R_street_106 rfl (lv_at hl 2 rfl) ?_
                    obtain ⟨hi120, hf⟩ := tg_of hf
                    refine va_iast (f := s_95.2.1 3) hx hb hK hP (cwR_D hd) hS 4 3 rfl rfl hi120 d_R_street_107 (fun H locs hP _ hS => ?_)
                    replace hP : va_P D clS (cwR ad ta (tI (tF s_95 0 (2 : Int32)) 3 ((s_95.1 3).toNatClampNeg) p0)) H := hP
                    refine lv_aload_n hx hb d_R_street_108 rfl (lv_at hl 1 rfl) ?_
                    refine va_get (ci := 8) (v := .ref (ad 5)) (C := R_R) (T := F_R) (N := 32) hx hb ht iw_R hown hK hP 0 rfl rfl 8 (by decide) (ht _ wd_685) (fun _ h9 => h9) rfl d_R_street_109 ?_
                    refine lv_aload_n hx hb d_R_street_112 rfl (lv_at hl 1 rfl) ?_
                    refine va_get (ci := 8) (v := .int (s_95.1 3)) (C := R_R) (T := F_R) (N := 32) hx hb ht iw_R hown hK hP 0 rfl rfl 3 (by decide) (ht _ wd_680) (fun _ h9 => h9) rfl d_R_street_113 ?_
                    refine lv_iload_n hx hb d_R_street_116 rfl (lv_at hl 3 rfl) ?_
                    obtain ⟨hi121, hf⟩ := tg_of hf
                    refine va_iast (f := s_95.2.1 4) hx hb hK hP (cwR_D hd) hS 5 4 rfl rfl hi121 d_R_street_117 (fun H locs hP _ hS => ?_)
                    replace hP : va_P D clS (cwR ad ta (tI (tI (tF s_95 0 (2 : Int32)) 3 ((s_95.1 3).toNatClampNeg) p0) 4 ((s_95.1 3).toNatClampNeg) p1)) H := hP
                    refine lv_aload_n hx hb d_R_street_118 rfl (lv_at hl 1 rfl) ?_
                    refine va_get (ci := 8) (v := .ref (ad 6)) (C := R_R) (T := F_R) (N := 32) hx hb ht iw_R hown hK hP 0 rfl rfl 9 (by decide) (ht _ wd_686) (fun _ h9 => h9) rfl d_R_street_119 ?_
                    refine lv_aload_n hx hb d_R_street_122 rfl (lv_at hl 1 rfl) ?_
                    refine va_get (ci := 8) (v := .int (s_95.1 3)) (C := R_R) (T := F_R) (N := 32) hx hb ht iw_R hown hK hP 0 rfl rfl 3 (by decide) (ht _ wd_680) (fun _ h9 => h9) rfl d_R_street_123 ?_
                    refine lv_iload_n hx hb d_R_street_126 rfl (lv_at hl 4 rfl) ?_
                    obtain ⟨hi122, hf⟩ := tg_of hf
                    refine va_iast (f := s_95.2.1 5) hx hb hK hP (cwR_D hd) hS 6 5 rfl rfl hi122 d_R_street_127 (fun H locs hP _ hS => ?_)
                    replace hP : va_P D clS (cwR ad ta (tI (tI (tI (tF s_95 0 (2 : Int32)) 3 ((s_95.1 3).toNatClampNeg) p0) 4 ((s_95.1 3).toNatClampNeg) p1) 5 ((s_95.1 3).toNatClampNeg) p2)) H := hP
                    refine lv_aload_n hx hb d_R_street_128 rfl (lv_at hl 1 rfl) ?_
                    refine va_get (ci := 8) (v := .ref (ad 7)) (C := R_R) (T := F_R) (N := 32) hx hb ht iw_R hown hK hP 0 rfl rfl 10 (by decide) (ht _ wd_687) (fun _ h9 => h9) rfl d_R_street_129 ?_
                    refine lv_aload_n hx hb d_R_street_132 rfl (lv_at hl 1 rfl) ?_
                    refine va_get (ci := 8) (v := .int (s_95.1 3)) (C := R_R) (T := F_R) (N := 32) hx hb ht iw_R hown hK hP 0 rfl rfl 3 (by decide) (ht _ wd_680) (fun _ h9 => h9) rfl d_R_street_133 ?_
                    refine lv_iload hx hb d_R_street_136 (lv_at hl 5 rfl) ?_
                    obtain ⟨hi123, hf⟩ := tg_of hf
                    refine va_iast (f := s_95.2.1 6) hx hb hK hP (cwR_D hd) hS 7 6 rfl rfl hi123 d_R_street_138 (fun H locs hP _ hS => ?_)
                    replace hP : va_P D clS (cwR ad ta (tI (tI (tI (tI (tF s_95 0 (2 : Int32)) 3 ((s_95.1 3).toNatClampNeg) p0) 4 ((s_95.1 3).toNatClampNeg) p1) 5 ((s_95.1 3).toNatClampNeg) p2) 6 ((s_95.1 3).toNatClampNeg) p3)) H := hP
                    refine lv_aload_n hx hb d_R_street_139 rfl (lv_at hl 1 rfl) ?_
                    refine va_get (ci := 8) (v := .ref (ad 8)) (C := R_R) (T := F_R) (N := 32) hx hb ht iw_R hown hK hP 0 rfl rfl 11 (by decide) (ht _ wd_688) (fun _ h9 => h9) rfl d_R_street_140 ?_
                    refine lv_aload_n hx hb d_R_street_143 rfl (lv_at hl 1 rfl) ?_
                    refine va_get (ci := 8) (v := .int (s_95.1 3)) (C := R_R) (T := F_R) (N := 32) hx hb ht iw_R hown hK hP 0 rfl rfl 3 (by decide) (ht _ wd_680) (fun _ h9 => h9) rfl d_R_street_144 ?_
                    refine lv_iload hx hb d_R_street_147 (lv_at hl 6 rfl) ?_
                    obtain ⟨hi124, hf⟩ := tg_of hf
                    refine va_iast (f := s_95.2.1 7) hx hb hK hP (cwR_D hd) hS 8 7 rfl rfl hi124 d_R_street_149 (fun H locs hP _ hS => ?_)
                    replace hP : va_P D clS (cwR ad ta (tI (tI (tI (tI (tI (tF s_95 0 (2 : Int32)) 3 ((s_95.1 3).toNatClampNeg) p0) 4 ((s_95.1 3).toNatClampNeg) p1) 5 ((s_95.1 3).toNatClampNeg) p2) 6 ((s_95.1 3).toNatClampNeg) p3) 7 ((s_95.1 3).toNatClampNeg) p4)) H := hP
                    refine lv_aload_n hx hb d_R_street_150 rfl (lv_at hl 1 rfl) ?_
                    refine va_get (ci := 8) (v := .ref (ad 11)) (C := R_R) (T := F_R) (N := 32) hx hb ht iw_R hown hK hP 0 rfl rfl 14 (by decide) (ht _ wd_691) (fun _ h9 => h9) rfl d_R_street_151 ?_
                    refine lv_aload_n hx hb d_R_street_154 rfl (lv_at hl 1 rfl) ?_
                    refine va_get (ci := 8) (v := .int (s_95.1 3)) (C := R_R) (T := F_R) (N := 32) hx hb ht iw_R hown hK hP 0 rfl rfl 3 (by decide) (ht _ wd_680) (fun _ h9 => h9) rfl d_R_street_155 ?_
                    refine lv_iconst (v := ((-1) : Int32)) hx hb d_R_street_158 (by decide) ?_
                    obtain ⟨hi125, hf⟩ := tg_of hf
                    refine va_iast (f := s_95.2.1 10) hx hb hK hP (cwR_D hd) hS 11 10 rfl rfl hi125 d_R_street_159 (fun H locs hP _ hS => ?_)
                    replace hP : va_P D clS (cwR ad ta (tI (tI (tI (tI (tI (tI (tF s_95 0 (2 : Int32)) 3 ((s_95.1 3).toNatClampNeg) p0) 4 ((s_95.1 3).toNatClampNeg) p1) 5 ((s_95.1 3).toNatClampNeg) p2) 6 ((s_95.1 3).toNatClampNeg) p3) 7 ((s_95.1 3).toNatClampNeg) p4) 10 ((s_95.1 3).toNatClampNeg) ((-1) : Int32))) H := hP
                    refine lv_aload_n hx hb d_R_street_160 rfl (lv_at hl 1 rfl) ?_
                    refine lv_dup hx hb d_R_street_161 rfl ?_
                    refine va_get (ci := 8) (v := .int (s_95.1 3)) (C := R_R) (T := F_R) (N := 32) hx hb ht iw_R hown hK hP 0 rfl rfl 3 (by decide) (ht _ wd_680) (fun _ h9 => h9) rfl d_R_street_162 ?_
                    refine lv_iconst (v := (1 : Int32)) hx hb d_R_street_165 (by decide) ?_
                    refine lv_iadd hx hb d_R_street_166 ?_
                    refine va_put (ci := 8) (v := .int ((s_95.1 3) + (1 : Int32))) (ty := .int) (C := R_R) (T := F_R) (N := 32) hx hb ht iw_R ft_R to_R nm_R hown hK hP (cwR_D hd) hS 0 rfl rfl 3 (by decide) (ht _ wd_680) (fun _ h9 => h9) rfl (by decide +kernel) rfl rfl (Nat.le_of_ble_eq_true rfl) d_R_street_167 (fun H locs hP _ hS => ?_)
                    replace hP : va_P D clS (cwR ad ta (tF (tI (tI (tI (tI (tI (tI (tF s_95 0 (2 : Int32)) 3 ((s_95.1 3).toNatClampNeg) p0) 4 ((s_95.1 3).toNatClampNeg) p1) 5 ((s_95.1 3).toNatClampNeg) p2) 6 ((s_95.1 3).toNatClampNeg) p3) 7 ((s_95.1 3).toNatClampNeg) p4) 10 ((s_95.1 3).toNatClampNeg) ((-1) : Int32)) 3 ((s_95.1 3) + (1 : Int32)))) H := hP
                    refine lv_aload_n hx hb d_R_street_170 rfl (lv_at hl 1 rfl) ?_
                    refine va_get (ci := 8) (v := .int ((s_95.1 3) + (1 : Int32))) (C := R_R) (T := F_R) (N := 32) hx hb ht iw_R hown hK hP 0 rfl rfl 3 (by decide) (ht _ wd_680) (fun _ h9 => h9) rfl d_R_street_171 ?_
                    refine lv_iconst (v := (1 : Int32)) hx hb d_R_street_174 (by decide) ?_
                    refine lv_isub hx hb d_R_street_175 ?_
                    obtain ⟨rfl, rfl⟩ := tp_of hf
                    exact W.iret (v := (((s_95.1 3) + (1 : Int32)) - (1 : Int32))) hx hb hr (fun t ht hW => ⟨rfl, by rw [ht]; exact hP, hS.F ht⟩) hS.2.2 d_R_street_176
                  · replace hf := ti_neg hc hf
                    refine lv_iconst (v := (0 : Int32)) hx hb d_R_street_96 (by decide) ?_
                    obtain ⟨rfl, rfl⟩ := tp_of hf
                    exact W.iret (v := (0 : Int32)) hx hb hr (fun t ht hW => ⟨rfl, by rw [ht]; exact hP, hS.F ht⟩) hS.2.2 d_R_street_97
              · replace hf := ti_pos hc hf
                refine lv_iconst (v := (1 : Int32)) hx hb d_R_street_68 (by decide) ?_
                refine lv_goto (tgt := 86) hx hb d_R_street_69 (by decide) ?_
                refine va_put (ci := 8) (v := .int (1 : Int32)) (ty := .int) (C := R_R) (T := F_R) (N := 32) hx hb ht iw_R ft_R to_R nm_R hown hK hP (cwR_D hd) hS 0 rfl rfl 0 (by decide) (ht _ wd_677) (fun _ h9 => h9) rfl (by decide +kernel) rfl rfl (Nat.le_of_ble_eq_true rfl) d_R_street_86 (fun H locs hP _ hS => ?_)
                replace hP : va_P D clS (cwR ad ta (tF s_95 0 (1 : Int32))) H := hP
                refine lv_aload_n hx hb d_R_street_89 rfl (lv_at hl 1 rfl) ?_
                refine va_get (ci := 8) (v := .int (1 : Int32)) (C := R_R) (T := F_R) (N := 32) hx hb ht iw_R hown hK hP 0 rfl rfl 0 (by decide) (ht _ wd_677) (fun _ h9 => h9) rfl d_R_street_90 ?_
                refine lv_if_le (tgt := 98) hx hb d_R_street_93 (by decide) (fun hc => ?_) (fun hc => ?_)
                · replace hf := ti_pos hc hf
                  refine lv_aload_n hx hb d_R_street_98 rfl (lv_at hl 1 rfl) ?_
                  refine va_get (ci := 8) (v := .ref (ad 4)) (C := R_R) (T := F_R) (N := 32) hx hb ht iw_R hown hK hP 0 rfl rfl 7 (by decide) (ht _ wd_684) (fun _ h9 => h9) rfl d_R_street_99 ?_
                  refine lv_aload_n hx hb d_R_street_102 rfl (lv_at hl 1 rfl) ?_
                  refine va_get (ci := 8) (v := .int (s_95.1 3)) (C := R_R) (T := F_R) (N := 32) hx hb ht iw_R hown hK hP 0 rfl rfl 3 (by decide) (ht _ wd_680) (fun _ h9 => h9) rfl d_R_street_103 ?_
                  refine lv_iload_n hx hb d_R_street_106 rfl (lv_at hl 2 rfl) ?_
                  obtain ⟨hi126, hf⟩ := tg_of hf
                  refine va_iast (f := s_95.2.1 3) hx hb hK hP (cwR_D hd) hS 4 3 rfl rfl hi126 d_R_street_107 (fun H locs hP _ hS => ?_)
                  replace hP : va_P D clS (cwR ad ta (tI (tF s_95 0 (1 : Int32)) 3 ((s_95.1 3).toNatClampNeg) p0)) H := hP
                  refine lv_aload_n hx hb d_R_street_108 rfl (lv_at hl 1 rfl) ?_
                  refine va_get (ci := 8) (v := .ref (ad 5)) (C := R_R) (T := F_R) (N := 32) hx hb ht iw_R hown hK hP 0 rfl rfl 8 (by decide) (ht _ wd_685) (fun _ h9 => h9) rfl d_R_street_109 ?_
                  refine lv_aload_n hx hb d_R_street_112 rfl (lv_at hl 1 rfl) ?_
                  refine va_get (ci := 8) (v := .int (s_95.1 3)) (C := R_R) (T := F_R) (N := 32) hx hb ht iw_R hown hK hP 0 rfl rfl 3 (by decide) (ht _ wd_680) (fun _ h9 => h9) rfl d_R_street_113 ?_
                  refine lv_iload_n hx hb d_R_street_116 rfl (lv_at hl 3 rfl) ?_
                  obtain ⟨hi127, hf⟩ := tg_of hf
                  refine va_iast (f := s_95.2.1 4) hx hb hK hP (cwR_D hd) hS 5 4 rfl rfl hi127 d_R_street_117 (fun H locs hP _ hS => ?_)
                  replace hP : va_P D clS (cwR ad ta (tI (tI (tF s_95 0 (1 : Int32)) 3 ((s_95.1 3).toNatClampNeg) p0) 4 ((s_95.1 3).toNatClampNeg) p1)) H := hP
                  refine lv_aload_n hx hb d_R_street_118 rfl (lv_at hl 1 rfl) ?_
                  refine va_get (ci := 8) (v := .ref (ad 6)) (C := R_R) (T := F_R) (N := 32) hx hb ht iw_R hown hK hP 0 rfl rfl 9 (by decide) (ht _ wd_686) (fun _ h9 => h9) rfl d_R_street_119 ?_
                  refine lv_aload_n hx hb d_R_street_122 rfl (lv_at hl 1 rfl) ?_
                  refine va_get (ci := 8) (v := .int (s_95.1 3)) (C := R_R) (T := F_R) (N := 32) hx hb ht iw_R hown hK hP 0 rfl rfl 3 (by decide) (ht _ wd_680) (fun _ h9 => h9) rfl d_R_street_123 ?_
                  refine lv_iload_n hx hb d_R_street_126 rfl (lv_at hl 4 rfl) ?_
                  obtain ⟨hi128, hf⟩ := tg_of hf
                  refine va_iast (f := s_95.2.1 5) hx hb hK hP (cwR_D hd) hS 6 5 rfl rfl hi128 d_R_street_127 (fun H locs hP _ hS => ?_)
                  replace hP : va_P D clS (cwR ad ta (tI (tI (tI (tF s_95 0 (1 : Int32)) 3 ((s_95.1 3).toNatClampNeg) p0) 4 ((s_95.1 3).toNatClampNeg) p1) 5 ((s_95.1 3).toNatClampNeg) p2)) H := hP
                  refine lv_aload_n hx hb d_R_street_128 rfl (lv_at hl 1 rfl) ?_
                  refine va_get (ci := 8) (v := .ref (ad 7)) (C := R_R) (T := F_R) (N := 32) hx hb ht iw_R hown hK hP 0 rfl rfl 10 (by decide) (ht _ wd_687) (fun _ h9 => h9) rfl d_R_street_129 ?_
                  refine lv_aload_n hx hb d_R_street_132 rfl (lv_at hl 1 rfl) ?_
                  refine va_get (ci := 8) (v := .int (s_95.1 3)) (C := R_R) (T := F_R) (N := 32) hx hb ht iw_R hown hK hP 0 rfl rfl 3 (by decide) (ht _ wd_680) (fun _ h9 => h9) rfl d_R_street_133 ?_
                  refine lv_iload hx hb d_R_street_136 (lv_at hl 5 rfl) ?_
                  obtain ⟨hi129, hf⟩ := tg_of hf
                  refine va_iast (f := s_95.2.1 6) hx hb hK hP (cwR_D hd) hS 7 6 rfl rfl hi129 d_R_street_138 (fun H locs hP _ hS => ?_)
                  replace hP : va_P D clS (cwR ad ta (tI (tI (tI (tI (tF s_95 0 (1 : Int32)) 3 ((s_95.1 3).toNatClampNeg) p0) 4 ((s_95.1 3).toNatClampNeg) p1) 5 ((s_95.1 3).toNatClampNeg) p2) 6 ((s_95.1 3).toNatClampNeg) p3)) H := hP
                  refine lv_aload_n hx hb d_R_street_139 rfl (lv_at hl 1 rfl) ?_
                  refine va_get (ci := 8) (v := .ref (ad 8)) (C := R_R) (T := F_R) (N := 32) hx hb ht iw_R hown hK hP 0 rfl rfl 11 (by decide) (ht _ wd_688) (fun _ h9 => h9) rfl d_R_street_140 ?_
                  refine lv_aload_n hx hb d_R_street_143 rfl (lv_at hl 1 rfl) ?_
                  refine va_get (ci := 8) (v := .int (s_95.1 3)) (C := R_R) (T := F_R) (N := 32) hx hb ht iw_R hown hK hP 0 rfl rfl 3 (by decide) (ht _ wd_680) (fun _ h9 => h9) rfl d_R_street_144 ?_
                  refine lv_iload hx hb d_R_street_147 (lv_at hl 6 rfl) ?_
                  obtain ⟨hi130, hf⟩ := tg_of hf
                  refine va_iast (f := s_95.2.1 7) hx hb hK hP (cwR_D hd) hS 8 7 rfl rfl hi130 d_R_street_149 (fun H locs hP _ hS => ?_)
                  replace hP : va_P D clS (cwR ad ta (tI (tI (tI (tI (tI (tF s_95 0 (1 : Int32)) 3 ((s_95.1 3).toNatClampNeg) p0) 4 ((s_95.1 3).toNatClampNeg) p1) 5 ((s_95.1 3).toNatClampNeg) p2) 6 ((s_95.1 3).toNatClampNeg) p3) 7 ((s_95.1 3).toNatClampNeg) p4)) H := hP
                  refine lv_aload_n hx hb d_R_street_150 rfl (lv_at hl 1 rfl) ?_
                  refine va_get (ci := 8) (v := .ref (ad 11)) (C := R_R) (T := F_R) (N := 32) hx hb ht iw_R hown hK hP 0 rfl rfl 14 (by decide) (ht _ wd_691) (fun _ h9 => h9) rfl d_R_street_151 ?_
                  refine lv_aload_n hx hb d_R_street_154 rfl (lv_at hl 1 rfl) ?_
                  refine va_get (ci := 8) (v := .int (s_95.1 3)) (C := R_R) (T := F_R) (N := 32) hx hb ht iw_R hown hK hP 0 rfl rfl 3 (by decide) (ht _ wd_680) (fun _ h9 => h9) rfl d_R_street_155 ?_
                  refine lv_iconst (v := ((-1) : Int32)) hx hb d_R_street_158 (by decide) ?_
                  obtain ⟨hi131, hf⟩ := tg_of hf
                  refine va_iast (f := s_95.2.1 10) hx hb hK hP (cwR_D hd) hS 11 10 rfl rfl hi131 d_R_street_159 (fun H locs hP _ hS => ?_)
                  replace hP : va_P D clS (cwR ad ta (tI (tI (tI (tI (tI (tI (tF s_95 0 (1 : Int32)) 3 ((s_95.1 3).toNatClampNeg) p0) 4 ((s_95.1 3).toNatClampNeg) p1) 5 ((s_95.1 3).toNatClampNeg) p2) 6 ((s_95.1 3).toNatClampNeg) p3) 7 ((s_95.1 3).toNatClampNeg) p4) 10 ((s_95.1 3).toNatClampNeg) ((-1) : Int32))) H := hP
                  refine lv_aload_n hx hb d_R_street_160 rfl (lv_at hl 1 rfl) ?_
                  refine lv_dup hx hb d_R_street_161 rfl ?_
                  refine va_get (ci := 8) (v := .int (s_95.1 3)) (C := R_R) (T := F_R) (N := 32) hx hb ht iw_R hown hK hP 0 rfl rfl 3 (by decide) (ht _ wd_680) (fun _ h9 => h9) rfl d_R_street_162 ?_
                  refine lv_iconst (v := (1 : Int32)) hx hb d_R_street_165 (by decide) ?_
                  refine lv_iadd hx hb d_R_street_166 ?_
                  refine va_put (ci := 8) (v := .int ((s_95.1 3) + (1 : Int32))) (ty := .int) (C := R_R) (T := F_R) (N := 32) hx hb ht iw_R ft_R to_R nm_R hown hK hP (cwR_D hd) hS 0 rfl rfl 3 (by decide) (ht _ wd_680) (fun _ h9 => h9) rfl (by decide +kernel) rfl rfl (Nat.le_of_ble_eq_true rfl) d_R_street_167 (fun H locs hP _ hS => ?_)
                  replace hP : va_P D clS (cwR ad ta (tF (tI (tI (tI (tI (tI (tI (tF s_95 0 (1 : Int32)) 3 ((s_95.1 3).toNatClampNeg) p0) 4 ((s_95.1 3).toNatClampNeg) p1) 5 ((s_95.1 3).toNatClampNeg) p2) 6 ((s_95.1 3).toNatClampNeg) p3) 7 ((s_95.1 3).toNatClampNeg) p4) 10 ((s_95.1 3).toNatClampNeg) ((-1) : Int32)) 3 ((s_95.1 3) + (1 : Int32)))) H := hP
                  refine lv_aload_n hx hb d_R_street_170 rfl (lv_at hl 1 rfl) ?_
                  refine va_get (ci := 8) (v := .int ((s_95.1 3) + (1 : Int32))) (C := R_R) (T := F_R) (N := 32) hx hb ht iw_R hown hK hP 0 rfl rfl 3 (by decide) (ht _ wd_680) (fun _ h9 => h9) rfl d_R_street_171 ?_
                  refine lv_iconst (v := (1 : Int32)) hx hb d_R_street_174 (by decide) ?_
                  refine lv_isub hx hb d_R_street_175 ?_
                  obtain ⟨rfl, rfl⟩ := tp_of hf
                  exact W.iret (v := (((s_95.1 3) + (1 : Int32)) - (1 : Int32))) hx hb hr (fun t ht hW => ⟨rfl, by rw [ht]; exact hP, hS.F ht⟩) hS.2.2 d_R_street_176
                · replace hf := ti_neg hc hf
                  refine lv_iconst (v := (0 : Int32)) hx hb d_R_street_96 (by decide) ?_
                  obtain ⟨rfl, rfl⟩ := tp_of hf
                  exact W.iret (v := (0 : Int32)) hx hb hr (fun t ht hW => ⟨rfl, by rw [ht]; exact hP, hS.F ht⟩) hS.2.2 d_R_street_97
