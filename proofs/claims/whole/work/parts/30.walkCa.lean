abbrev rm_T_node : Room := { frames := 0, cells := 0, slots := 0, locals := 0 }
set_option maxHeartbeats 4000000 in
set_option maxRecDepth 100000 in
theorem mc_T_node (l : Launch) {D : va_G} {ad : Nat → Nat} {ta : Nat → ClassId} (hd : tD 37 ad) {σ σ' : tS}  {r : Int32} (hf : mf_T_node  σ = some (r, σ')) : Met l y_T_node (.code y_T_node b_T_node 1 (some .int) :: tw) rm_T_node (tP D clS (tyC ta) (cwC ad ta σ) [.ref (ad 0)]) (tQ D clS (cwC ad ta σ') (some (.int r)) (tA 37 ad)) 0 0 (tA 37 ad) := by
  refine Met.ofW (cc := b_T_node) (maxL := 1) (ret := (some .int)) (by decide) rfl ?_
  intro p e s m args below meth c s₁ B hml hv
  obtain ⟨rfl, hP, hK, hN⟩ := hv
  have hx := B.exec
  have hb := B.bytes
  have hr := B.returns
  have ht : ∀ w ∈ tw, w.before [.ref (ad 0)].toArray s = true := fun w h => atoms_spec (ws := (.code y_T_node b_T_node 1 (some .int) :: tw)) B.pre w (List.mem_cons_of_mem _ h)
  have hown : s.vm.findClass R_T = some m.cls := findClass_of_methodNamed B.named
  have hlocks := B.notSynchronized
  have CX : tC p s m [.ref (ad 0)].toArray meth c b_T_node (some .int) 1 R_T D clS (tyC ta) := ⟨hx, hb, hr, hml, hown, ht, hlocks, hK, hN⟩
  have hS : va_S (tA 37 ad) s.heap s.heap [] := va_S.rf
  have hl := lv_entry ([.ref (ad 0)]) (n := 1) (Nat.le_of_ble_eq_true rfl)
  rw [lg_entry_eq]
  generalize (lg_sl ([.ref (ad 0)]) ++ List.replicate (1 - (lg_sl ([.ref (ad 0)])).length) Slot.unset).toArray = ls at hl ⊢
  replace hl : lv_has ls 1 [(0, .ref (ad 0))] := hl
  unfold mf_T_node at hf
  refine lv_aload_n hx hb d_T_node_0 rfl (lv_at hl 0 rfl) ?_
  refine va_get (ci := 0) (v := .int (σ.1 0)) (C := R_T) (T := F_T) (N := 7) hx hb ht iw_T hown hK hP 0 rfl rfl 0 (by decide) (ht _ wd_245) (fun _ h9 => h9) rfl d_T_node_1 ?_
  refine lv_bipush (v := (12 : Int32)) hx hb d_T_node_4 (by decide) ?_
  refine lv_icmp_lt (tgt := 19) hx hb d_T_node_6 (by decide) (fun hc => ?_) (fun hc => ?_)
  · replace hf := ti_pos hc hf
    refine lv_aload_n hx hb d_T_node_19 rfl (lv_at hl 0 rfl) ?_
    refine lv_dup hx hb d_T_node_20 rfl ?_
    refine va_get (ci := 0) (v := .int (σ.1 0)) (C := R_T) (T := F_T) (N := 7) hx hb ht iw_T hown hK hP 0 rfl rfl 0 (by decide) (ht _ wd_245) (fun _ h9 => h9) rfl d_T_node_21 ?_
    refine lv_dup_x1 hx hb d_T_node_24 rfl rfl ?_
    refine lv_iconst (v := (1 : Int32)) hx hb d_T_node_25 (by decide) ?_
    refine lv_iadd hx hb d_T_node_26 ?_
    refine va_put (ci := 0) (v := .int ((σ.1 0) + (1 : Int32))) (ty := .int) (C := R_T) (T := F_T) (N := 7) hx hb ht iw_T ft_T to_T nm_T hown hK hP (cwC_D hd) hS 0 rfl rfl 0 (by decide) (ht _ wd_245) (fun _ h9 => h9) rfl (by decide +kernel) rfl rfl (Nat.le_of_ble_eq_true rfl) d_T_node_27 (fun H locs hP _ hS => ?_)
    replace hP : va_P D clS (cwC ad ta (tF σ 0 ((σ.1 0) + (1 : Int32)))) H := hP
    obtain ⟨rfl, rfl⟩ := tp_of hf
    exact W.iret (v := (σ.1 0)) hx hb hr (fun t ht hW => ⟨rfl, by rw [ht]; exact hP, hS.F ht⟩) hS.2.2 d_T_node_30
  · replace hf := ti_neg hc hf
    exact tn_no hf
abbrev rm_T_needNode : Room := { frames := 0, cells := 0, slots := 0, locals := 0 }
set_option maxHeartbeats 4000000 in
set_option maxRecDepth 100000 in
theorem mc_T_needNode (l : Launch) {D : va_G} {ad : Nat → Nat} {ta : Nat → ClassId} (hd : tD 37 ad) {σ σ' : tS} {p0 : Int32} (hf : mf_T_needNode p0 σ = some σ') : Met l y_T_needNode (.code y_T_needNode b_T_needNode 2 none :: tw) rm_T_needNode (tP D clS (tyC ta) (cwC ad ta σ) [.ref (ad 0), .int p0]) (tQ D clS (cwC ad ta σ') none tNo) 0 0 tNo := by
  refine Met.ofW (cc := b_T_needNode) (maxL := 2) (ret := none) (by decide) rfl ?_
  intro p e s m args below meth c s₁ B hml hv
  obtain ⟨rfl, hP, hK, hN⟩ := hv
  have hx := B.exec
  have hb := B.bytes
  have hr := B.returns
  have ht : ∀ w ∈ tw, w.before [.ref (ad 0), .int p0].toArray s = true := fun w h => atoms_spec (ws := (.code y_T_needNode b_T_needNode 2 none :: tw)) B.pre w (List.mem_cons_of_mem _ h)
  have hown : s.vm.findClass R_T = some m.cls := findClass_of_methodNamed B.named
  have hlocks := B.notSynchronized
  have CX : tC p s m [.ref (ad 0), .int p0].toArray meth c b_T_needNode none 2 R_T D clS (tyC ta) := ⟨hx, hb, hr, hml, hown, ht, hlocks, hK, hN⟩
  have hS : va_S tNo s.heap s.heap [] := va_S.rf
  have hl := lv_entry ([.ref (ad 0), .int p0]) (n := 2) (Nat.le_of_ble_eq_true rfl)
  rw [lg_entry_eq]
  generalize (lg_sl ([.ref (ad 0), .int p0]) ++ List.replicate (2 - (lg_sl ([.ref (ad 0), .int p0])).length) Slot.unset).toArray = ls at hl ⊢
  replace hl : lv_has ls 2 [(0, .ref (ad 0)), (1, .int p0)] := hl
  unfold mf_T_needNode at hf
  refine lv_iload_n hx hb d_T_needNode_0 rfl (lv_at hl 1 rfl) ?_
  refine lv_if_lt (tgt := 12) hx hb d_T_needNode_1 (by decide) (fun hc => ?_) (fun hc => ?_)
  · replace hf := ti_pos hc hf
    exact tn_no hf
  · replace hf := ti_neg hc hf
    refine lv_iload_n hx hb d_T_needNode_4 rfl (lv_at hl 1 rfl) ?_
    refine lv_aload_n hx hb d_T_needNode_5 rfl (lv_at hl 0 rfl) ?_
    refine va_get (ci := 0) (v := .int (σ.1 0)) (C := R_T) (T := F_T) (N := 7) hx hb ht iw_T hown hK hP 0 rfl rfl 0 (by decide) (ht _ wd_245) (fun _ h9 => h9) rfl d_T_needNode_6 ?_
    refine lv_icmp_lt (tgt := 22) hx hb d_T_needNode_9 (by decide) (fun hc => ?_) (fun hc => ?_)
    · replace hf := ti_pos hc hf
      obtain rfl := ts_of hf
      exact W.vret hx hb hr (fun t ht hW => ⟨rfl, by rw [ht]; exact hP, hS.F ht⟩) hS.2.2 d_T_needNode_22
    · replace hf := ti_neg hc hf
      exact tn_no hf
abbrev rm_T_needWithin : Room := { frames := 0, cells := 0, slots := 0, locals := 0 }
set_option maxHeartbeats 4000000 in
set_option maxRecDepth 100000 in
theorem mc_T_needWithin (l : Launch) {D : va_G} {ad : Nat → Nat} {ta : Nat → ClassId} (hd : tD 37 ad) {σ σ' : tS} {p0 : Int32} {p1 : Int32} {p2 : Int32} (hf : mf_T_needWithin p0 p1 p2 σ = some σ') : Met l y_T_needWithin (.code y_T_needWithin b_T_needWithin 3 none :: tw) rm_T_needWithin (tP D clS (tyC ta) (cwC ad ta σ) [.int p0, .int p1, .int p2]) (tQ D clS (cwC ad ta σ') none tNo) 0 0 tNo := by
  refine Met.ofW (cc := b_T_needWithin) (maxL := 3) (ret := none) (by decide) rfl ?_
  intro p e s m args below meth c s₁ B hml hv
  obtain ⟨rfl, hP, hK, hN⟩ := hv
  have hx := B.exec
  have hb := B.bytes
  have hr := B.returns
  have ht : ∀ w ∈ tw, w.before [.int p0, .int p1, .int p2].toArray s = true := fun w h => atoms_spec (ws := (.code y_T_needWithin b_T_needWithin 3 none :: tw)) B.pre w (List.mem_cons_of_mem _ h)
  have hown : s.vm.findClass R_T = some m.cls := findClass_of_methodNamed B.named
  have hlocks := B.notSynchronized
  have CX : tC p s m [.int p0, .int p1, .int p2].toArray meth c b_T_needWithin none 3 R_T D clS (tyC ta) := ⟨hx, hb, hr, hml, hown, ht, hlocks, hK, hN⟩
  have hS : va_S tNo s.heap s.heap [] := va_S.rf
  have hl := lv_entry ([.int p0, .int p1, .int p2]) (n := 3) (Nat.le_of_ble_eq_true rfl)
  rw [lg_entry_eq]
  generalize (lg_sl ([.int p0, .int p1, .int p2]) ++ List.replicate (3 - (lg_sl ([.int p0, .int p1, .int p2])).length) Slot.unset).toArray = ls at hl ⊢
  replace hl : lv_has ls 3 [(0, .int p0), (1, .int p1), (2, .int p2)] := hl
  unfold mf_T_needWithin at hf
  refine lv_iload_n hx hb d_T_needWithin_0 rfl (lv_at hl 0 rfl) ?_
  refine lv_iload_n hx hb d_T_needWithin_1 rfl (lv_at hl 1 rfl) ?_
  refine lv_icmp_lt (tgt := 10) hx hb d_T_needWithin_2 (by decide) (fun hc => ?_) (fun hc => ?_)
  · replace hf := ti_pos hc hf
    exact tn_no hf
  · replace hf := ti_neg hc hf
    refine lv_iload_n hx hb d_T_needWithin_5 rfl (lv_at hl 0 rfl) ?_
    refine lv_iload_n hx hb d_T_needWithin_6 rfl (lv_at hl 2 rfl) ?_
    refine lv_icmp_le (tgt := 20) hx hb d_T_needWithin_7 (by decide) (fun hc => ?_) (fun hc => ?_)
    · replace hf := ti_pos hc hf
      obtain rfl := ts_of hf
      exact W.vret hx hb hr (fun t ht hW => ⟨rfl, by rw [ht]; exact hP, hS.F ht⟩) hS.2.2 d_T_needWithin_20
    · replace hf := ti_neg hc hf
      exact tn_no hf
abbrev rm_Z_addZone : Room := { frames := 0, cells := 0, slots := 0, locals := 0 }
set_option maxHeartbeats 4000000 in
set_option maxRecDepth 100000 in
theorem mc_Z_addZone (l : Launch) {D : va_G} {ad : Nat → Nat} {ta : Nat → ClassId} (hd : tD 37 ad) {σ σ' : tS} {p0 : Int32} {p1 : Int32} {p2 : Int32} {r : Int32} (hf : mf_Z_addZone p0 p1 p2 σ = some (r, σ')) : Met l y_Z_addZone (.code y_Z_addZone b_Z_addZone 4 (some .int) :: tw) rm_Z_addZone (tP D clS (tyC ta) (cwC ad ta σ) [.ref (ad 1), .int p0, .int p1, .int p2]) (tQ D clS (cwC ad ta σ') (some (.int r)) (tA 37 ad)) 0 0 (tA 37 ad) := by
  refine Met.ofW (cc := b_Z_addZone) (maxL := 4) (ret := (some .int)) (by decide) rfl ?_
  intro p e s m args below meth c s₁ B hml hv
  obtain ⟨rfl, hP, hK, hN⟩ := hv
  have hx := B.exec
  have hb := B.bytes
  have hr := B.returns
  have ht : ∀ w ∈ tw, w.before [.ref (ad 1), .int p0, .int p1, .int p2].toArray s = true := fun w h => atoms_spec (ws := (.code y_Z_addZone b_Z_addZone 4 (some .int) :: tw)) B.pre w (List.mem_cons_of_mem _ h)
  have hown : s.vm.findClass R_Z = some m.cls := findClass_of_methodNamed B.named
  have hlocks := B.notSynchronized
  have CX : tC p s m [.ref (ad 1), .int p0, .int p1, .int p2].toArray meth c b_Z_addZone (some .int) 4 R_Z D clS (tyC ta) := ⟨hx, hb, hr, hml, hown, ht, hlocks, hK, hN⟩
  have hS : va_S (tA 37 ad) s.heap s.heap [] := va_S.rf
  have hl := lv_entry ([.ref (ad 1), .int p0, .int p1, .int p2]) (n := 4) (Nat.le_of_ble_eq_true rfl)
  rw [lg_entry_eq]
  generalize (lg_sl ([.ref (ad 1), .int p0, .int p1, .int p2]) ++ List.replicate (4 - (lg_sl ([.ref (ad 1), .int p0, .int p1, .int p2])).length) Slot.unset).toArray = ls at hl ⊢
  replace hl : lv_has ls 4 [(0, .ref (ad 1)), (1, .int p0), (2, .int p1), (3, .int p2)] := hl
  unfold mf_Z_addZone at hf
  refine lv_aload_n hx hb d_Z_addZone_0 rfl (lv_at hl 0 rfl) ?_
  refine va_get (ci := 1) (v := .ref (ad 9)) (C := R_Z) (T := F_Z) (N := 4) hx hb ht iw_Z hown hK hP 1 rfl rfl 1 (by decide) (ht _ wd_67) (fun _ h9 => h9) rfl d_Z_addZone_1 ?_
  refine lv_aload_n hx hb d_Z_addZone_4 rfl (lv_at hl 0 rfl) ?_
  refine va_get (ci := 1) (v := .int (σ.1 1)) (C := R_Z) (T := F_Z) (N := 4) hx hb ht iw_Z hown hK hP 1 rfl rfl 0 (by decide) (ht _ wd_64) (fun _ h9 => h9) rfl d_Z_addZone_5 ?_
  refine lv_iload_n hx hb d_Z_addZone_8 rfl (lv_at hl 1 rfl) ?_
  obtain ⟨hi1, hf⟩ := tg_of hf
  refine va_iast (f := σ.2.1 0) hx hb hK hP (cwC_D hd) hS 9 0 rfl rfl hi1 d_Z_addZone_9 (fun H locs hP _ hS => ?_)
  replace hP : va_P D clS (cwC ad ta (tI σ 0 ((σ.1 1).toNatClampNeg) p0)) H := hP
  refine lv_aload_n hx hb d_Z_addZone_10 rfl (lv_at hl 0 rfl) ?_
  refine va_get (ci := 1) (v := .ref (ad 10)) (C := R_Z) (T := F_Z) (N := 4) hx hb ht iw_Z hown hK hP 1 rfl rfl 2 (by decide) (ht _ wd_69) (fun _ h9 => h9) rfl d_Z_addZone_11 ?_
  refine lv_aload_n hx hb d_Z_addZone_14 rfl (lv_at hl 0 rfl) ?_
  refine va_get (ci := 1) (v := .int (σ.1 1)) (C := R_Z) (T := F_Z) (N := 4) hx hb ht iw_Z hown hK hP 1 rfl rfl 0 (by decide) (ht _ wd_64) (fun _ h9 => h9) rfl d_Z_addZone_15 ?_
  refine lv_iload_n hx hb d_Z_addZone_18 rfl (lv_at hl 2 rfl) ?_
  obtain ⟨hi2, hf⟩ := tg_of hf
  refine va_iast (f := σ.2.1 1) hx hb hK hP (cwC_D hd) hS 10 1 rfl rfl hi2 d_Z_addZone_19 (fun H locs hP _ hS => ?_)
  replace hP : va_P D clS (cwC ad ta (tI (tI σ 0 ((σ.1 1).toNatClampNeg) p0) 1 ((σ.1 1).toNatClampNeg) p1)) H := hP
  refine lv_aload_n hx hb d_Z_addZone_20 rfl (lv_at hl 0 rfl) ?_
  refine va_get (ci := 1) (v := .ref (ad 11)) (C := R_Z) (T := F_Z) (N := 4) hx hb ht iw_Z hown hK hP 1 rfl rfl 3 (by decide) (ht _ wd_72) (fun _ h9 => h9) rfl d_Z_addZone_21 ?_
  refine lv_aload_n hx hb d_Z_addZone_24 rfl (lv_at hl 0 rfl) ?_
  refine va_get (ci := 1) (v := .int (σ.1 1)) (C := R_Z) (T := F_Z) (N := 4) hx hb ht iw_Z hown hK hP 1 rfl rfl 0 (by decide) (ht _ wd_64) (fun _ h9 => h9) rfl d_Z_addZone_25 ?_
  refine lv_iload_n hx hb d_Z_addZone_28 rfl (lv_at hl 3 rfl) ?_
  obtain ⟨hi3, hf⟩ := tg_of hf
  refine va_iast (f := σ.2.1 2) hx hb hK hP (cwC_D hd) hS 11 2 rfl rfl hi3 d_Z_addZone_29 (fun H locs hP _ hS => ?_)
  replace hP : va_P D clS (cwC ad ta (tI (tI (tI σ 0 ((σ.1 1).toNatClampNeg) p0) 1 ((σ.1 1).toNatClampNeg) p1) 2 ((σ.1 1).toNatClampNeg) p2)) H := hP
  refine lv_aload_n hx hb d_Z_addZone_30 rfl (lv_at hl 0 rfl) ?_
  refine lv_dup hx hb d_Z_addZone_31 rfl ?_
  refine va_get (ci := 1) (v := .int (σ.1 1)) (C := R_Z) (T := F_Z) (N := 4) hx hb ht iw_Z hown hK hP 1 rfl rfl 0 (by decide) (ht _ wd_64) (fun _ h9 => h9) rfl d_Z_addZone_32 ?_
  refine lv_dup_x1 hx hb d_Z_addZone_35 rfl rfl ?_
  refine lv_iconst (v := (1 : Int32)) hx hb d_Z_addZone_36 (by decide) ?_
  refine lv_iadd hx hb d_Z_addZone_37 ?_
  refine va_put (ci := 1) (v := .int ((σ.1 1) + (1 : Int32))) (ty := .int) (C := R_Z) (T := F_Z) (N := 4) hx hb ht iw_Z ft_Z to_Z nm_Z hown hK hP (cwC_D hd) hS 1 rfl rfl 0 (by decide) (ht _ wd_64) (fun _ h9 => h9) rfl (by decide +kernel) rfl rfl (Nat.le_of_ble_eq_true rfl) d_Z_addZone_38 (fun H locs hP _ hS => ?_)
  replace hP : va_P D clS (cwC ad ta (tF (tI (tI (tI σ 0 ((σ.1 1).toNatClampNeg) p0) 1 ((σ.1 1).toNatClampNeg) p1) 2 ((σ.1 1).toNatClampNeg) p2) 1 ((σ.1 1) + (1 : Int32)))) H := hP
  obtain ⟨rfl, rfl⟩ := tp_of hf
  exact W.iret (v := (σ.1 1)) hx hb hr (fun t ht hW => ⟨rfl, by rw [ht]; exact hP, hS.F ht⟩) hS.2.2 d_Z_addZone_41
abbrev rm_T_zone : Room := { frames := 1, cells := 0, slots := 0, locals := 23 }
set_option maxHeartbeats 4000000 in
set_option maxRecDepth 100000 in
theorem mc_T_zone (l : Launch) {D : va_G} {ad : Nat → Nat} {ta : Nat → ClassId} (hd : tD 37 ad) {σ σ' : tS} {p0 : Int32} {p1 : Int32} {p2 : Int32} {r : Int32} (hf : mf_T_zone p0 p1 p2 σ = some (r, σ')) : Met l y_T_zone (.code y_T_zone b_T_zone 4 (some .int) :: tw) rm_T_zone (tP D clS (tyC ta) (cwC ad ta σ) [.ref (ad 0), .int p0, .int p1, .int p2]) (tQ D clS (cwC ad ta σ') (some (.int r)) (tA 37 ad)) 0 0 (tA 37 ad) := by
  refine Met.ofW (cc := b_T_zone) (maxL := 4) (ret := (some .int)) (by decide) rfl ?_
  intro p e s m args below meth c s₁ B hml hv
  obtain ⟨rfl, hP, hK, hN⟩ := hv
  have hx := B.exec
  have hb := B.bytes
  have hr := B.returns
  have ht : ∀ w ∈ tw, w.before [.ref (ad 0), .int p0, .int p1, .int p2].toArray s = true := fun w h => atoms_spec (ws := (.code y_T_zone b_T_zone 4 (some .int) :: tw)) B.pre w (List.mem_cons_of_mem _ h)
  have hown : s.vm.findClass R_T = some m.cls := findClass_of_methodNamed B.named
  have hlocks := B.notSynchronized
  have CX : tC p s m [.ref (ad 0), .int p0, .int p1, .int p2].toArray meth c b_T_zone (some .int) 4 R_T D clS (tyC ta) := ⟨hx, hb, hr, hml, hown, ht, hlocks, hK, hN⟩
  have hS : va_S (tA 37 ad) s.heap s.heap [] := va_S.rf
  have hl := lv_entry ([.ref (ad 0), .int p0, .int p1, .int p2]) (n := 4) (Nat.le_of_ble_eq_true rfl)
  rw [lg_entry_eq]
  generalize (lg_sl ([.ref (ad 0), .int p0, .int p1, .int p2]) ++ List.replicate (4 - (lg_sl ([.ref (ad 0), .int p0, .int p1, .int p2])).length) Slot.unset).toArray = ls at hl ⊢
  replace hl : lv_has ls 4 [(0, .ref (ad 0)), (1, .int p0), (2, .int p1), (3, .int p2)] := hl
  unfold mf_T_zone at hf
  refine lv_aload_n hx hb d_T_zone_0 rfl (lv_at hl 0 rfl) ?_
  refine lv_iload_n hx hb d_T_zone_1 rfl (lv_at hl 1 rfl) ?_
  obtain ⟨s_1, hq1, hf⟩ := tb1_of hf
  refine tr_callv (va_runV (C := R_T) (As := [.int p0]) (rest := []) ⟨hx, hb, hml, hown, ht⟩ (mc_T_needNode l hd hq1) ⟨(tw_cb (n := 1) ht wc_T_needNode wd_34 wd_399 ⟨rfl, rfl⟩ (by decide +kernel) ⟨(Nat.le_of_ble_eq_true rfl), (Nat.le_of_ble_eq_true rfl)⟩), ht _ wd_401, ht _ wd_5⟩ ⟨tP_blind, va_recv hK hP (ci := 0) (q0 := 0) rfl rfl, fun U hU hW => ⟨rfl, by rw [hU]; exact hP, va_K.moved hW.alike hK, tW_warm hW hN⟩⟩ rfl rfl hl.1 rfl (lv_room (Nat.le_of_ble_eq_true rfl)) d_T_zone_2 ⟨Nat.zero_le _, Nat.zero_le _⟩) hS (fun _ h => h.elim) (fun _ h => h.elim) (fun H locs hP hS => ?_)
  refine lv_iload_n hx hb d_T_zone_5 rfl (lv_at hl 2 rfl) ?_
  refine lv_iconst (v := (0 : Int32)) hx hb d_T_zone_6 (by decide) ?_
  refine lv_ldc (v := (100000 : Int32)) hx hb hown (ht _ wd_419) d_T_zone_7 ?_
  obtain ⟨s_2, hq2, hf⟩ := tb1_of hf
  refine tr_callv (va_runS (As := [.int p1, .int (0 : Int32), .int (100000 : Int32)]) (rest := []) ⟨hx, hb, hml, hown, ht⟩ (mc_T_needWithin l hd hq2) ⟨(tw_cb (n := 3) ht wc_T_needWithin wd_34 wd_420 ⟨rfl, rfl⟩ (by decide +kernel) ⟨(Nat.le_of_ble_eq_true rfl), (Nat.le_of_ble_eq_true rfl)⟩), ht _ wd_421⟩ ⟨tP_blind, fun U hU hW => ⟨rfl, by rw [hU]; exact hP, va_K.moved hW.alike hK, tW_warm hW hN⟩⟩ rfl rfl hl.1 rfl (lv_room (Nat.le_of_ble_eq_true rfl)) d_T_zone_9 ⟨Nat.zero_le _, Nat.zero_le _⟩) hS (fun _ h => h.elim) (fun _ h => h.elim) (fun H locs hP hS => ?_)
  refine lv_iload_n hx hb d_T_zone_12 rfl (lv_at hl 3 rfl) ?_
  refine lv_iconst (v := (0 : Int32)) hx hb d_T_zone_13 (by decide) ?_
  refine lv_ldc (v := (100000 : Int32)) hx hb hown (ht _ wd_419) d_T_zone_14 ?_
  obtain ⟨s_3, hq3, hf⟩ := tb1_of hf
  refine tr_callv (va_runS (As := [.int p2, .int (0 : Int32), .int (100000 : Int32)]) (rest := []) ⟨hx, hb, hml, hown, ht⟩ (mc_T_needWithin l hd hq3) ⟨(tw_cb (n := 3) ht wc_T_needWithin wd_34 wd_420 ⟨rfl, rfl⟩ (by decide +kernel) ⟨(Nat.le_of_ble_eq_true rfl), (Nat.le_of_ble_eq_true rfl)⟩), ht _ wd_421⟩ ⟨tP_blind, fun U hU hW => ⟨rfl, by rw [hU]; exact hP, va_K.moved hW.alike hK, tW_warm hW hN⟩⟩ rfl rfl hl.1 rfl (lv_room (Nat.le_of_ble_eq_true rfl)) d_T_zone_16 ⟨Nat.zero_le _, Nat.zero_le _⟩) hS (fun _ h => h.elim) (fun _ h => h.elim) (fun H locs hP hS => ?_)
  refine lv_aload_n hx hb d_T_zone_19 rfl (lv_at hl 0 rfl) ?_
  refine va_get (ci := 0) (v := .ref (ad 1)) (C := R_T) (T := F_T) (N := 7) hx hb ht iw_T hown hK hP 0 rfl rfl 1 (by decide) (ht _ wd_246) (fun _ h9 => h9) rfl d_T_zone_20 ?_
  refine va_get (ci := 1) (v := .int (s_3.1 1)) (C := R_Z) (T := F_Z) (N := 4) hx hb ht iw_Z hown hK hP 1 rfl rfl 0 (by decide) (ht _ wd_66) (fun _ h9 => h9) rfl d_T_zone_23 ?_
  refine lv_bipush (v := (6 : Int32)) hx hb d_T_zone_26 (by decide) ?_
  refine lv_icmp_lt (tgt := 41) hx hb d_T_zone_28 (by decide) (fun hc => ?_) (fun hc => ?_)
  · replace hf := ti_pos hc hf
    refine lv_aload_n hx hb d_T_zone_41 rfl (lv_at hl 0 rfl) ?_
    refine va_get (ci := 0) (v := .ref (ad 1)) (C := R_T) (T := F_T) (N := 7) hx hb ht iw_T hown hK hP 0 rfl rfl 1 (by decide) (ht _ wd_246) (fun _ h9 => h9) rfl d_T_zone_42 ?_
    refine lv_iload_n hx hb d_T_zone_45 rfl (lv_at hl 1 rfl) ?_
    refine lv_iload_n hx hb d_T_zone_46 rfl (lv_at hl 2 rfl) ?_
    refine lv_iload_n hx hb d_T_zone_47 rfl (lv_at hl 3 rfl) ?_
    obtain ⟨r_4, s_4, hq4, hf⟩ := tb2_of hf
    refine tr_calli (va_runV (C := R_Z) (As := [.int p0, .int p1, .int p2]) (rest := []) ⟨hx, hb, hml, hown, ht⟩ (mc_Z_addZone l hd hq4) ⟨(tw_cb (n := 3) ht wc_Z_addZone wd_35 wd_425 ⟨rfl, rfl⟩ (by decide +kernel) ⟨(Nat.le_of_ble_eq_true rfl), (Nat.le_of_ble_eq_true rfl)⟩), ht _ wd_426, ht _ wd_427⟩ ⟨tP_blind, va_recv hK hP (ci := 1) (q0 := 1) rfl rfl, fun U hU hW => ⟨rfl, by rw [hU]; exact hP, va_K.moved hW.alike hK, tW_warm hW hN⟩⟩ rfl rfl hl.1 rfl (lv_room (Nat.le_of_ble_eq_true rfl)) d_T_zone_48 ⟨Nat.zero_le _, Nat.zero_le _⟩) hS (fun _ h => h) (fun _ h => h) (fun H locs hP hS => ?_)
    obtain ⟨rfl, rfl⟩ := tp_of hf
    exact W.iret (v := r_4) hx hb hr (fun t ht hW => ⟨rfl, by rw [ht]; exact hP, hS.F ht⟩) hS.2.2 d_T_zone_51
  · replace hf := ti_neg hc hf
    exact tn_no hf
abbrev rm_S_addStreet : Room := { frames := 0, cells := 0, slots := 0, locals := 0 }
set_option maxHeartbeats 4000000 in
set_option maxRecDepth 100000 in
theorem mc_S_addStreet (l : Launch) {D : va_G} {ad : Nat → Nat} {ta : Nat → ClassId} (hd : tD 37 ad) {σ σ' : tS} {p0 : Int32} {p1 : Int32} {p2 : Int32} {p3 : Int32} {p4 : Int32} {r : Int32} (hf : mf_S_addStreet p0 p1 p2 p3 p4 σ = some (r, σ')) : Met l y_S_addStreet (.code y_S_addStreet b_S_addStreet 6 (some .int) :: tw) rm_S_addStreet (tP D clS (tyC ta) (cwC ad ta σ) [.ref (ad 4), .int p0, .int p1, .int p2, .int p3, .int p4]) (tQ D clS (cwC ad ta σ') (some (.int r)) (tA 37 ad)) 0 0 (tA 37 ad) := by
  refine Met.ofW (cc := b_S_addStreet) (maxL := 6) (ret := (some .int)) (by decide) rfl ?_
  intro p e s m args below meth c s₁ B hml hv
  obtain ⟨rfl, hP, hK, hN⟩ := hv
  have hx := B.exec
  have hb := B.bytes
  have hr := B.returns
  have ht : ∀ w ∈ tw, w.before [.ref (ad 4), .int p0, .int p1, .int p2, .int p3, .int p4].toArray s = true := fun w h => atoms_spec (ws := (.code y_S_addStreet b_S_addStreet 6 (some .int) :: tw)) B.pre w (List.mem_cons_of_mem _ h)
  have hown : s.vm.findClass R_S = some m.cls := findClass_of_methodNamed B.named
  have hlocks := B.notSynchronized
  have CX : tC p s m [.ref (ad 4), .int p0, .int p1, .int p2, .int p3, .int p4].toArray meth c b_S_addStreet (some .int) 6 R_S D clS (tyC ta) := ⟨hx, hb, hr, hml, hown, ht, hlocks, hK, hN⟩
  have hS : va_S (tA 37 ad) s.heap s.heap [] := va_S.rf
  have hl := lv_entry ([.ref (ad 4), .int p0, .int p1, .int p2, .int p3, .int p4]) (n := 6) (Nat.le_of_ble_eq_true rfl)
  rw [lg_entry_eq]
  generalize (lg_sl ([.ref (ad 4), .int p0, .int p1, .int p2, .int p3, .int p4]) ++ List.replicate (6 - (lg_sl ([.ref (ad 4), .int p0, .int p1, .int p2, .int p3, .int p4])).length) Slot.unset).toArray = ls at hl ⊢
  replace hl : lv_has ls 6 [(0, .ref (ad 4)), (1, .int p0), (2, .int p1), (3, .int p2), (4, .int p3), (5, .int p4)] := hl
  unfold mf_S_addStreet at hf
  refine lv_aload_n hx hb d_S_addStreet_0 rfl (lv_at hl 0 rfl) ?_
  refine va_get (ci := 4) (v := .ref (ad 16)) (C := R_S) (T := F_S) (N := 10) hx hb ht iw_S hown hK hP 4 rfl rfl 1 (by decide) (ht _ wd_160) (fun _ h9 => h9) rfl d_S_addStreet_1 ?_
  refine lv_aload_n hx hb d_S_addStreet_4 rfl (lv_at hl 0 rfl) ?_
  refine va_get (ci := 4) (v := .int (σ.1 2)) (C := R_S) (T := F_S) (N := 10) hx hb ht iw_S hown hK hP 4 rfl rfl 0 (by decide) (ht _ wd_157) (fun _ h9 => h9) rfl d_S_addStreet_5 ?_
  refine lv_iload_n hx hb d_S_addStreet_8 rfl (lv_at hl 1 rfl) ?_
  obtain ⟨hi1, hf⟩ := tg_of hf
  refine va_iast (f := σ.2.1 7) hx hb hK hP (cwC_D hd) hS 16 7 rfl rfl hi1 d_S_addStreet_9 (fun H locs hP _ hS => ?_)
  replace hP : va_P D clS (cwC ad ta (tI σ 7 ((σ.1 2).toNatClampNeg) p0)) H := hP
  refine lv_aload_n hx hb d_S_addStreet_10 rfl (lv_at hl 0 rfl) ?_
  refine va_get (ci := 4) (v := .ref (ad 17)) (C := R_S) (T := F_S) (N := 10) hx hb ht iw_S hown hK hP 4 rfl rfl 2 (by decide) (ht _ wd_162) (fun _ h9 => h9) rfl d_S_addStreet_11 ?_
  refine lv_aload_n hx hb d_S_addStreet_14 rfl (lv_at hl 0 rfl) ?_
  refine va_get (ci := 4) (v := .int (σ.1 2)) (C := R_S) (T := F_S) (N := 10) hx hb ht iw_S hown hK hP 4 rfl rfl 0 (by decide) (ht _ wd_157) (fun _ h9 => h9) rfl d_S_addStreet_15 ?_
  refine lv_iload_n hx hb d_S_addStreet_18 rfl (lv_at hl 2 rfl) ?_
  obtain ⟨hi2, hf⟩ := tg_of hf
  refine va_iast (f := σ.2.1 8) hx hb hK hP (cwC_D hd) hS 17 8 rfl rfl hi2 d_S_addStreet_19 (fun H locs hP _ hS => ?_)
  replace hP : va_P D clS (cwC ad ta (tI (tI σ 7 ((σ.1 2).toNatClampNeg) p0) 8 ((σ.1 2).toNatClampNeg) p1)) H := hP
  refine lv_aload_n hx hb d_S_addStreet_20 rfl (lv_at hl 0 rfl) ?_
  refine va_get (ci := 4) (v := .ref (ad 18)) (C := R_S) (T := F_S) (N := 10) hx hb ht iw_S hown hK hP 4 rfl rfl 3 (by decide) (ht _ wd_165) (fun _ h9 => h9) rfl d_S_addStreet_21 ?_
  refine lv_aload_n hx hb d_S_addStreet_24 rfl (lv_at hl 0 rfl) ?_
  refine va_get (ci := 4) (v := .int (σ.1 2)) (C := R_S) (T := F_S) (N := 10) hx hb ht iw_S hown hK hP 4 rfl rfl 0 (by decide) (ht _ wd_157) (fun _ h9 => h9) rfl d_S_addStreet_25 ?_
  refine lv_iload_n hx hb d_S_addStreet_28 rfl (lv_at hl 3 rfl) ?_
  obtain ⟨hi3, hf⟩ := tg_of hf
  refine va_iast (f := σ.2.1 9) hx hb hK hP (cwC_D hd) hS 18 9 rfl rfl hi3 d_S_addStreet_29 (fun H locs hP _ hS => ?_)
  replace hP : va_P D clS (cwC ad ta (tI (tI (tI σ 7 ((σ.1 2).toNatClampNeg) p0) 8 ((σ.1 2).toNatClampNeg) p1) 9 ((σ.1 2).toNatClampNeg) p2)) H := hP
  refine lv_aload_n hx hb d_S_addStreet_30 rfl (lv_at hl 0 rfl) ?_
  refine va_get (ci := 4) (v := .ref (ad 19)) (C := R_S) (T := F_S) (N := 10) hx hb ht iw_S hown hK hP 4 rfl rfl 4 (by decide) (ht _ wd_166) (fun _ h9 => h9) rfl d_S_addStreet_31 ?_
  refine lv_aload_n hx hb d_S_addStreet_34 rfl (lv_at hl 0 rfl) ?_
  refine va_get (ci := 4) (v := .int (σ.1 2)) (C := R_S) (T := F_S) (N := 10) hx hb ht iw_S hown hK hP 4 rfl rfl 0 (by decide) (ht _ wd_157) (fun _ h9 => h9) rfl d_S_addStreet_35 ?_
  refine lv_iload hx hb d_S_addStreet_38 (lv_at hl 4 rfl) ?_
  obtain ⟨hi4, hf⟩ := tg_of hf
  refine va_iast (f := σ.2.1 10) hx hb hK hP (cwC_D hd) hS 19 10 rfl rfl hi4 d_S_addStreet_40 (fun H locs hP _ hS => ?_)
  replace hP : va_P D clS (cwC ad ta (tI (tI (tI (tI σ 7 ((σ.1 2).toNatClampNeg) p0) 8 ((σ.1 2).toNatClampNeg) p1) 9 ((σ.1 2).toNatClampNeg) p2) 10 ((σ.1 2).toNatClampNeg) p3)) H := hP
  refine lv_aload_n hx hb d_S_addStreet_41 rfl (lv_at hl 0 rfl) ?_
  refine va_get (ci := 4) (v := .ref (ad 20)) (C := R_S) (T := F_S) (N := 10) hx hb ht iw_S hown hK hP 4 rfl rfl 5 (by decide) (ht _ wd_167) (fun _ h9 => h9) rfl d_S_addStreet_42 ?_
  refine lv_aload_n hx hb d_S_addStreet_45 rfl (lv_at hl 0 rfl) ?_
  refine va_get (ci := 4) (v := .int (σ.1 2)) (C := R_S) (T := F_S) (N := 10) hx hb ht iw_S hown hK hP 4 rfl rfl 0 (by decide) (ht _ wd_157) (fun _ h9 => h9) rfl d_S_addStreet_46 ?_
  refine lv_iload hx hb d_S_addStreet_49 (lv_at hl 5 rfl) ?_
  obtain ⟨hi5, hf⟩ := tg_of hf
  refine va_iast (f := σ.2.1 11) hx hb hK hP (cwC_D hd) hS 20 11 rfl rfl hi5 d_S_addStreet_51 (fun H locs hP _ hS => ?_)
  replace hP : va_P D clS (cwC ad ta (tI (tI (tI (tI (tI σ 7 ((σ.1 2).toNatClampNeg) p0) 8 ((σ.1 2).toNatClampNeg) p1) 9 ((σ.1 2).toNatClampNeg) p2) 10 ((σ.1 2).toNatClampNeg) p3) 11 ((σ.1 2).toNatClampNeg) p4)) H := hP
  refine lv_aload_n hx hb d_S_addStreet_52 rfl (lv_at hl 0 rfl) ?_
  refine va_get (ci := 4) (v := .ref (ad 22)) (C := R_S) (T := F_S) (N := 10) hx hb ht iw_S hown hK hP 4 rfl rfl 7 (by decide) (ht _ wd_170) (fun _ h9 => h9) rfl d_S_addStreet_53 ?_
  refine lv_aload_n hx hb d_S_addStreet_56 rfl (lv_at hl 0 rfl) ?_
  refine va_get (ci := 4) (v := .int (σ.1 2)) (C := R_S) (T := F_S) (N := 10) hx hb ht iw_S hown hK hP 4 rfl rfl 0 (by decide) (ht _ wd_157) (fun _ h9 => h9) rfl d_S_addStreet_57 ?_
  refine lv_iconst (v := (1 : Int32)) hx hb d_S_addStreet_60 (by decide) ?_
  obtain ⟨hi6, hf⟩ := tg_of hf
  refine va_zast (f := σ.2.1 13) hx hb hK hP (cwC_D hd) hS 22 13 rfl rfl hi6 d_S_addStreet_61 (fun H locs hP _ hS => ?_)
  replace hP : va_P D clS (cwC ad ta (tI (tI (tI (tI (tI (tI σ 7 ((σ.1 2).toNatClampNeg) p0) 8 ((σ.1 2).toNatClampNeg) p1) 9 ((σ.1 2).toNatClampNeg) p2) 10 ((σ.1 2).toNatClampNeg) p3) 11 ((σ.1 2).toNatClampNeg) p4) 13 ((σ.1 2).toNatClampNeg) (vp_nar .boolean (1 : Int32)))) H := hP
  refine lv_aload_n hx hb d_S_addStreet_62 rfl (lv_at hl 0 rfl) ?_
  refine lv_dup hx hb d_S_addStreet_63 rfl ?_
  refine va_get (ci := 4) (v := .int (σ.1 2)) (C := R_S) (T := F_S) (N := 10) hx hb ht iw_S hown hK hP 4 rfl rfl 0 (by decide) (ht _ wd_157) (fun _ h9 => h9) rfl d_S_addStreet_64 ?_
  refine lv_dup_x1 hx hb d_S_addStreet_67 rfl rfl ?_
  refine lv_iconst (v := (1 : Int32)) hx hb d_S_addStreet_68 (by decide) ?_
  refine lv_iadd hx hb d_S_addStreet_69 ?_
  refine va_put (ci := 4) (v := .int ((σ.1 2) + (1 : Int32))) (ty := .int) (C := R_S) (T := F_S) (N := 10) hx hb ht iw_S ft_S to_S nm_S hown hK hP (cwC_D hd) hS 4 rfl rfl 0 (by decide) (ht _ wd_157) (fun _ h9 => h9) rfl (by decide +kernel) rfl rfl (Nat.le_of_ble_eq_true rfl) d_S_addStreet_70 (fun H locs hP _ hS => ?_)
  replace hP : va_P D clS (cwC ad ta (tF (tI (tI (tI (tI (tI (tI σ 7 ((σ.1 2).toNatClampNeg) p0) 8 ((σ.1 2).toNatClampNeg) p1) 9 ((σ.1 2).toNatClampNeg) p2) 10 ((σ.1 2).toNatClampNeg) p3) 11 ((σ.1 2).toNatClampNeg) p4) 13 ((σ.1 2).toNatClampNeg) (vp_nar .boolean (1 : Int32))) 2 ((σ.1 2) + (1 : Int32)))) H := hP
  obtain ⟨rfl, rfl⟩ := tp_of hf
  exact W.iret (v := (σ.1 2)) hx hb hr (fun t ht hW => ⟨rfl, by rw [ht]; exact hP, hS.F ht⟩) hS.2.2 d_S_addStreet_73
abbrev rm_T_street : Room := { frames := 1, cells := 0, slots := 0, locals := 25 }
set_option maxHeartbeats 4000000 in
set_option maxRecDepth 100000 in
theorem mc_T_street (l : Launch) {D : va_G} {ad : Nat → Nat} {ta : Nat → ClassId} (hd : tD 37 ad) {σ σ' : tS} {p0 : Int32} {p1 : Int32} {p2 : Int32} {p3 : Int32} {p4 : Int32} {r : Int32} (hf : mf_T_street p0 p1 p2 p3 p4 σ = some (r, σ')) : Met l y_T_street (.code y_T_street b_T_street 6 (some .int) :: tw) rm_T_street (tP D clS (tyC ta) (cwC ad ta σ) [.ref (ad 0), .int p0, .int p1, .int p2, .int p3, .int p4]) (tQ D clS (cwC ad ta σ') (some (.int r)) (tA 37 ad)) 0 0 (tA 37 ad) := by
  refine Met.ofW (cc := b_T_street) (maxL := 6) (ret := (some .int)) (by decide) rfl ?_
  intro p e s m args below meth c s₁ B hml hv
  obtain ⟨rfl, hP, hK, hN⟩ := hv
  have hx := B.exec
  have hb := B.bytes
  have hr := B.returns
  have ht : ∀ w ∈ tw, w.before [.ref (ad 0), .int p0, .int p1, .int p2, .int p3, .int p4].toArray s = true := fun w h => atoms_spec (ws := (.code y_T_street b_T_street 6 (some .int) :: tw)) B.pre w (List.mem_cons_of_mem _ h)
  have hown : s.vm.findClass R_T = some m.cls := findClass_of_methodNamed B.named
  have hlocks := B.notSynchronized
  have CX : tC p s m [.ref (ad 0), .int p0, .int p1, .int p2, .int p3, .int p4].toArray meth c b_T_street (some .int) 6 R_T D clS (tyC ta) := ⟨hx, hb, hr, hml, hown, ht, hlocks, hK, hN⟩
  have hS : va_S (tA 37 ad) s.heap s.heap [] := va_S.rf
  have hl := lv_entry ([.ref (ad 0), .int p0, .int p1, .int p2, .int p3, .int p4]) (n := 6) (Nat.le_of_ble_eq_true rfl)
  rw [lg_entry_eq]
  generalize (lg_sl ([.ref (ad 0), .int p0, .int p1, .int p2, .int p3, .int p4]) ++ List.replicate (6 - (lg_sl ([.ref (ad 0), .int p0, .int p1, .int p2, .int p3, .int p4])).length) Slot.unset).toArray = ls at hl ⊢
  replace hl : lv_has ls 6 [(0, .ref (ad 0)), (1, .int p0), (2, .int p1), (3, .int p2), (4, .int p3), (5, .int p4)] := hl
  unfold mf_T_street at hf
  refine lv_aload_n hx hb d_T_street_0 rfl (lv_at hl 0 rfl) ?_
  refine lv_iload_n hx hb d_T_street_1 rfl (lv_at hl 1 rfl) ?_
  obtain ⟨s_1, hq1, hf⟩ := tb1_of hf
  refine tr_callv (va_runV (C := R_T) (As := [.int p0]) (rest := []) ⟨hx, hb, hml, hown, ht⟩ (mc_T_needNode l hd hq1) ⟨(tw_cb (n := 1) ht wc_T_needNode wd_34 wd_399 ⟨rfl, rfl⟩ (by decide +kernel) ⟨(Nat.le_of_ble_eq_true rfl), (Nat.le_of_ble_eq_true rfl)⟩), ht _ wd_401, ht _ wd_5⟩ ⟨tP_blind, va_recv hK hP (ci := 0) (q0 := 0) rfl rfl, fun U hU hW => ⟨rfl, by rw [hU]; exact hP, va_K.moved hW.alike hK, tW_warm hW hN⟩⟩ rfl rfl hl.1 rfl (lv_room (Nat.le_of_ble_eq_true rfl)) d_T_street_2 ⟨Nat.zero_le _, Nat.zero_le _⟩) hS (fun _ h => h.elim) (fun _ h => h.elim) (fun H locs hP hS => ?_)
  refine lv_aload_n hx hb d_T_street_5 rfl (lv_at hl 0 rfl) ?_
  refine lv_iload_n hx hb d_T_street_6 rfl (lv_at hl 2 rfl) ?_
  obtain ⟨s_2, hq2, hf⟩ := tb1_of hf
  refine tr_callv (va_runV (C := R_T) (As := [.int p1]) (rest := []) ⟨hx, hb, hml, hown, ht⟩ (mc_T_needNode l hd hq2) ⟨(tw_cb (n := 1) ht wc_T_needNode wd_34 wd_399 ⟨rfl, rfl⟩ (by decide +kernel) ⟨(Nat.le_of_ble_eq_true rfl), (Nat.le_of_ble_eq_true rfl)⟩), ht _ wd_401, ht _ wd_5⟩ ⟨tP_blind, va_recv hK hP (ci := 0) (q0 := 0) rfl rfl, fun U hU hW => ⟨rfl, by rw [hU]; exact hP, va_K.moved hW.alike hK, tW_warm hW hN⟩⟩ rfl rfl hl.1 rfl (lv_room (Nat.le_of_ble_eq_true rfl)) d_T_street_7 ⟨Nat.zero_le _, Nat.zero_le _⟩) hS (fun _ h => h.elim) (fun _ h => h.elim) (fun H locs hP hS => ?_)
  refine lv_iload_n hx hb d_T_street_10 rfl (lv_at hl 1 rfl) ?_
  refine lv_iload_n hx hb d_T_street_11 rfl (lv_at hl 2 rfl) ?_
  refine lv_icmp_ne (tgt := 25) hx hb d_T_street_12 (by decide) (fun hc => ?_) (fun hc => ?_)
  · replace hf := ti_neg hc hf
    refine lv_iload_n hx hb d_T_street_25 rfl (lv_at hl 3 rfl) ?_
    refine lv_iconst (v := (1 : Int32)) hx hb d_T_street_26 (by decide) ?_
    refine lv_sipush (v := (1000 : Int32)) hx hb d_T_street_27 (by decide) ?_
    obtain ⟨s_3, hq3, hf⟩ := tb1_of hf
    refine tr_callv (va_runS (As := [.int p2, .int (1 : Int32), .int (1000 : Int32)]) (rest := []) ⟨hx, hb, hml, hown, ht⟩ (mc_T_needWithin l hd hq3) ⟨(tw_cb (n := 3) ht wc_T_needWithin wd_34 wd_420 ⟨rfl, rfl⟩ (by decide +kernel) ⟨(Nat.le_of_ble_eq_true rfl), (Nat.le_of_ble_eq_true rfl)⟩), ht _ wd_421⟩ ⟨tP_blind, fun U hU hW => ⟨rfl, by rw [hU]; exact hP, va_K.moved hW.alike hK, tW_warm hW hN⟩⟩ rfl rfl hl.1 rfl (lv_room (Nat.le_of_ble_eq_true rfl)) d_T_street_30 ⟨Nat.zero_le _, Nat.zero_le _⟩) hS (fun _ h => h.elim) (fun _ h => h.elim) (fun H locs hP hS => ?_)
    refine lv_iload hx hb d_T_street_33 (lv_at hl 4 rfl) ?_
    refine lv_iconst (v := (0 : Int32)) hx hb d_T_street_35 (by decide) ?_
    refine lv_sipush (v := (1000 : Int32)) hx hb d_T_street_36 (by decide) ?_
    obtain ⟨s_4, hq4, hf⟩ := tb1_of hf
    refine tr_callv (va_runS (As := [.int p3, .int (0 : Int32), .int (1000 : Int32)]) (rest := []) ⟨hx, hb, hml, hown, ht⟩ (mc_T_needWithin l hd hq4) ⟨(tw_cb (n := 3) ht wc_T_needWithin wd_34 wd_420 ⟨rfl, rfl⟩ (by decide +kernel) ⟨(Nat.le_of_ble_eq_true rfl), (Nat.le_of_ble_eq_true rfl)⟩), ht _ wd_421⟩ ⟨tP_blind, fun U hU hW => ⟨rfl, by rw [hU]; exact hP, va_K.moved hW.alike hK, tW_warm hW hN⟩⟩ rfl rfl hl.1 rfl (lv_room (Nat.le_of_ble_eq_true rfl)) d_T_street_39 ⟨Nat.zero_le _, Nat.zero_le _⟩) hS (fun _ h => h.elim) (fun _ h => h.elim) (fun H locs hP hS => ?_)
    refine lv_iload hx hb d_T_street_42 (lv_at hl 5 rfl) ?_
    refine lv_iconst (v := (1 : Int32)) hx hb d_T_street_44 (by decide) ?_
    refine lv_ldc (v := (1000000 : Int32)) hx hb hown (ht _ wd_437) d_T_street_45 ?_
    obtain ⟨s_5, hq5, hf⟩ := tb1_of hf
    refine tr_callv (va_runS (As := [.int p4, .int (1 : Int32), .int (1000000 : Int32)]) (rest := []) ⟨hx, hb, hml, hown, ht⟩ (mc_T_needWithin l hd hq5) ⟨(tw_cb (n := 3) ht wc_T_needWithin wd_34 wd_420 ⟨rfl, rfl⟩ (by decide +kernel) ⟨(Nat.le_of_ble_eq_true rfl), (Nat.le_of_ble_eq_true rfl)⟩), ht _ wd_421⟩ ⟨tP_blind, fun U hU hW => ⟨rfl, by rw [hU]; exact hP, va_K.moved hW.alike hK, tW_warm hW hN⟩⟩ rfl rfl hl.1 rfl (lv_room (Nat.le_of_ble_eq_true rfl)) d_T_street_47 ⟨Nat.zero_le _, Nat.zero_le _⟩) hS (fun _ h => h.elim) (fun _ h => h.elim) (fun H locs hP hS => ?_)
    refine lv_aload_n hx hb d_T_street_50 rfl (lv_at hl 0 rfl) ?_
    refine va_get (ci := 0) (v := .ref (ad 4)) (C := R_T) (T := F_T) (N := 7) hx hb ht iw_T hown hK hP 0 rfl rfl 4 (by decide) (ht _ wd_249) (fun _ h9 => h9) rfl d_T_street_51 ?_
    refine va_get (ci := 4) (v := .int (s_5.1 2)) (C := R_S) (T := F_S) (N := 10) hx hb ht iw_S hown hK hP 4 rfl rfl 0 (by decide) (ht _ wd_159) (fun _ h9 => h9) rfl d_T_street_54 ?_
    refine lv_bipush (v := (40 : Int32)) hx hb d_T_street_57 (by decide) ?_
    refine lv_icmp_lt (tgt := 72) hx hb d_T_street_59 (by decide) (fun hc => ?_) (fun hc => ?_)
    · replace hf := ti_pos hc hf
      refine lv_aload_n hx hb d_T_street_72 rfl (lv_at hl 0 rfl) ?_
      refine va_get (ci := 0) (v := .ref (ad 4)) (C := R_T) (T := F_T) (N := 7) hx hb ht iw_T hown hK hP 0 rfl rfl 4 (by decide) (ht _ wd_249) (fun _ h9 => h9) rfl d_T_street_73 ?_
      refine lv_iload_n hx hb d_T_street_76 rfl (lv_at hl 1 rfl) ?_
      refine lv_iload_n hx hb d_T_street_77 rfl (lv_at hl 2 rfl) ?_
      refine lv_iload_n hx hb d_T_street_78 rfl (lv_at hl 3 rfl) ?_
      refine lv_iload hx hb d_T_street_79 (lv_at hl 4 rfl) ?_
      refine lv_iload hx hb d_T_street_81 (lv_at hl 5 rfl) ?_
      obtain ⟨r_6, s_6, hq6, hf⟩ := tb2_of hf
      refine tr_calli (va_runV (C := R_S) (As := [.int p0, .int p1, .int p2, .int p3, .int p4]) (rest := []) ⟨hx, hb, hml, hown, ht⟩ (mc_S_addStreet l hd hq6) ⟨(tw_cb (n := 5) ht wc_S_addStreet wd_40 wd_439 ⟨rfl, rfl⟩ (by decide +kernel) ⟨(Nat.le_of_ble_eq_true rfl), (Nat.le_of_ble_eq_true rfl)⟩), ht _ wd_440, ht _ wd_441⟩ ⟨tP_blind, va_recv hK hP (ci := 4) (q0 := 4) rfl rfl, fun U hU hW => ⟨rfl, by rw [hU]; exact hP, va_K.moved hW.alike hK, tW_warm hW hN⟩⟩ rfl rfl hl.1 rfl (lv_room (Nat.le_of_ble_eq_true rfl)) d_T_street_83 ⟨Nat.zero_le _, Nat.zero_le _⟩) hS (fun _ h => h) (fun _ h => h) (fun H locs hP hS => ?_)
      obtain ⟨rfl, rfl⟩ := tp_of hf
      exact W.iret (v := r_6) hx hb hr (fun t ht hW => ⟨rfl, by rw [ht]; exact hP, hS.F ht⟩) hS.2.2 d_T_street_86
    · replace hf := ti_neg hc hf
      exact tn_no hf
  · replace hf := ti_pos hc hf
    exact tn_no hf
abbrev rm_T_needStreet : Room := { frames := 0, cells := 0, slots := 0, locals := 0 }
set_option maxHeartbeats 4000000 in
set_option maxRecDepth 100000 in
theorem mc_T_needStreet (l : Launch) {D : va_G} {ad : Nat → Nat} {ta : Nat → ClassId} (hd : tD 37 ad) {σ σ' : tS} {p0 : Int32} (hf : mf_T_needStreet p0 σ = some σ') : Met l y_T_needStreet (.code y_T_needStreet b_T_needStreet 2 none :: tw) rm_T_needStreet (tP D clS (tyC ta) (cwC ad ta σ) [.ref (ad 0), .int p0]) (tQ D clS (cwC ad ta σ') none tNo) 0 0 tNo := by
  refine Met.ofW (cc := b_T_needStreet) (maxL := 2) (ret := none) (by decide) rfl ?_
  intro p e s m args below meth c s₁ B hml hv
  obtain ⟨rfl, hP, hK, hN⟩ := hv
  have hx := B.exec
  have hb := B.bytes
  have hr := B.returns
  have ht : ∀ w ∈ tw, w.before [.ref (ad 0), .int p0].toArray s = true := fun w h => atoms_spec (ws := (.code y_T_needStreet b_T_needStreet 2 none :: tw)) B.pre w (List.mem_cons_of_mem _ h)
  have hown : s.vm.findClass R_T = some m.cls := findClass_of_methodNamed B.named
  have hlocks := B.notSynchronized
  have CX : tC p s m [.ref (ad 0), .int p0].toArray meth c b_T_needStreet none 2 R_T D clS (tyC ta) := ⟨hx, hb, hr, hml, hown, ht, hlocks, hK, hN⟩
  have hS : va_S tNo s.heap s.heap [] := va_S.rf
  have hl := lv_entry ([.ref (ad 0), .int p0]) (n := 2) (Nat.le_of_ble_eq_true rfl)
  rw [lg_entry_eq]
  generalize (lg_sl ([.ref (ad 0), .int p0]) ++ List.replicate (2 - (lg_sl ([.ref (ad 0), .int p0])).length) Slot.unset).toArray = ls at hl ⊢
  replace hl : lv_has ls 2 [(0, .ref (ad 0)), (1, .int p0)] := hl
  unfold mf_T_needStreet at hf
  refine lv_iload_n hx hb d_T_needStreet_0 rfl (lv_at hl 1 rfl) ?_
  refine lv_if_lt (tgt := 15) hx hb d_T_needStreet_1 (by decide) (fun hc => ?_) (fun hc => ?_)
  · replace hf := ti_pos hc hf
    exact tn_no hf
  · replace hf := ti_neg hc hf
    refine lv_iload_n hx hb d_T_needStreet_4 rfl (lv_at hl 1 rfl) ?_
    refine lv_aload_n hx hb d_T_needStreet_5 rfl (lv_at hl 0 rfl) ?_
    refine va_get (ci := 0) (v := .ref (ad 4)) (C := R_T) (T := F_T) (N := 7) hx hb ht iw_T hown hK hP 0 rfl rfl 4 (by decide) (ht _ wd_249) (fun _ h9 => h9) rfl d_T_needStreet_6 ?_
    refine va_get (ci := 4) (v := .int (σ.1 2)) (C := R_S) (T := F_S) (N := 10) hx hb ht iw_S hown hK hP 4 rfl rfl 0 (by decide) (ht _ wd_159) (fun _ h9 => h9) rfl d_T_needStreet_9 ?_
    refine lv_icmp_lt (tgt := 25) hx hb d_T_needStreet_12 (by decide) (fun hc => ?_) (fun hc => ?_)
    · replace hf := ti_pos hc hf
      obtain rfl := ts_of hf
      exact W.vret hx hb hr (fun t ht hW => ⟨rfl, by rw [ht]; exact hP, hS.F ht⟩) hS.2.2 d_T_needStreet_25
    · replace hf := ti_neg hc hf
      exact tn_no hf
abbrev rm_T_toll : Room := { frames := 1, cells := 0, slots := 0, locals := 22 }
set_option maxHeartbeats 4000000 in
set_option maxRecDepth 100000 in
theorem mc_T_toll (l : Launch) {D : va_G} {ad : Nat → Nat} {ta : Nat → ClassId} (hd : tD 37 ad) {σ σ' : tS} {p0 : Int32} {p1 : Int32} {r : Int32} (hf : mf_T_toll p0 p1 σ = some (r, σ')) : Met l y_T_toll (.code y_T_toll b_T_toll 4 (some .int) :: tw) rm_T_toll (tP D clS (tyC ta) (cwC ad ta σ) [.ref (ad 0), .int p0, .int p1]) (tQ D clS (cwC ad ta σ') (some (.int r)) (tA 37 ad)) 0 0 (tA 37 ad) := by
  refine Met.ofW (cc := b_T_toll) (maxL := 4) (ret := (some .int)) (by decide) rfl ?_
  intro p e s m args below meth c s₁ B hml hv
  obtain ⟨rfl, hP, hK, hN⟩ := hv
  have hx := B.exec
  have hb := B.bytes
  have hr := B.returns
  have ht : ∀ w ∈ tw, w.before [.ref (ad 0), .int p0, .int p1].toArray s = true := fun w h => atoms_spec (ws := (.code y_T_toll b_T_toll 4 (some .int) :: tw)) B.pre w (List.mem_cons_of_mem _ h)
  have hown : s.vm.findClass R_T = some m.cls := findClass_of_methodNamed B.named
  have hlocks := B.notSynchronized
  have CX : tC p s m [.ref (ad 0), .int p0, .int p1].toArray meth c b_T_toll (some .int) 4 R_T D clS (tyC ta) := ⟨hx, hb, hr, hml, hown, ht, hlocks, hK, hN⟩
  have hS : va_S (tA 37 ad) s.heap s.heap [] := va_S.rf
  have hl := lv_entry ([.ref (ad 0), .int p0, .int p1]) (n := 4) (Nat.le_of_ble_eq_true rfl)
  rw [lg_entry_eq]
  generalize (lg_sl ([.ref (ad 0), .int p0, .int p1]) ++ List.replicate (4 - (lg_sl ([.ref (ad 0), .int p0, .int p1])).length) Slot.unset).toArray = ls at hl ⊢
  replace hl : lv_has ls 4 [(0, .ref (ad 0)), (1, .int p0), (2, .int p1)] := hl
  unfold mf_T_toll at hf
  refine lv_aload_n hx hb d_T_toll_0 rfl (lv_at hl 0 rfl) ?_
  refine lv_iload_n hx hb d_T_toll_1 rfl (lv_at hl 1 rfl) ?_
  obtain ⟨s_1, hq1, hf⟩ := tb1_of hf
  refine tr_callv (va_runV (C := R_T) (As := [.int p0]) (rest := []) ⟨hx, hb, hml, hown, ht⟩ (mc_T_needStreet l hd hq1) ⟨(tw_cb (n := 1) ht wc_T_needStreet wd_34 wd_450 ⟨rfl, rfl⟩ (by decide +kernel) ⟨(Nat.le_of_ble_eq_true rfl), (Nat.le_of_ble_eq_true rfl)⟩), ht _ wd_452, ht _ wd_6⟩ ⟨tP_blind, va_recv hK hP (ci := 0) (q0 := 0) rfl rfl, fun U hU hW => ⟨rfl, by rw [hU]; exact hP, va_K.moved hW.alike hK, tW_warm hW hN⟩⟩ rfl rfl hl.1 rfl (lv_room (Nat.le_of_ble_eq_true rfl)) d_T_toll_2 ⟨Nat.zero_le _, Nat.zero_le _⟩) hS (fun _ h => h.elim) (fun _ h => h.elim) (fun H locs hP hS => ?_)
  refine lv_iload_n hx hb d_T_toll_5 rfl (lv_at hl 2 rfl) ?_
  refine lv_iconst (v := (0 : Int32)) hx hb d_T_toll_6 (by decide) ?_
  refine lv_sipush (v := (1000 : Int32)) hx hb d_T_toll_7 (by decide) ?_
  obtain ⟨s_2, hq2, hf⟩ := tb1_of hf
  refine tr_callv (va_runS (As := [.int p1, .int (0 : Int32), .int (1000 : Int32)]) (rest := []) ⟨hx, hb, hml, hown, ht⟩ (mc_T_needWithin l hd hq2) ⟨(tw_cb (n := 3) ht wc_T_needWithin wd_34 wd_420 ⟨rfl, rfl⟩ (by decide +kernel) ⟨(Nat.le_of_ble_eq_true rfl), (Nat.le_of_ble_eq_true rfl)⟩), ht _ wd_421⟩ ⟨tP_blind, fun U hU hW => ⟨rfl, by rw [hU]; exact hP, va_K.moved hW.alike hK, tW_warm hW hN⟩⟩ rfl rfl hl.1 rfl (lv_room (Nat.le_of_ble_eq_true rfl)) d_T_toll_10 ⟨Nat.zero_le _, Nat.zero_le _⟩) hS (fun _ h => h.elim) (fun _ h => h.elim) (fun H locs hP hS => ?_)
  refine lv_aload_n hx hb d_T_toll_13 rfl (lv_at hl 0 rfl) ?_
  refine va_get (ci := 0) (v := .ref (ad 4)) (C := R_T) (T := F_T) (N := 7) hx hb ht iw_T hown hK hP 0 rfl rfl 4 (by decide) (ht _ wd_249) (fun _ h9 => h9) rfl d_T_toll_14 ?_
  refine va_get (ci := 4) (v := .ref (ad 21)) (C := R_S) (T := F_S) (N := 10) hx hb ht iw_S hown hK hP 4 rfl rfl 6 (by decide) (ht _ wd_169) (fun _ h9 => h9) rfl d_T_toll_17 ?_
  refine lv_iload_n hx hb d_T_toll_20 rfl (lv_at hl 1 rfl) ?_
  obtain ⟨hi3, hf⟩ := tg_of hf
  refine va_iald (f := s_2.2.1 12) hx hb hK hP 21 12 rfl rfl hi3 d_T_toll_21 ?_
  refine lv_istore_n (lv' := [(3, .int (s_2.2.1 12 p0.toNatClampNeg)), (0, .ref (ad 0)), (1, .int p0), (2, .int p1)]) hx hb d_T_toll_22 rfl hl (by decide) rfl (fun ls hl => ?_)
  refine lv_aload_n hx hb d_T_toll_23 rfl (lv_at hl 1 rfl) ?_
  refine va_get (ci := 0) (v := .ref (ad 4)) (C := R_T) (T := F_T) (N := 7) hx hb ht iw_T hown hK hP 0 rfl rfl 4 (by decide) (ht _ wd_249) (fun _ h9 => h9) rfl d_T_toll_24 ?_
  refine va_get (ci := 4) (v := .ref (ad 21)) (C := R_S) (T := F_S) (N := 10) hx hb ht iw_S hown hK hP 4 rfl rfl 6 (by decide) (ht _ wd_169) (fun _ h9 => h9) rfl d_T_toll_27 ?_
  refine lv_iload_n hx hb d_T_toll_30 rfl (lv_at hl 2 rfl) ?_
  refine lv_iload_n hx hb d_T_toll_31 rfl (lv_at hl 3 rfl) ?_
  obtain ⟨hi4, hf⟩ := tg_of hf
  refine va_iast (f := s_2.2.1 12) hx hb hK hP (cwC_D hd) hS 21 12 rfl rfl hi4 d_T_toll_32 (fun H locs hP _ hS => ?_)
  replace hP : va_P D clS (cwC ad ta (tI s_2 12 p0.toNatClampNeg p1)) H := hP
  refine lv_iload_n hx hb d_T_toll_33 rfl (lv_at hl 0 rfl) ?_
  obtain ⟨rfl, rfl⟩ := tp_of hf
  exact W.iret (v := (s_2.2.1 12 p0.toNatClampNeg)) hx hb hr (fun t ht hW => ⟨rfl, by rw [ht]; exact hP, hS.F ht⟩) hS.2.2 d_T_toll_34
abbrev rm_T_open : Room := { frames := 1, cells := 0, slots := 0, locals := 21 }
set_option maxHeartbeats 4000000 in
set_option maxRecDepth 100000 in
theorem mc_T_open (l : Launch) {D : va_G} {ad : Nat → Nat} {ta : Nat → ClassId} (hd : tD 37 ad) {σ σ' : tS} {p0 : Int32} {p1 : Int32} {r : Int32} (hf : mf_T_open p0 p1 σ = some (r, σ')) : Met l y_T_open (.code y_T_open b_T_open 4 (some .boolean) :: tw) rm_T_open (tP D clS (tyC ta) (cwC ad ta σ) [.ref (ad 0), .int p0, .int p1]) (tQ D clS (cwC ad ta σ') (some (.int r)) (tA 37 ad)) 0 0 (tA 37 ad) := by
  refine Met.ofW (cc := b_T_open) (maxL := 4) (ret := (some .boolean)) (by decide) rfl ?_
  intro p e s m args below meth c s₁ B hml hv
  obtain ⟨rfl, hP, hK, hN⟩ := hv
  have hx := B.exec
  have hb := B.bytes
  have hr := B.returns
  have ht : ∀ w ∈ tw, w.before [.ref (ad 0), .int p0, .int p1].toArray s = true := fun w h => atoms_spec (ws := (.code y_T_open b_T_open 4 (some .boolean) :: tw)) B.pre w (List.mem_cons_of_mem _ h)
  have hown : s.vm.findClass R_T = some m.cls := findClass_of_methodNamed B.named
  have hlocks := B.notSynchronized
  have CX : tC p s m [.ref (ad 0), .int p0, .int p1].toArray meth c b_T_open (some .boolean) 4 R_T D clS (tyC ta) := ⟨hx, hb, hr, hml, hown, ht, hlocks, hK, hN⟩
  have hS : va_S (tA 37 ad) s.heap s.heap [] := va_S.rf
  have hl := lv_entry ([.ref (ad 0), .int p0, .int p1]) (n := 4) (Nat.le_of_ble_eq_true rfl)
  rw [lg_entry_eq]
  generalize (lg_sl ([.ref (ad 0), .int p0, .int p1]) ++ List.replicate (4 - (lg_sl ([.ref (ad 0), .int p0, .int p1])).length) Slot.unset).toArray = ls at hl ⊢
  replace hl : lv_has ls 4 [(0, .ref (ad 0)), (1, .int p0), (2, .int p1)] := hl
  unfold mf_T_open at hf
  refine lv_aload_n hx hb d_T_open_0 rfl (lv_at hl 0 rfl) ?_
  refine lv_iload_n hx hb d_T_open_1 rfl (lv_at hl 1 rfl) ?_
  obtain ⟨s_1, hq1, hf⟩ := tb1_of hf
  refine tr_callv (va_runV (C := R_T) (As := [.int p0]) (rest := []) ⟨hx, hb, hml, hown, ht⟩ (mc_T_needStreet l hd hq1) ⟨(tw_cb (n := 1) ht wc_T_needStreet wd_34 wd_450 ⟨rfl, rfl⟩ (by decide +kernel) ⟨(Nat.le_of_ble_eq_true rfl), (Nat.le_of_ble_eq_true rfl)⟩), ht _ wd_452, ht _ wd_6⟩ ⟨tP_blind, va_recv hK hP (ci := 0) (q0 := 0) rfl rfl, fun U hU hW => ⟨rfl, by rw [hU]; exact hP, va_K.moved hW.alike hK, tW_warm hW hN⟩⟩ rfl rfl hl.1 rfl (lv_room (Nat.le_of_ble_eq_true rfl)) d_T_open_2 ⟨Nat.zero_le _, Nat.zero_le _⟩) hS (fun _ h => h.elim) (fun _ h => h.elim) (fun H locs hP hS => ?_)
  refine lv_aload_n hx hb d_T_open_5 rfl (lv_at hl 0 rfl) ?_
  refine va_get (ci := 0) (v := .ref (ad 4)) (C := R_T) (T := F_T) (N := 7) hx hb ht iw_T hown hK hP 0 rfl rfl 4 (by decide) (ht _ wd_249) (fun _ h9 => h9) rfl d_T_open_6 ?_
  refine va_get (ci := 4) (v := .ref (ad 22)) (C := R_S) (T := F_S) (N := 10) hx hb ht iw_S hown hK hP 4 rfl rfl 7 (by decide) (ht _ wd_171) (fun _ h9 => h9) rfl d_T_open_9 ?_
  refine lv_iload_n hx hb d_T_open_12 rfl (lv_at hl 1 rfl) ?_
  obtain ⟨hi2, hf⟩ := tg_of hf
  refine va_zald (f := s_1.2.1 13) hx hb hK hP 22 13 rfl rfl hi2 d_T_open_13 ?_
  refine lv_istore_n (lv' := [(3, .int (s_1.2.1 13 p0.toNatClampNeg)), (0, .ref (ad 0)), (1, .int p0), (2, .int p1)]) hx hb d_T_open_14 rfl hl (by decide) rfl (fun ls hl => ?_)
  refine lv_aload_n hx hb d_T_open_15 rfl (lv_at hl 1 rfl) ?_
  refine va_get (ci := 0) (v := .ref (ad 4)) (C := R_T) (T := F_T) (N := 7) hx hb ht iw_T hown hK hP 0 rfl rfl 4 (by decide) (ht _ wd_249) (fun _ h9 => h9) rfl d_T_open_16 ?_
  refine va_get (ci := 4) (v := .ref (ad 22)) (C := R_S) (T := F_S) (N := 10) hx hb ht iw_S hown hK hP 4 rfl rfl 7 (by decide) (ht _ wd_171) (fun _ h9 => h9) rfl d_T_open_19 ?_
  refine lv_iload_n hx hb d_T_open_22 rfl (lv_at hl 2 rfl) ?_
  refine lv_iload_n hx hb d_T_open_23 rfl (lv_at hl 3 rfl) ?_
  obtain ⟨hi3, hf⟩ := tg_of hf
  refine va_zast (f := s_1.2.1 13) hx hb hK hP (cwC_D hd) hS 22 13 rfl rfl hi3 d_T_open_24 (fun H locs hP _ hS => ?_)
  replace hP : va_P D clS (cwC ad ta (tI s_1 13 p0.toNatClampNeg (vp_nar .boolean p1))) H := hP
  refine lv_iload_n hx hb d_T_open_25 rfl (lv_at hl 0 rfl) ?_
  obtain ⟨hb01, hf⟩ := tb_of hf
  obtain ⟨rfl, rfl⟩ := tp_of hf
  exact W.zret (v := (s_1.2.1 13 p0.toNatClampNeg)) (ty := .boolean) hx hb hr (tb_nar hb01) (fun t ht hW => ⟨rfl, by rw [ht]; exact hP, hS.F ht⟩) hS.2.2 d_T_open_26
abbrev rm_T_needZone : Room := { frames := 0, cells := 0, slots := 0, locals := 0 }
set_option maxHeartbeats 4000000 in
set_option maxRecDepth 100000 in
theorem mc_T_needZone (l : Launch) {D : va_G} {ad : Nat → Nat} {ta : Nat → ClassId} (hd : tD 37 ad) {σ σ' : tS} {p0 : Int32} (hf : mf_T_needZone p0 σ = some σ') : Met l y_T_needZone (.code y_T_needZone b_T_needZone 2 none :: tw) rm_T_needZone (tP D clS (tyC ta) (cwC ad ta σ) [.ref (ad 0), .int p0]) (tQ D clS (cwC ad ta σ') none tNo) 0 0 tNo := by
  refine Met.ofW (cc := b_T_needZone) (maxL := 2) (ret := none) (by decide) rfl ?_
  intro p e s m args below meth c s₁ B hml hv
  obtain ⟨rfl, hP, hK, hN⟩ := hv
  have hx := B.exec
  have hb := B.bytes
  have hr := B.returns
  have ht : ∀ w ∈ tw, w.before [.ref (ad 0), .int p0].toArray s = true := fun w h => atoms_spec (ws := (.code y_T_needZone b_T_needZone 2 none :: tw)) B.pre w (List.mem_cons_of_mem _ h)
  have hown : s.vm.findClass R_T = some m.cls := findClass_of_methodNamed B.named
  have hlocks := B.notSynchronized
  have CX : tC p s m [.ref (ad 0), .int p0].toArray meth c b_T_needZone none 2 R_T D clS (tyC ta) := ⟨hx, hb, hr, hml, hown, ht, hlocks, hK, hN⟩
  have hS : va_S tNo s.heap s.heap [] := va_S.rf
  have hl := lv_entry ([.ref (ad 0), .int p0]) (n := 2) (Nat.le_of_ble_eq_true rfl)
  rw [lg_entry_eq]
  generalize (lg_sl ([.ref (ad 0), .int p0]) ++ List.replicate (2 - (lg_sl ([.ref (ad 0), .int p0])).length) Slot.unset).toArray = ls at hl ⊢
  replace hl : lv_has ls 2 [(0, .ref (ad 0)), (1, .int p0)] := hl
  unfold mf_T_needZone at hf
  refine lv_iload_n hx hb d_T_needZone_0 rfl (lv_at hl 1 rfl) ?_
  refine lv_if_lt (tgt := 15) hx hb d_T_needZone_1 (by decide) (fun hc => ?_) (fun hc => ?_)
  · replace hf := ti_pos hc hf
    exact tn_no hf
  · replace hf := ti_neg hc hf
    refine lv_iload_n hx hb d_T_needZone_4 rfl (lv_at hl 1 rfl) ?_
    refine lv_aload_n hx hb d_T_needZone_5 rfl (lv_at hl 0 rfl) ?_
    refine va_get (ci := 0) (v := .ref (ad 1)) (C := R_T) (T := F_T) (N := 7) hx hb ht iw_T hown hK hP 0 rfl rfl 1 (by decide) (ht _ wd_246) (fun _ h9 => h9) rfl d_T_needZone_6 ?_
    refine va_get (ci := 1) (v := .int (σ.1 1)) (C := R_Z) (T := F_Z) (N := 4) hx hb ht iw_Z hown hK hP 1 rfl rfl 0 (by decide) (ht _ wd_66) (fun _ h9 => h9) rfl d_T_needZone_9 ?_
    refine lv_icmp_lt (tgt := 25) hx hb d_T_needZone_12 (by decide) (fun hc => ?_) (fun hc => ?_)
    · replace hf := ti_pos hc hf
      obtain rfl := ts_of hf
      exact W.vret hx hb hr (fun t ht hW => ⟨rfl, by rw [ht]; exact hP, hS.F ht⟩) hS.2.2 d_T_needZone_25
    · replace hf := ti_neg hc hf
      exact tn_no hf
abbrev rm_T_pairOf : Room := { frames := 0, cells := 0, slots := 0, locals := 0 }
set_option maxHeartbeats 4000000 in
set_option maxRecDepth 100000 in
theorem mc_T_pairOf (l : Launch) {D : va_G} {ad : Nat → Nat} {ta : Nat → ClassId} (hd : tD 37 ad) {σ σ' : tS} {p0 : Int32} {p1 : Int32} {r : Int32} (hf : mf_T_pairOf p0 p1 σ = some (r, σ')) : Met l y_T_pairOf (.code y_T_pairOf b_T_pairOf 2 (some .int) :: tw) rm_T_pairOf (tP D clS (tyC ta) (cwC ad ta σ) [.int p0, .int p1]) (tQ D clS (cwC ad ta σ') (some (.int r)) tNo) 0 0 tNo := by
  refine Met.ofW (cc := b_T_pairOf) (maxL := 2) (ret := (some .int)) (by decide) rfl ?_
  intro p e s m args below meth c s₁ B hml hv
  obtain ⟨rfl, hP, hK, hN⟩ := hv
  have hx := B.exec
  have hb := B.bytes
  have hr := B.returns
  have ht : ∀ w ∈ tw, w.before [.int p0, .int p1].toArray s = true := fun w h => atoms_spec (ws := (.code y_T_pairOf b_T_pairOf 2 (some .int) :: tw)) B.pre w (List.mem_cons_of_mem _ h)
  have hown : s.vm.findClass R_T = some m.cls := findClass_of_methodNamed B.named
  have hlocks := B.notSynchronized
  have CX : tC p s m [.int p0, .int p1].toArray meth c b_T_pairOf (some .int) 2 R_T D clS (tyC ta) := ⟨hx, hb, hr, hml, hown, ht, hlocks, hK, hN⟩
  have hS : va_S tNo s.heap s.heap [] := va_S.rf
  have hl := lv_entry ([.int p0, .int p1]) (n := 2) (Nat.le_of_ble_eq_true rfl)
  rw [lg_entry_eq]
  generalize (lg_sl ([.int p0, .int p1]) ++ List.replicate (2 - (lg_sl ([.int p0, .int p1])).length) Slot.unset).toArray = ls at hl ⊢
  replace hl : lv_has ls 2 [(0, .int p0), (1, .int p1)] := hl
  unfold mf_T_pairOf at hf
  refine lv_iload_n hx hb d_T_pairOf_0 rfl (lv_at hl 0 rfl) ?_
  refine lv_bipush (v := (6 : Int32)) hx hb d_T_pairOf_1 (by decide) ?_
  refine lv_imul hx hb d_T_pairOf_3 ?_
  refine lv_iload_n hx hb d_T_pairOf_4 rfl (lv_at hl 1 rfl) ?_
  refine lv_iadd hx hb d_T_pairOf_5 ?_
  obtain ⟨rfl, rfl⟩ := tp_of hf
  exact W.iret (v := ((p0 * (6 : Int32)) + p1)) hx hb hr (fun t ht hW => ⟨rfl, by rw [ht]; exact hP, hS.F ht⟩) hS.2.2 d_T_pairOf_6
abbrev rm_T_weight : Room := { frames := 1, cells := 0, slots := 0, locals := 22 }
set_option maxHeartbeats 4000000 in
set_option maxRecDepth 100000 in
theorem mc_T_weight (l : Launch) {D : va_G} {ad : Nat → Nat} {ta : Nat → ClassId} (hd : tD 37 ad) {σ σ' : tS} {p0 : Int32} {p1 : Int32} {p2 : Int32} {r : Int32} (hf : mf_T_weight p0 p1 p2 σ = some (r, σ')) : Met l y_T_weight (.code y_T_weight b_T_weight 6 (some .int) :: tw) rm_T_weight (tP D clS (tyC ta) (cwC ad ta σ) [.ref (ad 0), .int p0, .int p1, .int p2]) (tQ D clS (cwC ad ta σ') (some (.int r)) (tA 37 ad)) 0 0 (tA 37 ad) := by
  refine Met.ofW (cc := b_T_weight) (maxL := 6) (ret := (some .int)) (by decide) rfl ?_
  intro p e s m args below meth c s₁ B hml hv
  obtain ⟨rfl, hP, hK, hN⟩ := hv
  have hx := B.exec
  have hb := B.bytes
  have hr := B.returns
  have ht : ∀ w ∈ tw, w.before [.ref (ad 0), .int p0, .int p1, .int p2].toArray s = true := fun w h => atoms_spec (ws := (.code y_T_weight b_T_weight 6 (some .int) :: tw)) B.pre w (List.mem_cons_of_mem _ h)
  have hown : s.vm.findClass R_T = some m.cls := findClass_of_methodNamed B.named
  have hlocks := B.notSynchronized
  have CX : tC p s m [.ref (ad 0), .int p0, .int p1, .int p2].toArray meth c b_T_weight (some .int) 6 R_T D clS (tyC ta) := ⟨hx, hb, hr, hml, hown, ht, hlocks, hK, hN⟩
  have hS : va_S (tA 37 ad) s.heap s.heap [] := va_S.rf
  have hl := lv_entry ([.ref (ad 0), .int p0, .int p1, .int p2]) (n := 6) (Nat.le_of_ble_eq_true rfl)
  rw [lg_entry_eq]
  generalize (lg_sl ([.ref (ad 0), .int p0, .int p1, .int p2]) ++ List.replicate (6 - (lg_sl ([.ref (ad 0), .int p0, .int p1, .int p2])).length) Slot.unset).toArray = ls at hl ⊢
  replace hl : lv_has ls 6 [(0, .ref (ad 0)), (1, .int p0), (2, .int p1), (3, .int p2)] := hl
  unfold mf_T_weight at hf
  refine lv_aload_n hx hb d_T_weight_0 rfl (lv_at hl 0 rfl) ?_
  refine lv_iload_n hx hb d_T_weight_1 rfl (lv_at hl 1 rfl) ?_
  obtain ⟨s_1, hq1, hf⟩ := tb1_of hf
  refine tr_callv (va_runV (C := R_T) (As := [.int p0]) (rest := []) ⟨hx, hb, hml, hown, ht⟩ (mc_T_needZone l hd hq1) ⟨(tw_cb (n := 1) ht wc_T_needZone wd_34 wd_469 ⟨rfl, rfl⟩ (by decide +kernel) ⟨(Nat.le_of_ble_eq_true rfl), (Nat.le_of_ble_eq_true rfl)⟩), ht _ wd_471, ht _ wd_7⟩ ⟨tP_blind, va_recv hK hP (ci := 0) (q0 := 0) rfl rfl, fun U hU hW => ⟨rfl, by rw [hU]; exact hP, va_K.moved hW.alike hK, tW_warm hW hN⟩⟩ rfl rfl hl.1 rfl (lv_room (Nat.le_of_ble_eq_true rfl)) d_T_weight_2 ⟨Nat.zero_le _, Nat.zero_le _⟩) hS (fun _ h => h.elim) (fun _ h => h.elim) (fun H locs hP hS => ?_)
  refine lv_aload_n hx hb d_T_weight_5 rfl (lv_at hl 0 rfl) ?_
  refine lv_iload_n hx hb d_T_weight_6 rfl (lv_at hl 2 rfl) ?_
  obtain ⟨s_2, hq2, hf⟩ := tb1_of hf
  refine tr_callv (va_runV (C := R_T) (As := [.int p1]) (rest := []) ⟨hx, hb, hml, hown, ht⟩ (mc_T_needZone l hd hq2) ⟨(tw_cb (n := 1) ht wc_T_needZone wd_34 wd_469 ⟨rfl, rfl⟩ (by decide +kernel) ⟨(Nat.le_of_ble_eq_true rfl), (Nat.le_of_ble_eq_true rfl)⟩), ht _ wd_471, ht _ wd_7⟩ ⟨tP_blind, va_recv hK hP (ci := 0) (q0 := 0) rfl rfl, fun U hU hW => ⟨rfl, by rw [hU]; exact hP, va_K.moved hW.alike hK, tW_warm hW hN⟩⟩ rfl rfl hl.1 rfl (lv_room (Nat.le_of_ble_eq_true rfl)) d_T_weight_7 ⟨Nat.zero_le _, Nat.zero_le _⟩) hS (fun _ h => h.elim) (fun _ h => h.elim) (fun H locs hP hS => ?_)
  refine lv_iload_n hx hb d_T_weight_10 rfl (lv_at hl 3 rfl) ?_
  refine lv_iconst (v := (0 : Int32)) hx hb d_T_weight_11 (by decide) ?_
  refine lv_sipush (v := (1000 : Int32)) hx hb d_T_weight_12 (by decide) ?_
  obtain ⟨s_3, hq3, hf⟩ := tb1_of hf
  refine tr_callv (va_runS (As := [.int p2, .int (0 : Int32), .int (1000 : Int32)]) (rest := []) ⟨hx, hb, hml, hown, ht⟩ (mc_T_needWithin l hd hq3) ⟨(tw_cb (n := 3) ht wc_T_needWithin wd_34 wd_420 ⟨rfl, rfl⟩ (by decide +kernel) ⟨(Nat.le_of_ble_eq_true rfl), (Nat.le_of_ble_eq_true rfl)⟩), ht _ wd_421⟩ ⟨tP_blind, fun U hU hW => ⟨rfl, by rw [hU]; exact hP, va_K.moved hW.alike hK, tW_warm hW hN⟩⟩ rfl rfl hl.1 rfl (lv_room (Nat.le_of_ble_eq_true rfl)) d_T_weight_15 ⟨Nat.zero_le _, Nat.zero_le _⟩) hS (fun _ h => h.elim) (fun _ h => h.elim) (fun H locs hP hS => ?_)
  refine lv_iload_n hx hb d_T_weight_18 rfl (lv_at hl 1 rfl) ?_
  refine lv_iload_n hx hb d_T_weight_19 rfl (lv_at hl 2 rfl) ?_
  obtain ⟨r_4, s_4, hq4, hf⟩ := tb2_of hf
  refine tr_calli (va_runS (As := [.int p0, .int p1]) (rest := []) ⟨hx, hb, hml, hown, ht⟩ (mc_T_pairOf l hd hq4) ⟨(tw_cb (n := 2) ht wc_T_pairOf wd_34 wd_313 ⟨rfl, rfl⟩ (by decide +kernel) ⟨(Nat.le_of_ble_eq_true rfl), (Nat.le_of_ble_eq_true rfl)⟩), ht _ wd_314⟩ ⟨tP_blind, fun U hU hW => ⟨rfl, by rw [hU]; exact hP, va_K.moved hW.alike hK, tW_warm hW hN⟩⟩ rfl rfl hl.1 rfl (lv_room (Nat.le_of_ble_eq_true rfl)) d_T_weight_20 ⟨Nat.zero_le _, Nat.zero_le _⟩) hS (fun _ h => h.elim) (fun _ h => h.elim) (fun H locs hP hS => ?_)
  refine lv_istore (lv' := [(4, .int r_4), (0, .ref (ad 0)), (1, .int p0), (2, .int p1), (3, .int p2)]) hx hb d_T_weight_23 hl (by decide) rfl (fun ls hl => ?_)
  refine lv_aload_n hx hb d_T_weight_25 rfl (lv_at hl 1 rfl) ?_
  refine va_get (ci := 0) (v := .ref (ad 2)) (C := R_T) (T := F_T) (N := 7) hx hb ht iw_T hown hK hP 0 rfl rfl 2 (by decide) (ht _ wd_247) (fun _ h9 => h9) rfl d_T_weight_26 ?_
  refine va_get (ci := 2) (v := .ref (ad 12)) (C := R_B) (T := F_B) (N := 4) hx hb ht iw_B hown hK hP 2 rfl rfl 0 (by decide) (ht _ wd_116) (fun _ h9 => h9) rfl d_T_weight_29 ?_
  refine lv_iload hx hb d_T_weight_32 (lv_at hl 0 rfl) ?_
  obtain ⟨hi5, hf⟩ := tg_of hf
  refine va_iald (f := s_4.2.1 3) hx hb hK hP 12 3 rfl rfl hi5 d_T_weight_34 ?_
  refine lv_istore (lv' := [(5, .int (s_4.2.1 3 r_4.toNatClampNeg)), (4, .int r_4), (0, .ref (ad 0)), (1, .int p0), (2, .int p1), (3, .int p2)]) hx hb d_T_weight_35 hl (by decide) rfl (fun ls hl => ?_)
  refine lv_aload_n hx hb d_T_weight_37 rfl (lv_at hl 2 rfl) ?_
  refine va_get (ci := 0) (v := .ref (ad 2)) (C := R_T) (T := F_T) (N := 7) hx hb ht iw_T hown hK hP 0 rfl rfl 2 (by decide) (ht _ wd_247) (fun _ h9 => h9) rfl d_T_weight_38 ?_
  refine va_get (ci := 2) (v := .ref (ad 12)) (C := R_B) (T := F_B) (N := 4) hx hb ht iw_B hown hK hP 2 rfl rfl 0 (by decide) (ht _ wd_116) (fun _ h9 => h9) rfl d_T_weight_41 ?_
  refine lv_iload hx hb d_T_weight_44 (lv_at hl 1 rfl) ?_
  refine lv_iload_n hx hb d_T_weight_46 rfl (lv_at hl 5 rfl) ?_
  obtain ⟨hi6, hf⟩ := tg_of hf
  refine va_iast (f := s_4.2.1 3) hx hb hK hP (cwC_D hd) hS 12 3 rfl rfl hi6 d_T_weight_47 (fun H locs hP _ hS => ?_)
  replace hP : va_P D clS (cwC ad ta (tI s_4 3 r_4.toNatClampNeg p2)) H := hP
  refine lv_iload hx hb d_T_weight_48 (lv_at hl 0 rfl) ?_
  obtain ⟨rfl, rfl⟩ := tp_of hf
  exact W.iret (v := (s_4.2.1 3 r_4.toNatClampNeg)) hx hb hr (fun t ht hW => ⟨rfl, by rw [ht]; exact hP, hS.F ht⟩) hS.2.2 d_T_weight_50
abbrev rm_T_size : Room := { frames := 1, cells := 0, slots := 0, locals := 22 }
set_option maxHeartbeats 4000000 in
set_option maxRecDepth 100000 in
theorem mc_T_size (l : Launch) {D : va_G} {ad : Nat → Nat} {ta : Nat → ClassId} (hd : tD 37 ad) {σ σ' : tS} {p0 : Int32} {p1 : Int32} {p2 : Int32} {r : Int32} (hf : mf_T_size p0 p1 p2 σ = some (r, σ')) : Met l y_T_size (.code y_T_size b_T_size 6 (some .int) :: tw) rm_T_size (tP D clS (tyC ta) (cwC ad ta σ) [.ref (ad 0), .int p0, .int p1, .int p2]) (tQ D clS (cwC ad ta σ') (some (.int r)) (tA 37 ad)) 0 0 (tA 37 ad) := by
  refine Met.ofW (cc := b_T_size) (maxL := 6) (ret := (some .int)) (by decide) rfl ?_
  intro p e s m args below meth c s₁ B hml hv
  obtain ⟨rfl, hP, hK, hN⟩ := hv
  have hx := B.exec
  have hb := B.bytes
  have hr := B.returns
  have ht : ∀ w ∈ tw, w.before [.ref (ad 0), .int p0, .int p1, .int p2].toArray s = true := fun w h => atoms_spec (ws := (.code y_T_size b_T_size 6 (some .int) :: tw)) B.pre w (List.mem_cons_of_mem _ h)
  have hown : s.vm.findClass R_T = some m.cls := findClass_of_methodNamed B.named
  have hlocks := B.notSynchronized
  have CX : tC p s m [.ref (ad 0), .int p0, .int p1, .int p2].toArray meth c b_T_size (some .int) 6 R_T D clS (tyC ta) := ⟨hx, hb, hr, hml, hown, ht, hlocks, hK, hN⟩
  have hS : va_S (tA 37 ad) s.heap s.heap [] := va_S.rf
  have hl := lv_entry ([.ref (ad 0), .int p0, .int p1, .int p2]) (n := 6) (Nat.le_of_ble_eq_true rfl)
  rw [lg_entry_eq]
  generalize (lg_sl ([.ref (ad 0), .int p0, .int p1, .int p2]) ++ List.replicate (6 - (lg_sl ([.ref (ad 0), .int p0, .int p1, .int p2])).length) Slot.unset).toArray = ls at hl ⊢
  replace hl : lv_has ls 6 [(0, .ref (ad 0)), (1, .int p0), (2, .int p1), (3, .int p2)] := hl
  unfold mf_T_size at hf
  refine lv_aload_n hx hb d_T_size_0 rfl (lv_at hl 0 rfl) ?_
  refine lv_iload_n hx hb d_T_size_1 rfl (lv_at hl 1 rfl) ?_
  obtain ⟨s_1, hq1, hf⟩ := tb1_of hf
  refine tr_callv (va_runV (C := R_T) (As := [.int p0]) (rest := []) ⟨hx, hb, hml, hown, ht⟩ (mc_T_needZone l hd hq1) ⟨(tw_cb (n := 1) ht wc_T_needZone wd_34 wd_469 ⟨rfl, rfl⟩ (by decide +kernel) ⟨(Nat.le_of_ble_eq_true rfl), (Nat.le_of_ble_eq_true rfl)⟩), ht _ wd_471, ht _ wd_7⟩ ⟨tP_blind, va_recv hK hP (ci := 0) (q0 := 0) rfl rfl, fun U hU hW => ⟨rfl, by rw [hU]; exact hP, va_K.moved hW.alike hK, tW_warm hW hN⟩⟩ rfl rfl hl.1 rfl (lv_room (Nat.le_of_ble_eq_true rfl)) d_T_size_2 ⟨Nat.zero_le _, Nat.zero_le _⟩) hS (fun _ h => h.elim) (fun _ h => h.elim) (fun H locs hP hS => ?_)
  refine lv_iload_n hx hb d_T_size_5 rfl (lv_at hl 2 rfl) ?_
  refine lv_iconst (v := (0 : Int32)) hx hb d_T_size_6 (by decide) ?_
  refine lv_iconst (v := (1 : Int32)) hx hb d_T_size_7 (by decide) ?_
  obtain ⟨s_2, hq2, hf⟩ := tb1_of hf
  refine tr_callv (va_runS (As := [.int p1, .int (0 : Int32), .int (1 : Int32)]) (rest := []) ⟨hx, hb, hml, hown, ht⟩ (mc_T_needWithin l hd hq2) ⟨(tw_cb (n := 3) ht wc_T_needWithin wd_34 wd_420 ⟨rfl, rfl⟩ (by decide +kernel) ⟨(Nat.le_of_ble_eq_true rfl), (Nat.le_of_ble_eq_true rfl)⟩), ht _ wd_421⟩ ⟨tP_blind, fun U hU hW => ⟨rfl, by rw [hU]; exact hP, va_K.moved hW.alike hK, tW_warm hW hN⟩⟩ rfl rfl hl.1 rfl (lv_room (Nat.le_of_ble_eq_true rfl)) d_T_size_8 ⟨Nat.zero_le _, Nat.zero_le _⟩) hS (fun _ h => h.elim) (fun _ h => h.elim) (fun H locs hP hS => ?_)
  refine lv_iload_n hx hb d_T_size_11 rfl (lv_at hl 3 rfl) ?_
  refine lv_iconst (v := (0 : Int32)) hx hb d_T_size_12 (by decide) ?_
  refine lv_ldc (v := (100000 : Int32)) hx hb hown (ht _ wd_419) d_T_size_13 ?_
  obtain ⟨s_3, hq3, hf⟩ := tb1_of hf
  refine tr_callv (va_runS (As := [.int p2, .int (0 : Int32), .int (100000 : Int32)]) (rest := []) ⟨hx, hb, hml, hown, ht⟩ (mc_T_needWithin l hd hq3) ⟨(tw_cb (n := 3) ht wc_T_needWithin wd_34 wd_420 ⟨rfl, rfl⟩ (by decide +kernel) ⟨(Nat.le_of_ble_eq_true rfl), (Nat.le_of_ble_eq_true rfl)⟩), ht _ wd_421⟩ ⟨tP_blind, fun U hU hW => ⟨rfl, by rw [hU]; exact hP, va_K.moved hW.alike hK, tW_warm hW hN⟩⟩ rfl rfl hl.1 rfl (lv_room (Nat.le_of_ble_eq_true rfl)) d_T_size_15 ⟨Nat.zero_le _, Nat.zero_le _⟩) hS (fun _ h => h.elim) (fun _ h => h.elim) (fun H locs hP hS => ?_)
  refine lv_iload_n hx hb d_T_size_18 rfl (lv_at hl 2 rfl) ?_
  refine lv_if_ne (tgt := 32) hx hb d_T_size_19 (by decide) (fun hc => ?_) (fun hc => ?_)
  · replace hf := ti_neg hc hf
    refine lv_aload_n hx hb d_T_size_32 rfl (lv_at hl 0 rfl) ?_
    refine va_get (ci := 0) (v := .ref (ad 1)) (C := R_T) (T := F_T) (N := 7) hx hb ht iw_T hown hK hP 0 rfl rfl 1 (by decide) (ht _ wd_246) (fun _ h9 => h9) rfl d_T_size_33 ?_
    refine va_get (ci := 1) (v := .ref (ad 11)) (C := R_Z) (T := F_Z) (N := 4) hx hb ht iw_Z hown hK hP 1 rfl rfl 3 (by decide) (ht _ wd_74) (fun _ h9 => h9) rfl d_T_size_36 ?_
    refine lv_astore (lv' := [(4, .ref (ad 11)), (0, .ref (ad 0)), (1, .int p0), (2, .int p1), (3, .int p2)]) hx hb d_T_size_39 hl (by decide) rfl (fun ls hl => ?_)
    refine lv_aload hx hb d_T_size_41 (lv_at hl 0 rfl) ?_
    refine lv_iload_n hx hb d_T_size_43 rfl (lv_at hl 2 rfl) ?_
    obtain ⟨hi4, hf⟩ := tg_of hf
    refine va_iald (f := s_3.2.1 2) hx hb hK hP 11 2 rfl rfl hi4 d_T_size_44 ?_
    refine lv_istore (lv' := [(5, .int (s_3.2.1 2 p0.toNatClampNeg)), (4, .ref (ad 11)), (0, .ref (ad 0)), (1, .int p0), (2, .int p1), (3, .int p2)]) hx hb d_T_size_45 hl (by decide) rfl (fun ls hl => ?_)
    refine lv_aload hx hb d_T_size_47 (lv_at hl 1 rfl) ?_
    refine lv_iload_n hx hb d_T_size_49 rfl (lv_at hl 3 rfl) ?_
    refine lv_iload_n hx hb d_T_size_50 rfl (lv_at hl 5 rfl) ?_
    obtain ⟨hi5, hf⟩ := tg_of hf
    refine va_iast (f := s_3.2.1 2) hx hb hK hP (cwC_D hd) hS 11 2 rfl rfl hi5 d_T_size_51 (fun H locs hP _ hS => ?_)
    replace hP : va_P D clS (cwC ad ta (tI s_3 2 p0.toNatClampNeg p2)) H := hP
    refine lv_iload hx hb d_T_size_52 (lv_at hl 0 rfl) ?_
    obtain ⟨rfl, rfl⟩ := tp_of hf
    exact W.iret (v := (s_3.2.1 2 p0.toNatClampNeg)) hx hb hr (fun t ht hW => ⟨rfl, by rw [ht]; exact hP, hS.F ht⟩) hS.2.2 d_T_size_54
  · replace hf := ti_pos hc hf
    refine lv_aload_n hx hb d_T_size_22 rfl (lv_at hl 0 rfl) ?_
    refine va_get (ci := 0) (v := .ref (ad 1)) (C := R_T) (T := F_T) (N := 7) hx hb ht iw_T hown hK hP 0 rfl rfl 1 (by decide) (ht _ wd_246) (fun _ h9 => h9) rfl d_T_size_23 ?_
    refine va_get (ci := 1) (v := .ref (ad 10)) (C := R_Z) (T := F_Z) (N := 4) hx hb ht iw_Z hown hK hP 1 rfl rfl 2 (by decide) (ht _ wd_71) (fun _ h9 => h9) rfl d_T_size_26 ?_
    refine lv_goto (tgt := 39) hx hb d_T_size_29 (by decide) ?_
    refine lv_astore (lv' := [(4, .ref (ad 10)), (0, .ref (ad 0)), (1, .int p0), (2, .int p1), (3, .int p2)]) hx hb d_T_size_39 hl (by decide) rfl (fun ls hl => ?_)
    refine lv_aload hx hb d_T_size_41 (lv_at hl 0 rfl) ?_
    refine lv_iload_n hx hb d_T_size_43 rfl (lv_at hl 2 rfl) ?_
    obtain ⟨hi6, hf⟩ := tg_of hf
    refine va_iald (f := s_3.2.1 1) hx hb hK hP 10 1 rfl rfl hi6 d_T_size_44 ?_
    refine lv_istore (lv' := [(5, .int (s_3.2.1 1 p0.toNatClampNeg)), (4, .ref (ad 10)), (0, .ref (ad 0)), (1, .int p0), (2, .int p1), (3, .int p2)]) hx hb d_T_size_45 hl (by decide) rfl (fun ls hl => ?_)
    refine lv_aload hx hb d_T_size_47 (lv_at hl 1 rfl) ?_
    refine lv_iload_n hx hb d_T_size_49 rfl (lv_at hl 3 rfl) ?_
    refine lv_iload_n hx hb d_T_size_50 rfl (lv_at hl 5 rfl) ?_
    obtain ⟨hi7, hf⟩ := tg_of hf
    refine va_iast (f := s_3.2.1 1) hx hb hK hP (cwC_D hd) hS 10 1 rfl rfl hi7 d_T_size_51 (fun H locs hP _ hS => ?_)
    replace hP : va_P D clS (cwC ad ta (tI s_3 1 p0.toNatClampNeg p2)) H := hP
    refine lv_iload hx hb d_T_size_52 (lv_at hl 0 rfl) ?_
    obtain ⟨rfl, rfl⟩ := tp_of hf
    exact W.iret (v := (s_3.2.1 1 p0.toNatClampNeg)) hx hb hr (fun t ht hW => ⟨rfl, by rw [ht]; exact hP, hS.F ht⟩) hS.2.2 d_T_size_54
abbrev rm_H7_giveOne : Room := { frames := 0, cells := 0, slots := 0, locals := 0 }
set_option maxHeartbeats 4000000 in
set_option maxRecDepth 100000 in
theorem mw_H7_giveOne_4 {p : Program} {l : Launch} {e : Env} {s : State} {m : MethodId} {args : Array Value} {below : List Frame} {meth : Method} {c : Code} {D : va_G} {ad : Nat → Nat} {ta : Nat → ClassId} (CX : tC p s m args meth c b_H_giveOne none 4 R_H D clS (tyC ta)) (hd : tD 37 ad) : ∀ (k : Nat) (v1 : Int32) (v2 : Int32) (v3 : Int32) (σ : tS) (res : tS), ml_H7_giveOne_4 k v1 v2 v3 σ = some res → ∀ (H : Heap) (locs : List Loc), va_P D clS (cwC ad ta σ) H → va_S (tA 37 ad) s.heap H locs → ∀ (ls : Array Slot), lv_has ls 4 [(0, .ref (ad 7)), (1, .int v1), (2, .int v2), (3, .int v3)] → W p l e rm_H7_giveOne s m args below meth c H locs 0 0 (MQ below (tQ D clS (cwC ad ta res) none (tA 37 ad)) args s 0 0 (tA 37 ad)) (F0 m 4 ls []) := by
  obtain ⟨hx, hb, hr, hml, hown, ht, hlocks, hK, hN⟩ := id CX
  intro k
  induction k with
  | zero =>
    intro v1 v2 v3 σ res hf
    exact tn_no hf
  | succ k ih =>
    intro v1 v2 v3 σ res hf H locs hP hS ls hl
    replace hf : ms_H7_giveOne_4 (ml_H7_giveOne_4 k) v1 v2 v3 σ = some res := hf
    unfold ms_H7_giveOne_4 at hf
    refine lv_iload_n hx hb d_H_giveOne_4 rfl (lv_at hl 3 rfl) ?_
    refine lv_iload_n hx hb d_H_giveOne_5 rfl (lv_at hl 1 rfl) ?_
    refine lv_icmp_ge (tgt := 33) hx hb d_H_giveOne_6 (by decide) (fun hc => ?_) (fun hc => ?_)
    · replace hf := ti_pos hc hf
      refine lv_aload_n hx hb d_H_giveOne_33 rfl (lv_at hl 0 rfl) ?_
      refine va_get (ci := 7) (v := .ref (ad 33)) (C := R_H) (T := F_H) (N := 3) hx hb ht iw_H hown hK hP 7 rfl rfl 2 (by decide) (ht _ wd_101) (fun _ h9 => h9) rfl d_H_giveOne_34 ?_
      refine lv_iload_n hx hb d_H_giveOne_37 rfl (lv_at hl 2 rfl) ?_
      refine lv_dup2_11 hx hb d_H_giveOne_38 rfl rfl ?_
      obtain ⟨hi1, hf⟩ := tg_of hf
      refine va_iald (f := σ.2.1 21) hx hb hK hP 33 24 rfl rfl hi1 d_H_giveOne_39 ?_
      refine lv_iconst (v := (1 : Int32)) hx hb d_H_giveOne_40 (by decide) ?_
      refine lv_iadd hx hb d_H_giveOne_41 ?_
      obtain ⟨hi2, hf⟩ := tg_of hf
      refine va_iast (f := σ.2.1 21) hx hb hK hP (cwC_D hd) hS 33 24 rfl rfl hi2 d_H_giveOne_42 (fun H locs hP _ hS => ?_)
      replace hP : va_P D clS (cwC ad ta (tI σ 21 v2.toNatClampNeg ((σ.2.1 21 v2.toNatClampNeg) + (1 : Int32)))) H := hP
      refine lv_aload_n hx hb d_H_giveOne_43 rfl (lv_at hl 0 rfl) ?_
      refine va_get (ci := 7) (v := .ref (ad 32)) (C := R_H) (T := F_H) (N := 3) hx hb ht iw_H hown hK hP 7 rfl rfl 1 (by decide) (ht _ wd_100) (fun _ h9 => h9) rfl d_H_giveOne_44 ?_
      refine lv_iload_n hx hb d_H_giveOne_47 rfl (lv_at hl 2 rfl) ?_
      refine lv_ldc2 (v := ((-1) : Int64)) hx hb hown (ht _ wd_506) d_H_giveOne_48 ?_
      obtain ⟨hi3, hf⟩ := tg_of hf
      refine va_last (f := σ.2.2 2) hx hb hK hP (cwC_D hd) hS 32 23 rfl rfl hi3 d_H_giveOne_51 (fun H locs hP _ hS => ?_)
      replace hP : va_P D clS (cwC ad ta (tJ (tI σ 21 v2.toNatClampNeg ((σ.2.1 21 v2.toNatClampNeg) + (1 : Int32))) 2 v2.toNatClampNeg ((-1) : Int64))) H := hP
      obtain rfl := ts_of hf
      exact W.vret hx hb hr (fun t ht hW => ⟨rfl, by rw [ht]; exact hP, hS.F ht⟩) hS.2.2 d_H_giveOne_52
    · replace hf := ti_neg hc hf
      refine lv_aload_n hx hb d_H_giveOne_9 rfl (lv_at hl 0 rfl) ?_
      refine va_get (ci := 7) (v := .ref (ad 32)) (C := R_H) (T := F_H) (N := 3) hx hb ht iw_H hown hK hP 7 rfl rfl 1 (by decide) (ht _ wd_100) (fun _ h9 => h9) rfl d_H_giveOne_10 ?_
      refine lv_iload_n hx hb d_H_giveOne_13 rfl (lv_at hl 3 rfl) ?_
      obtain ⟨hi4, hf⟩ := tg_of hf
      refine va_lald (f := σ.2.2 2) hx hb hK hP 32 23 rfl rfl hi4 d_H_giveOne_14 ?_
      refine lv_aload_n hx hb d_H_giveOne_15 rfl (lv_at hl 0 rfl) ?_
      refine va_get (ci := 7) (v := .ref (ad 32)) (C := R_H) (T := F_H) (N := 3) hx hb ht iw_H hown hK hP 7 rfl rfl 1 (by decide) (ht _ wd_100) (fun _ h9 => h9) rfl d_H_giveOne_16 ?_
      refine lv_iload_n hx hb d_H_giveOne_19 rfl (lv_at hl 2 rfl) ?_
      obtain ⟨hi5, hf⟩ := tg_of hf
      refine va_lald (f := σ.2.2 2) hx hb hK hP 32 23 rfl rfl hi5 d_H_giveOne_20 ?_
      refine W.lcmp hx hb d_H_giveOne_21 ?_
      refine lv_if_le (tgt := 27) hx hb d_H_giveOne_22 (by decide) (fun hc => ?_) (fun hc => ?_)
      · replace hf := ti_pos hc hf
        refine lv_iinc (v := (v3 + (1 : Int32))) (lv' := [(3, .int (v3 + (1 : Int32))), (0, .ref (ad 7)), (1, .int v1), (2, .int v2)]) hx hb d_H_giveOne_27 hl (k := 3) rfl rfl (by decide) rfl (fun ls hl => ?_)
        refine lv_goto (tgt := 4) hx hb d_H_giveOne_30 (by decide) ?_
        exact ih _ _ _ _ _ hf _ _ hP hS _ (lv_sub hl [1, 2, 3, 0] rfl)
      · replace hf := ti_neg hc hf
        refine lv_iload_n hx hb d_H_giveOne_25 rfl (lv_at hl 3 rfl) ?_
        refine lv_istore_n (lv' := [(2, .int v3), (0, .ref (ad 7)), (1, .int v1), (3, .int v3)]) hx hb d_H_giveOne_26 rfl hl (by decide) rfl (fun ls hl => ?_)
        refine lv_iinc (v := (v3 + (1 : Int32))) (lv' := [(3, .int (v3 + (1 : Int32))), (2, .int v3), (0, .ref (ad 7)), (1, .int v1)]) hx hb d_H_giveOne_27 hl (k := 3) rfl rfl (by decide) rfl (fun ls hl => ?_)
        refine lv_goto (tgt := 4) hx hb d_H_giveOne_30 (by decide) ?_
        exact ih _ _ _ _ _ hf _ _ hP hS _ (lv_sub hl [2, 3, 1, 0] rfl)
set_option maxHeartbeats 4000000 in
set_option maxRecDepth 100000 in
theorem mc_H7_giveOne (l : Launch) {D : va_G} {ad : Nat → Nat} {ta : Nat → ClassId} (hd : tD 37 ad) {σ σ' : tS} {p0 : Int32} (hf : mf_H7_giveOne p0 σ = some σ') : Met l y_H_giveOne (.code y_H_giveOne b_H_giveOne 4 none :: tw) rm_H7_giveOne (tP D clS (tyC ta) (cwC ad ta σ) [.ref (ad 7), .int p0]) (tQ D clS (cwC ad ta σ') none (tA 37 ad)) 0 0 (tA 37 ad) := by
  refine Met.ofW (cc := b_H_giveOne) (maxL := 4) (ret := none) (by decide) rfl ?_
  intro p e s m args below meth c s₁ B hml hv
  obtain ⟨rfl, hP, hK, hN⟩ := hv
  have hx := B.exec
  have hb := B.bytes
  have hr := B.returns
  have ht : ∀ w ∈ tw, w.before [.ref (ad 7), .int p0].toArray s = true := fun w h => atoms_spec (ws := (.code y_H_giveOne b_H_giveOne 4 none :: tw)) B.pre w (List.mem_cons_of_mem _ h)
  have hown : s.vm.findClass R_H = some m.cls := findClass_of_methodNamed B.named
  have hlocks := B.notSynchronized
  have CX : tC p s m [.ref (ad 7), .int p0].toArray meth c b_H_giveOne none 4 R_H D clS (tyC ta) := ⟨hx, hb, hr, hml, hown, ht, hlocks, hK, hN⟩
  have hS : va_S (tA 37 ad) s.heap s.heap [] := va_S.rf
  have hl := lv_entry ([.ref (ad 7), .int p0]) (n := 4) (Nat.le_of_ble_eq_true rfl)
  rw [lg_entry_eq]
  generalize (lg_sl ([.ref (ad 7), .int p0]) ++ List.replicate (4 - (lg_sl ([.ref (ad 7), .int p0])).length) Slot.unset).toArray = ls at hl ⊢
  replace hl : lv_has ls 4 [(0, .ref (ad 7)), (1, .int p0)] := hl
  unfold mf_H7_giveOne at hf
  refine lv_iconst (v := (0 : Int32)) hx hb d_H_giveOne_0 (by decide) ?_
  refine lv_istore_n (lv' := [(2, .int (0 : Int32)), (0, .ref (ad 7)), (1, .int p0)]) hx hb d_H_giveOne_1 rfl hl (by decide) rfl (fun ls hl => ?_)
  refine lv_iconst (v := (1 : Int32)) hx hb d_H_giveOne_2 (by decide) ?_
  refine lv_istore_n (lv' := [(3, .int (1 : Int32)), (2, .int (0 : Int32)), (0, .ref (ad 7)), (1, .int p0)]) hx hb d_H_giveOne_3 rfl hl (by decide) rfl (fun ls hl => ?_)
  exact mw_H7_giveOne_4 CX hd _ _ _ _ _ _ hf _ _ hP hS _ (lv_sub hl [2, 3, 1, 0] rfl)
abbrev rm_H7_shareOut : Room := { frames := 1, cells := 0, slots := 0, locals := 24 }
set_option maxHeartbeats 4000000 in
set_option maxRecDepth 100000 in
theorem mw_H7_shareOut_110 {p : Program} {l : Launch} {e : Env} {s : State} {m : MethodId} {args : Array Value} {below : List Frame} {meth : Method} {c : Code} {D : va_G} {ad : Nat → Nat} {ta : Nat → ClassId} (CX : tC p s m args meth c b_H_shareOut none 9 R_H D clS (tyC ta)) (hd : tD 37 ad) : ∀ (k : Nat) (v1 : Int32) (v2 : Int32) (v3 : Int64) (v5 : Int32) (v6 : Int32) (σ : tS) (res : tS), ml_H7_shareOut_110 k v1 v2 v3 v5 v6 σ = some res → ∀ (H : Heap) (locs : List Loc), va_P D clS (cwC ad ta σ) H → va_S (tA 37 ad) s.heap H locs → ∀ (ls : Array Slot), lv_has ls 9 [(0, .ref (ad 7)), (1, .int v1), (2, .int v2), (3, .long v3), (5, .int v5), (6, .int v6)] → W p l e rm_H7_shareOut s m args below meth c H locs 0 0 (MQ below (tQ D clS (cwC ad ta res) none (tA 37 ad)) args s 0 0 (tA 37 ad)) (F0 m 110 ls []) := by
  obtain ⟨hx, hb, hr, hml, hown, ht, hlocks, hK, hN⟩ := id CX
  intro k
  induction k with
  | zero =>
    intro v1 v2 v3 v5 v6 σ res hf
    exact tn_no hf
  | succ k ih =>
    intro v1 v2 v3 v5 v6 σ res hf H locs hP hS ls hl
    replace hf : ms_H7_shareOut_110 (ml_H7_shareOut_110 k) v1 v2 v3 v5 v6 σ = some res := hf
    unfold ms_H7_shareOut_110 at hf
    refine lv_iload hx hb d_H_shareOut_110 (lv_at hl 5 rfl) ?_
    refine lv_iload hx hb d_H_shareOut_112 (lv_at hl 4 rfl) ?_
    refine lv_icmp_ge (tgt := 128) hx hb d_H_shareOut_114 (by decide) (fun hc => ?_) (fun hc => ?_)
    · replace hf := ti_pos hc hf
      obtain rfl := ts_of hf
      exact W.vret hx hb hr (fun t ht hW => ⟨rfl, by rw [ht]; exact hP, hS.F ht⟩) hS.2.2 d_H_shareOut_128
    · replace hf := ti_neg hc hf
      refine lv_aload_n hx hb d_H_shareOut_117 rfl (lv_at hl 0 rfl) ?_
      refine lv_iload_n hx hb d_H_shareOut_118 rfl (lv_at hl 2 rfl) ?_
      obtain ⟨s_1, hq1, hf⟩ := tb1_of hf
      refine tr_callv (va_runV (C := R_H) (As := [.int v2]) (rest := []) ⟨hx, hb, hml, hown, ht⟩ (mc_H7_giveOne l hd hq1) ⟨(tw_cb (n := 1) ht wc_H_giveOne wd_37 wd_502 ⟨rfl, rfl⟩ (by decide +kernel) ⟨(Nat.le_of_ble_eq_true rfl), (Nat.le_of_ble_eq_true rfl)⟩), ht _ wd_504, ht _ wd_9⟩ ⟨tP_blind, va_recv hK hP (ci := 7) (q0 := 7) rfl rfl, fun U hU hW => ⟨rfl, by rw [hU]; exact hP, va_K.moved hW.alike hK, tW_warm hW hN⟩⟩ rfl rfl hl.1 rfl (lv_room (Nat.le_of_ble_eq_true rfl)) d_H_shareOut_119 ⟨Nat.zero_le _, Nat.zero_le _⟩) hS (fun _ h => h) (fun _ h => h) (fun H locs hP hS => ?_)
      refine lv_iinc (v := (v6 + (1 : Int32))) (lv' := [(6, .int (v6 + (1 : Int32))), (0, .ref (ad 7)), (1, .int v1), (2, .int v2), (3, .long v3), (5, .int v5)]) hx hb d_H_shareOut_122 hl (k := 5) rfl rfl (by decide) rfl (fun ls hl => ?_)
      refine lv_goto (tgt := 110) hx hb d_H_shareOut_125 (by decide) ?_
      exact ih _ _ _ _ _ _ _ hf _ _ hP hS _ (lv_sub hl [1, 2, 3, 4, 5, 0] rfl)
set_option maxHeartbeats 4000000 in
set_option maxRecDepth 100000 in
theorem mw_H7_shareOut_48 {p : Program} {l : Launch} {e : Env} {s : State} {m : MethodId} {args : Array Value} {below : List Frame} {meth : Method} {c : Code} {D : va_G} {ad : Nat → Nat} {ta : Nat → ClassId} (CX : tC p s m args meth c b_H_shareOut none 9 R_H D clS (tyC ta)) (hd : tD 37 ad) : ∀ (k : Nat) (v1 : Int32) (v2 : Int32) (v3 : Int64) (v5 : Int32) (v6 : Int32) (σ : tS) (res : tS), ml_H7_shareOut_48 k v1 v2 v3 v5 v6 σ = some res → ∀ (H : Heap) (locs : List Loc), va_P D clS (cwC ad ta σ) H → va_S (tA 37 ad) s.heap H locs → ∀ (ls : Array Slot), lv_has ls 9 [(0, .ref (ad 7)), (1, .int v1), (2, .int v2), (3, .long v3), (5, .int v5), (6, .int v6)] → W p l e rm_H7_shareOut s m args below meth c H locs 0 0 (MQ below (tQ D clS (cwC ad ta res) none (tA 37 ad)) args s 0 0 (tA 37 ad)) (F0 m 48 ls []) := by
  obtain ⟨hx, hb, hr, hml, hown, ht, hlocks, hK, hN⟩ := id CX
  intro k
  induction k with
  | zero =>
    intro v1 v2 v3 v5 v6 σ res hf
    exact tn_no hf
  | succ k ih =>
    intro v1 v2 v3 v5 v6 σ res hf H locs hP hS ls hl
    replace hf : ms_H7_shareOut_48 (ml_H7_shareOut_48 k) v1 v2 v3 v5 v6 σ = some res := hf
    unfold ms_H7_shareOut_48 at hf
    refine lv_iload hx hb d_H_shareOut_48 (lv_at hl 5 rfl) ?_
    refine lv_iload_n hx hb d_H_shareOut_50 rfl (lv_at hl 2 rfl) ?_
    refine lv_icmp_ge (tgt := 107) hx hb d_H_shareOut_51 (by decide) (fun hc => ?_) (fun hc => ?_)
    · replace hf := ti_pos hc hf
      refine lv_iconst (v := (0 : Int32)) hx hb d_H_shareOut_107 (by decide) ?_
      refine lv_istore (lv' := [(6, .int (0 : Int32)), (0, .ref (ad 7)), (1, .int v1), (2, .int v2), (3, .long v3), (5, .int v5)]) hx hb d_H_shareOut_108 hl (by decide) rfl (fun ls hl => ?_)
      exact mw_H7_shareOut_110 CX hd _ _ _ _ _ _ _ _ hf _ _ hP hS _ (lv_sub hl [1, 2, 3, 4, 5, 0] rfl)
    · replace hf := ti_neg hc hf
      refine lv_iload_n hx hb d_H_shareOut_54 rfl (lv_at hl 1 rfl) ?_
      refine lv_i2l hx hb d_H_shareOut_55 rfl ?_
      refine lv_aload_n hx hb d_H_shareOut_56 rfl (lv_at hl 0 rfl) ?_
      refine va_get (ci := 7) (v := .ref (ad 31)) (C := R_H) (T := F_H) (N := 3) hx hb ht iw_H hown hK hP 7 rfl rfl 0 (by decide) (ht _ wd_97) (fun _ h9 => h9) rfl d_H_shareOut_57 ?_
      refine lv_iload hx hb d_H_shareOut_60 (lv_at hl 5 rfl) ?_
      obtain ⟨hi2, hf⟩ := tg_of hf
      refine va_lald (f := σ.2.2 1) hx hb hK hP 31 22 rfl rfl hi2 d_H_shareOut_62 ?_
      refine lv_lmul hx hb d_H_shareOut_63 ?_
      refine lv_lstore (lv' := [(7, .long ((v1).toInt64 * (σ.2.2 1 v6.toNatClampNeg))), (0, .ref (ad 7)), (1, .int v1), (2, .int v2), (3, .long v3), (5, .int v5), (6, .int v6)]) hx hb d_H_shareOut_64 hl (by decide) rfl (fun ls hl => ?_)
      refine lv_aload_n hx hb d_H_shareOut_66 rfl (lv_at hl 1 rfl) ?_
      refine va_get (ci := 7) (v := .ref (ad 33)) (C := R_H) (T := F_H) (N := 3) hx hb ht iw_H hown hK hP 7 rfl rfl 2 (by decide) (ht _ wd_101) (fun _ h9 => h9) rfl d_H_shareOut_67 ?_
      refine lv_iload hx hb d_H_shareOut_70 (lv_at hl 6 rfl) ?_
      refine lv_lload hx hb d_H_shareOut_72 (lv_at hl 0 rfl) ?_
      refine lv_lload_n hx hb d_H_shareOut_74 rfl (lv_at hl 4 rfl) ?_
      obtain ⟨hz3, hf⟩ := tz_of hf
      refine lv_ldiv hx hb d_H_shareOut_75 hz3 ?_
      refine lv_l2i hx hb d_H_shareOut_76 rfl ?_
      obtain ⟨hi4, hf⟩ := tg_of hf
      refine va_iast (f := σ.2.1 21) hx hb hK hP (cwC_D hd) hS 33 24 rfl rfl hi4 d_H_shareOut_77 (fun H locs hP _ hS => ?_)
      replace hP : va_P D clS (cwC ad ta (tI σ 21 v6.toNatClampNeg (((((v1).toInt64 * (σ.2.2 1 v6.toNatClampNeg)) / v3)).toInt32))) H := hP
      refine lv_aload_n hx hb d_H_shareOut_78 rfl (lv_at hl 1 rfl) ?_
      refine va_get (ci := 7) (v := .ref (ad 32)) (C := R_H) (T := F_H) (N := 3) hx hb ht iw_H hown hK hP 7 rfl rfl 1 (by decide) (ht _ wd_100) (fun _ h9 => h9) rfl d_H_shareOut_79 ?_
      refine lv_iload hx hb d_H_shareOut_82 (lv_at hl 6 rfl) ?_
      refine lv_lload hx hb d_H_shareOut_84 (lv_at hl 0 rfl) ?_
      refine lv_lload_n hx hb d_H_shareOut_86 rfl (lv_at hl 4 rfl) ?_
      obtain ⟨hz5, hf⟩ := tz_of hf
      refine lv_lrem hx hb d_H_shareOut_87 hz5 ?_
      obtain ⟨hi6, hf⟩ := tg_of hf
      refine va_last (f := σ.2.2 2) hx hb hK hP (cwC_D hd) hS 32 23 rfl rfl hi6 d_H_shareOut_88 (fun H locs hP _ hS => ?_)
      replace hP : va_P D clS (cwC ad ta (tJ (tI σ 21 v6.toNatClampNeg (((((v1).toInt64 * (σ.2.2 1 v6.toNatClampNeg)) / v3)).toInt32)) 2 v6.toNatClampNeg (((v1).toInt64 * (σ.2.2 1 v6.toNatClampNeg)) - ((v1).toInt64 * (σ.2.2 1 v6.toNatClampNeg)) / v3 * v3))) H := hP
      refine lv_iload hx hb d_H_shareOut_89 (lv_at hl 5 rfl) ?_
      refine lv_aload_n hx hb d_H_shareOut_91 rfl (lv_at hl 1 rfl) ?_
      refine va_get (ci := 7) (v := .ref (ad 33)) (C := R_H) (T := F_H) (N := 3) hx hb ht iw_H hown hK hP 7 rfl rfl 2 (by decide) (ht _ wd_101) (fun _ h9 => h9) rfl d_H_shareOut_92 ?_
      refine lv_iload hx hb d_H_shareOut_95 (lv_at hl 6 rfl) ?_
      obtain ⟨hi7, hf⟩ := tg_of hf
      refine va_iald (f := (tI σ 21 v6.toNatClampNeg (((((v1).toInt64 * (σ.2.2 1 v6.toNatClampNeg)) / v3)).toInt32)).2.1 21) hx hb hK hP 33 24 rfl rfl hi7 d_H_shareOut_97 ?_
      refine lv_isub hx hb d_H_shareOut_98 ?_
      refine lv_istore (lv' := [(5, .int (v5 - ((tI σ 21 v6.toNatClampNeg (((((v1).toInt64 * (σ.2.2 1 v6.toNatClampNeg)) / v3)).toInt32)).2.1 21 v6.toNatClampNeg))), (7, .long ((v1).toInt64 * (σ.2.2 1 v6.toNatClampNeg))), (0, .ref (ad 7)), (1, .int v1), (2, .int v2), (3, .long v3), (6, .int v6)]) hx hb d_H_shareOut_99 hl (by decide) rfl (fun ls hl => ?_)
      refine lv_iinc (v := (v6 + (1 : Int32))) (lv' := [(6, .int (v6 + (1 : Int32))), (5, .int (v5 - ((tI σ 21 v6.toNatClampNeg (((((v1).toInt64 * (σ.2.2 1 v6.toNatClampNeg)) / v3)).toInt32)).2.1 21 v6.toNatClampNeg))), (7, .long ((v1).toInt64 * (σ.2.2 1 v6.toNatClampNeg))), (0, .ref (ad 7)), (1, .int v1), (2, .int v2), (3, .long v3)]) hx hb d_H_shareOut_101 hl (k := 6) rfl rfl (by decide) rfl (fun ls hl => ?_)
      refine lv_goto (tgt := 48) hx hb d_H_shareOut_104 (by decide) ?_
      exact ih _ _ _ _ _ _ _ hf _ _ hP hS _ (lv_sub hl [3, 4, 5, 6, 1, 0] rfl)
set_option maxHeartbeats 4000000 in
set_option maxRecDepth 100000 in
theorem mw_H7_shareOut_5 {p : Program} {l : Launch} {e : Env} {s : State} {m : MethodId} {args : Array Value} {below : List Frame} {meth : Method} {c : Code} {D : va_G} {ad : Nat → Nat} {ta : Nat → ClassId} (CX : tC p s m args meth c b_H_shareOut none 9 R_H D clS (tyC ta)) (hd : tD 37 ad) : ∀ (k : Nat) (v1 : Int32) (v2 : Int32) (v3 : Int64) (v5 : Int32) (σ : tS) (res : tS), ml_H7_shareOut_5 k v1 v2 v3 v5 σ = some res → ∀ (H : Heap) (locs : List Loc), va_P D clS (cwC ad ta σ) H → va_S (tA 37 ad) s.heap H locs → ∀ (ls : Array Slot), lv_has ls 9 [(0, .ref (ad 7)), (1, .int v1), (2, .int v2), (3, .long v3), (5, .int v5)] → W p l e rm_H7_shareOut s m args below meth c H locs 0 0 (MQ below (tQ D clS (cwC ad ta res) none (tA 37 ad)) args s 0 0 (tA 37 ad)) (F0 m 5 ls []) := by
  obtain ⟨hx, hb, hr, hml, hown, ht, hlocks, hK, hN⟩ := id CX
  intro k
  induction k with
  | zero =>
    intro v1 v2 v3 v5 σ res hf
    exact tn_no hf
  | succ k ih =>
    intro v1 v2 v3 v5 σ res hf H locs hP hS ls hl
    replace hf : ms_H7_shareOut_5 (ml_H7_shareOut_5 k) v1 v2 v3 v5 σ = some res := hf
    unfold ms_H7_shareOut_5 at hf
    refine lv_iload hx hb d_H_shareOut_5 (lv_at hl 4 rfl) ?_
    refine lv_iload_n hx hb d_H_shareOut_7 rfl (lv_at hl 2 rfl) ?_
    refine lv_icmp_ge (tgt := 27) hx hb d_H_shareOut_8 (by decide) (fun hc => ?_) (fun hc => ?_)
    · replace hf := ti_pos hc hf
      refine lv_lload_n hx hb d_H_shareOut_27 rfl (lv_at hl 3 rfl) ?_
      refine lv_lconst (v := (0 : Int64)) hx hb d_H_shareOut_28 (by decide) ?_
      refine W.lcmp hx hb d_H_shareOut_29 ?_
      refine lv_if_ne (tgt := 42) hx hb d_H_shareOut_30 (by decide) (fun hc => ?_) (fun hc => ?_)
      · replace hf := ti_neg hc hf
        refine lv_iload_n hx hb d_H_shareOut_42 rfl (lv_at hl 1 rfl) ?_
        refine lv_istore (lv' := [(5, .int v1), (0, .ref (ad 7)), (1, .int v1), (2, .int v2), (3, .long v3)]) hx hb d_H_shareOut_43 hl (by decide) rfl (fun ls hl => ?_)
        refine lv_iconst (v := (0 : Int32)) hx hb d_H_shareOut_45 (by decide) ?_
        refine lv_istore (lv' := [(6, .int (0 : Int32)), (5, .int v1), (0, .ref (ad 7)), (1, .int v1), (2, .int v2), (3, .long v3)]) hx hb d_H_shareOut_46 hl (by decide) rfl (fun ls hl => ?_)
        exact mw_H7_shareOut_48 CX hd _ _ _ _ _ _ _ _ hf _ _ hP hS _ (lv_sub hl [2, 3, 4, 5, 1, 0] rfl)
      · replace hf := ti_pos hc hf
        refine lv_aload_n hx hb d_H_shareOut_33 rfl (lv_at hl 0 rfl) ?_
        refine va_get (ci := 7) (v := .ref (ad 33)) (C := R_H) (T := F_H) (N := 3) hx hb ht iw_H hown hK hP 7 rfl rfl 2 (by decide) (ht _ wd_101) (fun _ h9 => h9) rfl d_H_shareOut_34 ?_
        refine lv_iconst (v := (0 : Int32)) hx hb d_H_shareOut_37 (by decide) ?_
        refine tr_fillI (f := σ.2.1 21) ⟨hx, hb, hml, hown, ht⟩ ⟨(tw_cb (n := 2) ht wf_I wd_38 wd_501 ⟨rfl, rfl⟩ (by decide +kernel) ⟨(Nat.le_of_ble_eq_true rfl), (Nat.le_of_ble_eq_true rfl)⟩), ht _ wd_113⟩ hK hN hP (cwC_D hd) hS 33 24 rfl rfl (by decide) hl.1 (lv_room (Nat.le_of_ble_eq_true rfl)) d_H_shareOut_38 (fun H locs hP hS => ?_) ⟨Nat.zero_le _, Nat.zero_le _⟩
        replace hP : va_P D clS (cwC ad ta (tIf σ 21 (0 : Int32))) H := hP
        obtain rfl := ts_of hf
        exact W.vret hx hb hr (fun t ht hW => ⟨rfl, by rw [ht]; exact hP, hS.F ht⟩) hS.2.2 d_H_shareOut_41
    · replace hf := ti_neg hc hf
      refine lv_lload_n hx hb d_H_shareOut_11 rfl (lv_at hl 3 rfl) ?_
      refine lv_aload_n hx hb d_H_shareOut_12 rfl (lv_at hl 0 rfl) ?_
      refine va_get (ci := 7) (v := .ref (ad 31)) (C := R_H) (T := F_H) (N := 3) hx hb ht iw_H hown hK hP 7 rfl rfl 0 (by decide) (ht _ wd_97) (fun _ h9 => h9) rfl d_H_shareOut_13 ?_
      refine lv_iload hx hb d_H_shareOut_16 (lv_at hl 4 rfl) ?_
      obtain ⟨hi8, hf⟩ := tg_of hf
      refine va_lald (f := σ.2.2 1) hx hb hK hP 31 22 rfl rfl hi8 d_H_shareOut_18 ?_
      refine lv_ladd hx hb d_H_shareOut_19 ?_
      refine lv_lstore_n (lv' := [(3, .long (v3 + (σ.2.2 1 v5.toNatClampNeg))), (0, .ref (ad 7)), (1, .int v1), (2, .int v2), (5, .int v5)]) hx hb d_H_shareOut_20 rfl hl (by decide) rfl (fun ls hl => ?_)
      refine lv_iinc (v := (v5 + (1 : Int32))) (lv' := [(5, .int (v5 + (1 : Int32))), (3, .long (v3 + (σ.2.2 1 v5.toNatClampNeg))), (0, .ref (ad 7)), (1, .int v1), (2, .int v2)]) hx hb d_H_shareOut_21 hl (k := 4) rfl rfl (by decide) rfl (fun ls hl => ?_)
      refine lv_goto (tgt := 5) hx hb d_H_shareOut_24 (by decide) ?_
      exact ih _ _ _ _ _ _ hf _ _ hP hS _ (lv_sub hl [2, 3, 4, 1, 0] rfl)
set_option maxHeartbeats 4000000 in
set_option maxRecDepth 100000 in
theorem mc_H7_shareOut (l : Launch) {D : va_G} {ad : Nat → Nat} {ta : Nat → ClassId} (hd : tD 37 ad) {σ σ' : tS} {p0 : Int32} {p1 : Int32} (hf : mf_H7_shareOut p0 p1 σ = some σ') : Met l y_H_shareOut (.code y_H_shareOut b_H_shareOut 9 none :: tw) rm_H7_shareOut (tP D clS (tyC ta) (cwC ad ta σ) [.ref (ad 7), .int p0, .int p1]) (tQ D clS (cwC ad ta σ') none (tA 37 ad)) 0 0 (tA 37 ad) := by
  refine Met.ofW (cc := b_H_shareOut) (maxL := 9) (ret := none) (by decide) rfl ?_
  intro p e s m args below meth c s₁ B hml hv
  obtain ⟨rfl, hP, hK, hN⟩ := hv
  have hx := B.exec
  have hb := B.bytes
  have hr := B.returns
  have ht : ∀ w ∈ tw, w.before [.ref (ad 7), .int p0, .int p1].toArray s = true := fun w h => atoms_spec (ws := (.code y_H_shareOut b_H_shareOut 9 none :: tw)) B.pre w (List.mem_cons_of_mem _ h)
  have hown : s.vm.findClass R_H = some m.cls := findClass_of_methodNamed B.named
  have hlocks := B.notSynchronized
  have CX : tC p s m [.ref (ad 7), .int p0, .int p1].toArray meth c b_H_shareOut none 9 R_H D clS (tyC ta) := ⟨hx, hb, hr, hml, hown, ht, hlocks, hK, hN⟩
  have hS : va_S (tA 37 ad) s.heap s.heap [] := va_S.rf
  have hl := lv_entry ([.ref (ad 7), .int p0, .int p1]) (n := 9) (Nat.le_of_ble_eq_true rfl)
  rw [lg_entry_eq]
  generalize (lg_sl ([.ref (ad 7), .int p0, .int p1]) ++ List.replicate (9 - (lg_sl ([.ref (ad 7), .int p0, .int p1])).length) Slot.unset).toArray = ls at hl ⊢
  replace hl : lv_has ls 9 [(0, .ref (ad 7)), (1, .int p0), (2, .int p1)] := hl
  unfold mf_H7_shareOut at hf
  refine lv_lconst (v := (0 : Int64)) hx hb d_H_shareOut_0 (by decide) ?_
  refine lv_lstore_n (lv' := [(3, .long (0 : Int64)), (0, .ref (ad 7)), (1, .int p0), (2, .int p1)]) hx hb d_H_shareOut_1 rfl hl (by decide) rfl (fun ls hl => ?_)
  refine lv_iconst (v := (0 : Int32)) hx hb d_H_shareOut_2 (by decide) ?_
  refine lv_istore (lv' := [(5, .int (0 : Int32)), (3, .long (0 : Int64)), (0, .ref (ad 7)), (1, .int p0), (2, .int p1)]) hx hb d_H_shareOut_3 hl (by decide) rfl (fun ls hl => ?_)
  exact mw_H7_shareOut_5 CX hd _ _ _ _ _ _ _ hf _ _ hP hS _ (lv_sub hl [2, 3, 4, 1, 0] rfl)
