abbrev rx_T_node : Room := { frames := 6, cells := 1, slots := 6, locals := 82 }
set_option maxHeartbeats 4000000 in
set_option maxRecDepth 100000 in
theorem xc_T_node (l : Launch) (h9 : l.stackTraces = false) {D : va_G} {ad : Nat → Nat} {ta : Nat → ClassId} (hd : tD 37 ad) {σ : tS}  {k : Nat} (hf : mx_T_node  σ = some k) : MetX l y_T_node (.code y_T_node b_T_node 1 (some .int) :: tw) rx_T_node (tPX D clS (tyC ta) (cwC ad ta σ) [.ref (ad 0)]) (exc k) := by
  refine MetX.ofW (cc := b_T_node) (maxL := 1) (ret := (some .int)) (by decide) rfl ?_
  intro p e s m args below meth c s₁ B hml hv
  obtain ⟨⟨rfl, hP, hK, hN⟩, hT⟩ := hv
  have hx := B.exec
  have hb := B.bytes
  have hr := B.returns
  have hts := atoms_spec (ws := (.code y_T_node b_T_node 1 (some .int) :: tw)) B.pre
  have ht : ∀ w ∈ tw, w.before [.ref (ad 0)].toArray s = true := fun w h => hts w (List.mem_cons_of_mem _ h)
  have hown : s.vm.findClass R_T = some m.cls := findClass_of_methodNamed B.named
  have hlocks := B.notSynchronized
  have hne := B.noHandlers (hts _ List.mem_cons_self)
  have hS : va_S tNo s.heap s.heap [] := va_S.rf
  have hl := lv_entry ([.ref (ad 0)]) (n := 1) (Nat.le_of_ble_eq_true rfl)
  rw [lg_entry_eq]
  generalize (lg_sl ([.ref (ad 0)]) ++ List.replicate (1 - (lg_sl ([.ref (ad 0)])).length) Slot.unset).toArray = ls at hl ⊢
  replace hl : lv_has ls 1 [(0, .ref (ad 0))] := hl
  unfold mx_T_node at hf
  refine lv_aload_n hx hb d_T_node_0 rfl (lv_at hl 0 rfl) ?_
  refine va_get (ci := 0) (v := .int (σ.1 0)) (C := R_T) (T := F_T) (N := 7) hx hb ht iw_T hown hK hP 0 rfl rfl 0 (by decide) (ht _ wd_245) (fun _ h9 => h9) rfl d_T_node_1 ?_
  refine lv_bipush (v := (12 : Int32)) hx hb d_T_node_4 (by decide) ?_
  refine lv_icmp_lt (tgt := 19) hx hb d_T_node_6 (by decide) (fun hc => ?_) (fun hc => ?_)
  · replace hf := ti_pos hc hf
    exact tn_no hf
  · replace hf := ti_neg hc hf
    obtain rfl := ts_of hf
    obtain ⟨qs, hqs⟩ := hT.2.2.2 (57, "there are 12 nodes") (by decide)
    exact tr_throw (X := xIS) (names := xNs) hx hb hlocks hne h9 hown (hml.trans hl.1.symm) (by decide +kernel) (by decide +kernel) (oa_hold ht hT oa_IS) (ht _ wd_324) (ht _ wd_325) (ht _ wd_47) hqs hS ⟨(Nat.le_of_ble_eq_true rfl), (Nat.le_of_ble_eq_true rfl), (Nat.le_of_ble_eq_true rfl), (Nat.le_of_ble_eq_true rfl)⟩ d_T_node_9 d_T_node_12 d_T_node_13 d_T_node_15 d_T_node_18
abbrev rx_T_needNode : Room := { frames := 6, cells := 1, slots := 6, locals := 82 }
set_option maxHeartbeats 4000000 in
set_option maxRecDepth 100000 in
theorem xc_T_needNode (l : Launch) (h9 : l.stackTraces = false) {D : va_G} {ad : Nat → Nat} {ta : Nat → ClassId} (hd : tD 37 ad) {σ : tS} {p0 : Int32} {k : Nat} (hf : mx_T_needNode p0 σ = some k) : MetX l y_T_needNode (.code y_T_needNode b_T_needNode 2 none :: tw) rx_T_needNode (tPX D clS (tyC ta) (cwC ad ta σ) [.ref (ad 0), .int p0]) (exc k) := by
  refine MetX.ofW (cc := b_T_needNode) (maxL := 2) (ret := none) (by decide) rfl ?_
  intro p e s m args below meth c s₁ B hml hv
  obtain ⟨⟨rfl, hP, hK, hN⟩, hT⟩ := hv
  have hx := B.exec
  have hb := B.bytes
  have hr := B.returns
  have hts := atoms_spec (ws := (.code y_T_needNode b_T_needNode 2 none :: tw)) B.pre
  have ht : ∀ w ∈ tw, w.before [.ref (ad 0), .int p0].toArray s = true := fun w h => hts w (List.mem_cons_of_mem _ h)
  have hown : s.vm.findClass R_T = some m.cls := findClass_of_methodNamed B.named
  have hlocks := B.notSynchronized
  have hne := B.noHandlers (hts _ List.mem_cons_self)
  have hS : va_S tNo s.heap s.heap [] := va_S.rf
  have hl := lv_entry ([.ref (ad 0), .int p0]) (n := 2) (Nat.le_of_ble_eq_true rfl)
  rw [lg_entry_eq]
  generalize (lg_sl ([.ref (ad 0), .int p0]) ++ List.replicate (2 - (lg_sl ([.ref (ad 0), .int p0])).length) Slot.unset).toArray = ls at hl ⊢
  replace hl : lv_has ls 2 [(0, .ref (ad 0)), (1, .int p0)] := hl
  unfold mx_T_needNode at hf
  refine lv_iload_n hx hb d_T_needNode_0 rfl (lv_at hl 1 rfl) ?_
  refine lv_if_lt (tgt := 12) hx hb d_T_needNode_1 (by decide) (fun hc => ?_) (fun hc => ?_)
  · replace hf := ti_pos hc hf
    obtain rfl := ts_of hf
    obtain ⟨qs, hqs⟩ := hT.2.2.2 (204, "there is no such node") (by decide)
    exact tr_throw (X := xIA) (names := xNs) hx hb hlocks hne h9 hown (hml.trans hl.1.symm) (by decide +kernel) (by decide +kernel) (oa_hold ht hT oa_IA) (ht _ wd_403) (ht _ wd_404) (ht _ wd_48) hqs hS ⟨(Nat.le_of_ble_eq_true rfl), (Nat.le_of_ble_eq_true rfl), (Nat.le_of_ble_eq_true rfl), (Nat.le_of_ble_eq_true rfl)⟩ d_T_needNode_12 d_T_needNode_15 d_T_needNode_16 d_T_needNode_18 d_T_needNode_21
  · replace hf := ti_neg hc hf
    refine lv_iload_n hx hb d_T_needNode_4 rfl (lv_at hl 1 rfl) ?_
    refine lv_aload_n hx hb d_T_needNode_5 rfl (lv_at hl 0 rfl) ?_
    refine va_get (ci := 0) (v := .int (σ.1 0)) (C := R_T) (T := F_T) (N := 7) hx hb ht iw_T hown hK hP 0 rfl rfl 0 (by decide) (ht _ wd_245) (fun _ h9 => h9) rfl d_T_needNode_6 ?_
    refine lv_icmp_lt (tgt := 22) hx hb d_T_needNode_9 (by decide) (fun hc => ?_) (fun hc => ?_)
    · replace hf := ti_pos hc hf
      exact tn_no hf
    · replace hf := ti_neg hc hf
      obtain rfl := ts_of hf
      obtain ⟨qs, hqs⟩ := hT.2.2.2 (204, "there is no such node") (by decide)
      exact tr_throw (X := xIA) (names := xNs) hx hb hlocks hne h9 hown (hml.trans hl.1.symm) (by decide +kernel) (by decide +kernel) (oa_hold ht hT oa_IA) (ht _ wd_403) (ht _ wd_404) (ht _ wd_48) hqs hS ⟨(Nat.le_of_ble_eq_true rfl), (Nat.le_of_ble_eq_true rfl), (Nat.le_of_ble_eq_true rfl), (Nat.le_of_ble_eq_true rfl)⟩ d_T_needNode_12 d_T_needNode_15 d_T_needNode_16 d_T_needNode_18 d_T_needNode_21
abbrev rx_T_needWithin : Room := { frames := 6, cells := 1, slots := 6, locals := 82 }
set_option maxHeartbeats 4000000 in
set_option maxRecDepth 100000 in
theorem xc_T_needWithin (l : Launch) (h9 : l.stackTraces = false) {D : va_G} {ad : Nat → Nat} {ta : Nat → ClassId} (hd : tD 37 ad) {σ : tS} {p0 : Int32} {p1 : Int32} {p2 : Int32} {k : Nat} (hf : mx_T_needWithin p0 p1 p2 σ = some k) : MetX l y_T_needWithin (.code y_T_needWithin b_T_needWithin 3 none :: tw) rx_T_needWithin (tPX D clS (tyC ta) (cwC ad ta σ) [.int p0, .int p1, .int p2]) (exc k) := by
  refine MetX.ofW (cc := b_T_needWithin) (maxL := 3) (ret := none) (by decide) rfl ?_
  intro p e s m args below meth c s₁ B hml hv
  obtain ⟨⟨rfl, hP, hK, hN⟩, hT⟩ := hv
  have hx := B.exec
  have hb := B.bytes
  have hr := B.returns
  have hts := atoms_spec (ws := (.code y_T_needWithin b_T_needWithin 3 none :: tw)) B.pre
  have ht : ∀ w ∈ tw, w.before [.int p0, .int p1, .int p2].toArray s = true := fun w h => hts w (List.mem_cons_of_mem _ h)
  have hown : s.vm.findClass R_T = some m.cls := findClass_of_methodNamed B.named
  have hlocks := B.notSynchronized
  have hne := B.noHandlers (hts _ List.mem_cons_self)
  have hS : va_S tNo s.heap s.heap [] := va_S.rf
  have hl := lv_entry ([.int p0, .int p1, .int p2]) (n := 3) (Nat.le_of_ble_eq_true rfl)
  rw [lg_entry_eq]
  generalize (lg_sl ([.int p0, .int p1, .int p2]) ++ List.replicate (3 - (lg_sl ([.int p0, .int p1, .int p2])).length) Slot.unset).toArray = ls at hl ⊢
  replace hl : lv_has ls 3 [(0, .int p0), (1, .int p1), (2, .int p2)] := hl
  unfold mx_T_needWithin at hf
  refine lv_iload_n hx hb d_T_needWithin_0 rfl (lv_at hl 0 rfl) ?_
  refine lv_iload_n hx hb d_T_needWithin_1 rfl (lv_at hl 1 rfl) ?_
  refine lv_icmp_lt (tgt := 10) hx hb d_T_needWithin_2 (by decide) (fun hc => ?_) (fun hc => ?_)
  · replace hf := ti_pos hc hf
    obtain rfl := ts_of hf
    obtain ⟨qs, hqs⟩ := hT.2.2.2 (210, "a number is out of its bounds") (by decide)
    exact tr_throw (X := xIA) (names := xNs) hx hb hlocks hne h9 hown (hml.trans hl.1.symm) (by decide +kernel) (by decide +kernel) (oa_hold ht hT oa_IA) (ht _ wd_403) (ht _ wd_404) (ht _ wd_48) hqs hS ⟨(Nat.le_of_ble_eq_true rfl), (Nat.le_of_ble_eq_true rfl), (Nat.le_of_ble_eq_true rfl), (Nat.le_of_ble_eq_true rfl)⟩ d_T_needWithin_10 d_T_needWithin_13 d_T_needWithin_14 d_T_needWithin_16 d_T_needWithin_19
  · replace hf := ti_neg hc hf
    refine lv_iload_n hx hb d_T_needWithin_5 rfl (lv_at hl 0 rfl) ?_
    refine lv_iload_n hx hb d_T_needWithin_6 rfl (lv_at hl 2 rfl) ?_
    refine lv_icmp_le (tgt := 20) hx hb d_T_needWithin_7 (by decide) (fun hc => ?_) (fun hc => ?_)
    · replace hf := ti_pos hc hf
      exact tn_no hf
    · replace hf := ti_neg hc hf
      obtain rfl := ts_of hf
      obtain ⟨qs, hqs⟩ := hT.2.2.2 (210, "a number is out of its bounds") (by decide)
      exact tr_throw (X := xIA) (names := xNs) hx hb hlocks hne h9 hown (hml.trans hl.1.symm) (by decide +kernel) (by decide +kernel) (oa_hold ht hT oa_IA) (ht _ wd_403) (ht _ wd_404) (ht _ wd_48) hqs hS ⟨(Nat.le_of_ble_eq_true rfl), (Nat.le_of_ble_eq_true rfl), (Nat.le_of_ble_eq_true rfl), (Nat.le_of_ble_eq_true rfl)⟩ d_T_needWithin_10 d_T_needWithin_13 d_T_needWithin_14 d_T_needWithin_16 d_T_needWithin_19
abbrev rx_T_zone : Room := { frames := 7, cells := 1, slots := 6, locals := 104 }
set_option maxHeartbeats 4000000 in
set_option maxRecDepth 100000 in
theorem xc_T_zone (l : Launch) (h9 : l.stackTraces = false) {D : va_G} {ad : Nat → Nat} {ta : Nat → ClassId} (hd : tD 37 ad) {σ : tS} {p0 : Int32} {p1 : Int32} {p2 : Int32} {k : Nat} (hf : mx_T_zone p0 p1 p2 σ = some k) : MetX l y_T_zone (.code y_T_zone b_T_zone 4 (some .int) :: tw) rx_T_zone (tPX D clS (tyC ta) (cwC ad ta σ) [.ref (ad 0), .int p0, .int p1, .int p2]) (exc k) := by
  refine MetX.ofW (cc := b_T_zone) (maxL := 4) (ret := (some .int)) (by decide) rfl ?_
  intro p e s m args below meth c s₁ B hml hv
  obtain ⟨⟨rfl, hP, hK, hN⟩, hT⟩ := hv
  have hx := B.exec
  have hb := B.bytes
  have hr := B.returns
  have hts := atoms_spec (ws := (.code y_T_zone b_T_zone 4 (some .int) :: tw)) B.pre
  have ht : ∀ w ∈ tw, w.before [.ref (ad 0), .int p0, .int p1, .int p2].toArray s = true := fun w h => hts w (List.mem_cons_of_mem _ h)
  have hown : s.vm.findClass R_T = some m.cls := findClass_of_methodNamed B.named
  have hlocks := B.notSynchronized
  have hne := B.noHandlers (hts _ List.mem_cons_self)
  have hS : va_S tNo s.heap s.heap [] := va_S.rf
  have hl := lv_entry ([.ref (ad 0), .int p0, .int p1, .int p2]) (n := 4) (Nat.le_of_ble_eq_true rfl)
  rw [lg_entry_eq]
  generalize (lg_sl ([.ref (ad 0), .int p0, .int p1, .int p2]) ++ List.replicate (4 - (lg_sl ([.ref (ad 0), .int p0, .int p1, .int p2])).length) Slot.unset).toArray = ls at hl ⊢
  replace hl : lv_has ls 4 [(0, .ref (ad 0)), (1, .int p0), (2, .int p1), (3, .int p2)] := hl
  unfold mx_T_zone at hf
  refine lv_aload_n hx hb d_T_zone_0 rfl (lv_at hl 0 rfl) ?_
  refine lv_iload_n hx hb d_T_zone_1 rfl (lv_at hl 1 rfl) ?_
  rcases tx_of hf with hq | hf
  · exact tr_pass (tx_runV (C := R_T) (As := [.int p0]) (rest := []) ⟨hx, hb, hml, hown, ht⟩ (xc_T_needNode l h9 hd hq) ⟨pay_in ht (tw_G wc_T_needNode), List.mem_cons_self, ht _ wd_34, ⟨(Nat.le_of_ble_eq_true rfl), (Nat.le_of_ble_eq_true rfl), (Nat.le_of_ble_eq_true rfl), (Nat.le_of_ble_eq_true rfl)⟩⟩ (ht _ wd_399) (ht _ wd_401) (ht _ wd_5) (ht _ wc_T_needNode) (by decide +kernel) ⟨tPX_blind, va_recv hK hP (ci := 0) (q0 := 0) rfl rfl, fun U hU hW => ⟨⟨rfl, by rw [hU]; exact hP, va_K.moved hW.alike hK, tW_warm hW hN⟩, tT_go hT hS hU hW⟩⟩ rfl (show (parseMethodDescriptor y_T_needNode.desc).map (fun d => d.parameters.length) = some 1 by decide +kernel) hl.1 rfl (lv_room (Nat.le_of_ble_eq_true rfl)) d_T_zone_2) hlocks hne hS
  · obtain ⟨s_1, hq1, hf⟩ := tb1_of hf
    refine tr_callv (va_runV (C := R_T) (As := [.int p0]) (rest := []) ⟨hx, hb, hml, hown, ht⟩ (mc_T_needNode l hd hq1) ⟨(tw_cb (n := 1) ht wc_T_needNode wd_34 wd_399 ⟨rfl, rfl⟩ (by decide +kernel) ⟨(Nat.le_of_ble_eq_true rfl), (Nat.le_of_ble_eq_true rfl)⟩), ht _ wd_401, ht _ wd_5⟩ ⟨tP_blind, va_recv hK hP (ci := 0) (q0 := 0) rfl rfl, fun U hU hW => ⟨rfl, by rw [hU]; exact hP, va_K.moved hW.alike hK, tW_warm hW hN⟩⟩ rfl rfl hl.1 rfl (lv_room (Nat.le_of_ble_eq_true rfl)) d_T_zone_2 ⟨Nat.zero_le _, Nat.zero_le _⟩) hS (fun _ h => h.elim) (fun _ h => h.elim) (fun H locs hP hS => ?_)
    refine lv_iload_n hx hb d_T_zone_5 rfl (lv_at hl 2 rfl) ?_
    refine lv_iconst (v := (0 : Int32)) hx hb d_T_zone_6 (by decide) ?_
    refine lv_ldc (v := (100000 : Int32)) hx hb hown (ht _ wd_419) d_T_zone_7 ?_
    rcases tx_of hf with hq | hf
    · exact tr_pass (tx_runS (As := [.int p1, .int (0 : Int32), .int (100000 : Int32)]) (rest := []) ⟨hx, hb, hml, hown, ht⟩ (xc_T_needWithin l h9 hd hq) ⟨pay_in ht (tw_G wc_T_needWithin), List.mem_cons_self, ht _ wd_34, ⟨(Nat.le_of_ble_eq_true rfl), (Nat.le_of_ble_eq_true rfl), (Nat.le_of_ble_eq_true rfl), (Nat.le_of_ble_eq_true rfl)⟩⟩ (ht _ wd_420) (ht _ wd_421) (ht _ wc_T_needWithin) (by decide +kernel) ⟨tPX_blind, fun U hU hW => ⟨⟨rfl, by rw [hU]; exact hP, va_K.moved hW.alike hK, tW_warm hW hN⟩, tT_go hT hS hU hW⟩⟩ rfl (show (parseMethodDescriptor y_T_needWithin.desc).map (fun d => d.parameters.length) = some 3 by decide +kernel) hl.1 rfl (lv_room (Nat.le_of_ble_eq_true rfl)) d_T_zone_9) hlocks hne hS
    · obtain ⟨s_2, hq2, hf⟩ := tb1_of hf
      refine tr_callv (va_runS (As := [.int p1, .int (0 : Int32), .int (100000 : Int32)]) (rest := []) ⟨hx, hb, hml, hown, ht⟩ (mc_T_needWithin l hd hq2) ⟨(tw_cb (n := 3) ht wc_T_needWithin wd_34 wd_420 ⟨rfl, rfl⟩ (by decide +kernel) ⟨(Nat.le_of_ble_eq_true rfl), (Nat.le_of_ble_eq_true rfl)⟩), ht _ wd_421⟩ ⟨tP_blind, fun U hU hW => ⟨rfl, by rw [hU]; exact hP, va_K.moved hW.alike hK, tW_warm hW hN⟩⟩ rfl rfl hl.1 rfl (lv_room (Nat.le_of_ble_eq_true rfl)) d_T_zone_9 ⟨Nat.zero_le _, Nat.zero_le _⟩) hS (fun _ h => h.elim) (fun _ h => h.elim) (fun H locs hP hS => ?_)
      refine lv_iload_n hx hb d_T_zone_12 rfl (lv_at hl 3 rfl) ?_
      refine lv_iconst (v := (0 : Int32)) hx hb d_T_zone_13 (by decide) ?_
      refine lv_ldc (v := (100000 : Int32)) hx hb hown (ht _ wd_419) d_T_zone_14 ?_
      rcases tx_of hf with hq | hf
      · exact tr_pass (tx_runS (As := [.int p2, .int (0 : Int32), .int (100000 : Int32)]) (rest := []) ⟨hx, hb, hml, hown, ht⟩ (xc_T_needWithin l h9 hd hq) ⟨pay_in ht (tw_G wc_T_needWithin), List.mem_cons_self, ht _ wd_34, ⟨(Nat.le_of_ble_eq_true rfl), (Nat.le_of_ble_eq_true rfl), (Nat.le_of_ble_eq_true rfl), (Nat.le_of_ble_eq_true rfl)⟩⟩ (ht _ wd_420) (ht _ wd_421) (ht _ wc_T_needWithin) (by decide +kernel) ⟨tPX_blind, fun U hU hW => ⟨⟨rfl, by rw [hU]; exact hP, va_K.moved hW.alike hK, tW_warm hW hN⟩, tT_go hT hS hU hW⟩⟩ rfl (show (parseMethodDescriptor y_T_needWithin.desc).map (fun d => d.parameters.length) = some 3 by decide +kernel) hl.1 rfl (lv_room (Nat.le_of_ble_eq_true rfl)) d_T_zone_16) hlocks hne hS
      · obtain ⟨s_3, hq3, hf⟩ := tb1_of hf
        refine tr_callv (va_runS (As := [.int p2, .int (0 : Int32), .int (100000 : Int32)]) (rest := []) ⟨hx, hb, hml, hown, ht⟩ (mc_T_needWithin l hd hq3) ⟨(tw_cb (n := 3) ht wc_T_needWithin wd_34 wd_420 ⟨rfl, rfl⟩ (by decide +kernel) ⟨(Nat.le_of_ble_eq_true rfl), (Nat.le_of_ble_eq_true rfl)⟩), ht _ wd_421⟩ ⟨tP_blind, fun U hU hW => ⟨rfl, by rw [hU]; exact hP, va_K.moved hW.alike hK, tW_warm hW hN⟩⟩ rfl rfl hl.1 rfl (lv_room (Nat.le_of_ble_eq_true rfl)) d_T_zone_16 ⟨Nat.zero_le _, Nat.zero_le _⟩) hS (fun _ h => h.elim) (fun _ h => h.elim) (fun H locs hP hS => ?_)
        refine lv_aload_n hx hb d_T_zone_19 rfl (lv_at hl 0 rfl) ?_
        refine va_get (ci := 0) (v := .ref (ad 1)) (C := R_T) (T := F_T) (N := 7) hx hb ht iw_T hown hK hP 0 rfl rfl 1 (by decide) (ht _ wd_246) (fun _ h9 => h9) rfl d_T_zone_20 ?_
        refine va_get (ci := 1) (v := .int (s_3.1 1)) (C := R_Z) (T := F_Z) (N := 4) hx hb ht iw_Z hown hK hP 1 rfl rfl 0 (by decide) (ht _ wd_66) (fun _ h9 => h9) rfl d_T_zone_23 ?_
        refine lv_bipush (v := (6 : Int32)) hx hb d_T_zone_26 (by decide) ?_
        refine lv_icmp_lt (tgt := 41) hx hb d_T_zone_28 (by decide) (fun hc => ?_) (fun hc => ?_)
        · replace hf := ti_pos hc hf
          exact tn_no hf
        · replace hf := ti_neg hc hf
          obtain rfl := ts_of hf
          obtain ⟨qs, hqs⟩ := hT.2.2.2 (74, "there are 6 zones") (by decide)
          exact tr_throw (X := xIS) (names := xNs) hx hb hlocks hne h9 hown (hml.trans hl.1.symm) (by decide +kernel) (by decide +kernel) (oa_hold ht hT oa_IS) (ht _ wd_324) (ht _ wd_325) (ht _ wd_47) hqs hS ⟨(Nat.le_of_ble_eq_true rfl), (Nat.le_of_ble_eq_true rfl), (Nat.le_of_ble_eq_true rfl), (Nat.le_of_ble_eq_true rfl)⟩ d_T_zone_31 d_T_zone_34 d_T_zone_35 d_T_zone_37 d_T_zone_40
abbrev rx_T_street : Room := { frames := 7, cells := 1, slots := 6, locals := 104 }
set_option maxHeartbeats 4000000 in
set_option maxRecDepth 100000 in
theorem xc_T_street (l : Launch) (h9 : l.stackTraces = false) {D : va_G} {ad : Nat → Nat} {ta : Nat → ClassId} (hd : tD 37 ad) {σ : tS} {p0 : Int32} {p1 : Int32} {p2 : Int32} {p3 : Int32} {p4 : Int32} {k : Nat} (hf : mx_T_street p0 p1 p2 p3 p4 σ = some k) : MetX l y_T_street (.code y_T_street b_T_street 6 (some .int) :: tw) rx_T_street (tPX D clS (tyC ta) (cwC ad ta σ) [.ref (ad 0), .int p0, .int p1, .int p2, .int p3, .int p4]) (exc k) := by
  refine MetX.ofW (cc := b_T_street) (maxL := 6) (ret := (some .int)) (by decide) rfl ?_
  intro p e s m args below meth c s₁ B hml hv
  obtain ⟨⟨rfl, hP, hK, hN⟩, hT⟩ := hv
  have hx := B.exec
  have hb := B.bytes
  have hr := B.returns
  have hts := atoms_spec (ws := (.code y_T_street b_T_street 6 (some .int) :: tw)) B.pre
  have ht : ∀ w ∈ tw, w.before [.ref (ad 0), .int p0, .int p1, .int p2, .int p3, .int p4].toArray s = true := fun w h => hts w (List.mem_cons_of_mem _ h)
  have hown : s.vm.findClass R_T = some m.cls := findClass_of_methodNamed B.named
  have hlocks := B.notSynchronized
  have hne := B.noHandlers (hts _ List.mem_cons_self)
  have hS : va_S tNo s.heap s.heap [] := va_S.rf
  have hl := lv_entry ([.ref (ad 0), .int p0, .int p1, .int p2, .int p3, .int p4]) (n := 6) (Nat.le_of_ble_eq_true rfl)
  rw [lg_entry_eq]
  generalize (lg_sl ([.ref (ad 0), .int p0, .int p1, .int p2, .int p3, .int p4]) ++ List.replicate (6 - (lg_sl ([.ref (ad 0), .int p0, .int p1, .int p2, .int p3, .int p4])).length) Slot.unset).toArray = ls at hl ⊢
  replace hl : lv_has ls 6 [(0, .ref (ad 0)), (1, .int p0), (2, .int p1), (3, .int p2), (4, .int p3), (5, .int p4)] := hl
  unfold mx_T_street at hf
  refine lv_aload_n hx hb d_T_street_0 rfl (lv_at hl 0 rfl) ?_
  refine lv_iload_n hx hb d_T_street_1 rfl (lv_at hl 1 rfl) ?_
  rcases tx_of hf with hq | hf
  · exact tr_pass (tx_runV (C := R_T) (As := [.int p0]) (rest := []) ⟨hx, hb, hml, hown, ht⟩ (xc_T_needNode l h9 hd hq) ⟨pay_in ht (tw_G wc_T_needNode), List.mem_cons_self, ht _ wd_34, ⟨(Nat.le_of_ble_eq_true rfl), (Nat.le_of_ble_eq_true rfl), (Nat.le_of_ble_eq_true rfl), (Nat.le_of_ble_eq_true rfl)⟩⟩ (ht _ wd_399) (ht _ wd_401) (ht _ wd_5) (ht _ wc_T_needNode) (by decide +kernel) ⟨tPX_blind, va_recv hK hP (ci := 0) (q0 := 0) rfl rfl, fun U hU hW => ⟨⟨rfl, by rw [hU]; exact hP, va_K.moved hW.alike hK, tW_warm hW hN⟩, tT_go hT hS hU hW⟩⟩ rfl (show (parseMethodDescriptor y_T_needNode.desc).map (fun d => d.parameters.length) = some 1 by decide +kernel) hl.1 rfl (lv_room (Nat.le_of_ble_eq_true rfl)) d_T_street_2) hlocks hne hS
  · obtain ⟨s_1, hq1, hf⟩ := tb1_of hf
    refine tr_callv (va_runV (C := R_T) (As := [.int p0]) (rest := []) ⟨hx, hb, hml, hown, ht⟩ (mc_T_needNode l hd hq1) ⟨(tw_cb (n := 1) ht wc_T_needNode wd_34 wd_399 ⟨rfl, rfl⟩ (by decide +kernel) ⟨(Nat.le_of_ble_eq_true rfl), (Nat.le_of_ble_eq_true rfl)⟩), ht _ wd_401, ht _ wd_5⟩ ⟨tP_blind, va_recv hK hP (ci := 0) (q0 := 0) rfl rfl, fun U hU hW => ⟨rfl, by rw [hU]; exact hP, va_K.moved hW.alike hK, tW_warm hW hN⟩⟩ rfl rfl hl.1 rfl (lv_room (Nat.le_of_ble_eq_true rfl)) d_T_street_2 ⟨Nat.zero_le _, Nat.zero_le _⟩) hS (fun _ h => h.elim) (fun _ h => h.elim) (fun H locs hP hS => ?_)
    refine lv_aload_n hx hb d_T_street_5 rfl (lv_at hl 0 rfl) ?_
    refine lv_iload_n hx hb d_T_street_6 rfl (lv_at hl 2 rfl) ?_
    rcases tx_of hf with hq | hf
    · exact tr_pass (tx_runV (C := R_T) (As := [.int p1]) (rest := []) ⟨hx, hb, hml, hown, ht⟩ (xc_T_needNode l h9 hd hq) ⟨pay_in ht (tw_G wc_T_needNode), List.mem_cons_self, ht _ wd_34, ⟨(Nat.le_of_ble_eq_true rfl), (Nat.le_of_ble_eq_true rfl), (Nat.le_of_ble_eq_true rfl), (Nat.le_of_ble_eq_true rfl)⟩⟩ (ht _ wd_399) (ht _ wd_401) (ht _ wd_5) (ht _ wc_T_needNode) (by decide +kernel) ⟨tPX_blind, va_recv hK hP (ci := 0) (q0 := 0) rfl rfl, fun U hU hW => ⟨⟨rfl, by rw [hU]; exact hP, va_K.moved hW.alike hK, tW_warm hW hN⟩, tT_go hT hS hU hW⟩⟩ rfl (show (parseMethodDescriptor y_T_needNode.desc).map (fun d => d.parameters.length) = some 1 by decide +kernel) hl.1 rfl (lv_room (Nat.le_of_ble_eq_true rfl)) d_T_street_7) hlocks hne hS
    · obtain ⟨s_2, hq2, hf⟩ := tb1_of hf
      refine tr_callv (va_runV (C := R_T) (As := [.int p1]) (rest := []) ⟨hx, hb, hml, hown, ht⟩ (mc_T_needNode l hd hq2) ⟨(tw_cb (n := 1) ht wc_T_needNode wd_34 wd_399 ⟨rfl, rfl⟩ (by decide +kernel) ⟨(Nat.le_of_ble_eq_true rfl), (Nat.le_of_ble_eq_true rfl)⟩), ht _ wd_401, ht _ wd_5⟩ ⟨tP_blind, va_recv hK hP (ci := 0) (q0 := 0) rfl rfl, fun U hU hW => ⟨rfl, by rw [hU]; exact hP, va_K.moved hW.alike hK, tW_warm hW hN⟩⟩ rfl rfl hl.1 rfl (lv_room (Nat.le_of_ble_eq_true rfl)) d_T_street_7 ⟨Nat.zero_le _, Nat.zero_le _⟩) hS (fun _ h => h.elim) (fun _ h => h.elim) (fun H locs hP hS => ?_)
      refine lv_iload_n hx hb d_T_street_10 rfl (lv_at hl 1 rfl) ?_
      refine lv_iload_n hx hb d_T_street_11 rfl (lv_at hl 2 rfl) ?_
      refine lv_icmp_ne (tgt := 25) hx hb d_T_street_12 (by decide) (fun hc => ?_) (fun hc => ?_)
      · replace hf := ti_neg hc hf
        refine lv_iload_n hx hb d_T_street_25 rfl (lv_at hl 3 rfl) ?_
        refine lv_iconst (v := (1 : Int32)) hx hb d_T_street_26 (by decide) ?_
        refine lv_sipush (v := (1000 : Int32)) hx hb d_T_street_27 (by decide) ?_
        rcases tx_of hf with hq | hf
        · exact tr_pass (tx_runS (As := [.int p2, .int (1 : Int32), .int (1000 : Int32)]) (rest := []) ⟨hx, hb, hml, hown, ht⟩ (xc_T_needWithin l h9 hd hq) ⟨pay_in ht (tw_G wc_T_needWithin), List.mem_cons_self, ht _ wd_34, ⟨(Nat.le_of_ble_eq_true rfl), (Nat.le_of_ble_eq_true rfl), (Nat.le_of_ble_eq_true rfl), (Nat.le_of_ble_eq_true rfl)⟩⟩ (ht _ wd_420) (ht _ wd_421) (ht _ wc_T_needWithin) (by decide +kernel) ⟨tPX_blind, fun U hU hW => ⟨⟨rfl, by rw [hU]; exact hP, va_K.moved hW.alike hK, tW_warm hW hN⟩, tT_go hT hS hU hW⟩⟩ rfl (show (parseMethodDescriptor y_T_needWithin.desc).map (fun d => d.parameters.length) = some 3 by decide +kernel) hl.1 rfl (lv_room (Nat.le_of_ble_eq_true rfl)) d_T_street_30) hlocks hne hS
        · obtain ⟨s_3, hq3, hf⟩ := tb1_of hf
          refine tr_callv (va_runS (As := [.int p2, .int (1 : Int32), .int (1000 : Int32)]) (rest := []) ⟨hx, hb, hml, hown, ht⟩ (mc_T_needWithin l hd hq3) ⟨(tw_cb (n := 3) ht wc_T_needWithin wd_34 wd_420 ⟨rfl, rfl⟩ (by decide +kernel) ⟨(Nat.le_of_ble_eq_true rfl), (Nat.le_of_ble_eq_true rfl)⟩), ht _ wd_421⟩ ⟨tP_blind, fun U hU hW => ⟨rfl, by rw [hU]; exact hP, va_K.moved hW.alike hK, tW_warm hW hN⟩⟩ rfl rfl hl.1 rfl (lv_room (Nat.le_of_ble_eq_true rfl)) d_T_street_30 ⟨Nat.zero_le _, Nat.zero_le _⟩) hS (fun _ h => h.elim) (fun _ h => h.elim) (fun H locs hP hS => ?_)
          refine lv_iload hx hb d_T_street_33 (lv_at hl 4 rfl) ?_
          refine lv_iconst (v := (0 : Int32)) hx hb d_T_street_35 (by decide) ?_
          refine lv_sipush (v := (1000 : Int32)) hx hb d_T_street_36 (by decide) ?_
          rcases tx_of hf with hq | hf
          · exact tr_pass (tx_runS (As := [.int p3, .int (0 : Int32), .int (1000 : Int32)]) (rest := []) ⟨hx, hb, hml, hown, ht⟩ (xc_T_needWithin l h9 hd hq) ⟨pay_in ht (tw_G wc_T_needWithin), List.mem_cons_self, ht _ wd_34, ⟨(Nat.le_of_ble_eq_true rfl), (Nat.le_of_ble_eq_true rfl), (Nat.le_of_ble_eq_true rfl), (Nat.le_of_ble_eq_true rfl)⟩⟩ (ht _ wd_420) (ht _ wd_421) (ht _ wc_T_needWithin) (by decide +kernel) ⟨tPX_blind, fun U hU hW => ⟨⟨rfl, by rw [hU]; exact hP, va_K.moved hW.alike hK, tW_warm hW hN⟩, tT_go hT hS hU hW⟩⟩ rfl (show (parseMethodDescriptor y_T_needWithin.desc).map (fun d => d.parameters.length) = some 3 by decide +kernel) hl.1 rfl (lv_room (Nat.le_of_ble_eq_true rfl)) d_T_street_39) hlocks hne hS
          · obtain ⟨s_4, hq4, hf⟩ := tb1_of hf
            refine tr_callv (va_runS (As := [.int p3, .int (0 : Int32), .int (1000 : Int32)]) (rest := []) ⟨hx, hb, hml, hown, ht⟩ (mc_T_needWithin l hd hq4) ⟨(tw_cb (n := 3) ht wc_T_needWithin wd_34 wd_420 ⟨rfl, rfl⟩ (by decide +kernel) ⟨(Nat.le_of_ble_eq_true rfl), (Nat.le_of_ble_eq_true rfl)⟩), ht _ wd_421⟩ ⟨tP_blind, fun U hU hW => ⟨rfl, by rw [hU]; exact hP, va_K.moved hW.alike hK, tW_warm hW hN⟩⟩ rfl rfl hl.1 rfl (lv_room (Nat.le_of_ble_eq_true rfl)) d_T_street_39 ⟨Nat.zero_le _, Nat.zero_le _⟩) hS (fun _ h => h.elim) (fun _ h => h.elim) (fun H locs hP hS => ?_)
            refine lv_iload hx hb d_T_street_42 (lv_at hl 5 rfl) ?_
            refine lv_iconst (v := (1 : Int32)) hx hb d_T_street_44 (by decide) ?_
            refine lv_ldc (v := (1000000 : Int32)) hx hb hown (ht _ wd_437) d_T_street_45 ?_
            rcases tx_of hf with hq | hf
            · exact tr_pass (tx_runS (As := [.int p4, .int (1 : Int32), .int (1000000 : Int32)]) (rest := []) ⟨hx, hb, hml, hown, ht⟩ (xc_T_needWithin l h9 hd hq) ⟨pay_in ht (tw_G wc_T_needWithin), List.mem_cons_self, ht _ wd_34, ⟨(Nat.le_of_ble_eq_true rfl), (Nat.le_of_ble_eq_true rfl), (Nat.le_of_ble_eq_true rfl), (Nat.le_of_ble_eq_true rfl)⟩⟩ (ht _ wd_420) (ht _ wd_421) (ht _ wc_T_needWithin) (by decide +kernel) ⟨tPX_blind, fun U hU hW => ⟨⟨rfl, by rw [hU]; exact hP, va_K.moved hW.alike hK, tW_warm hW hN⟩, tT_go hT hS hU hW⟩⟩ rfl (show (parseMethodDescriptor y_T_needWithin.desc).map (fun d => d.parameters.length) = some 3 by decide +kernel) hl.1 rfl (lv_room (Nat.le_of_ble_eq_true rfl)) d_T_street_47) hlocks hne hS
            · obtain ⟨s_5, hq5, hf⟩ := tb1_of hf
              refine tr_callv (va_runS (As := [.int p4, .int (1 : Int32), .int (1000000 : Int32)]) (rest := []) ⟨hx, hb, hml, hown, ht⟩ (mc_T_needWithin l hd hq5) ⟨(tw_cb (n := 3) ht wc_T_needWithin wd_34 wd_420 ⟨rfl, rfl⟩ (by decide +kernel) ⟨(Nat.le_of_ble_eq_true rfl), (Nat.le_of_ble_eq_true rfl)⟩), ht _ wd_421⟩ ⟨tP_blind, fun U hU hW => ⟨rfl, by rw [hU]; exact hP, va_K.moved hW.alike hK, tW_warm hW hN⟩⟩ rfl rfl hl.1 rfl (lv_room (Nat.le_of_ble_eq_true rfl)) d_T_street_47 ⟨Nat.zero_le _, Nat.zero_le _⟩) hS (fun _ h => h.elim) (fun _ h => h.elim) (fun H locs hP hS => ?_)
              refine lv_aload_n hx hb d_T_street_50 rfl (lv_at hl 0 rfl) ?_
              refine va_get (ci := 0) (v := .ref (ad 4)) (C := R_T) (T := F_T) (N := 7) hx hb ht iw_T hown hK hP 0 rfl rfl 4 (by decide) (ht _ wd_249) (fun _ h9 => h9) rfl d_T_street_51 ?_
              refine va_get (ci := 4) (v := .int (s_5.1 2)) (C := R_S) (T := F_S) (N := 10) hx hb ht iw_S hown hK hP 4 rfl rfl 0 (by decide) (ht _ wd_159) (fun _ h9 => h9) rfl d_T_street_54 ?_
              refine lv_bipush (v := (40 : Int32)) hx hb d_T_street_57 (by decide) ?_
              refine lv_icmp_lt (tgt := 72) hx hb d_T_street_59 (by decide) (fun hc => ?_) (fun hc => ?_)
              · replace hf := ti_pos hc hf
                exact tn_no hf
              · replace hf := ti_neg hc hf
                obtain rfl := ts_of hf
                obtain ⟨qs, hqs⟩ := hT.2.2.2 (87, "there are 40 streets") (by decide)
                exact tr_throw (X := xIS) (names := xNs) hx hb hlocks hne h9 hown (hml.trans hl.1.symm) (by decide +kernel) (by decide +kernel) (oa_hold ht hT oa_IS) (ht _ wd_324) (ht _ wd_325) (ht _ wd_47) hqs hS ⟨(Nat.le_of_ble_eq_true rfl), (Nat.le_of_ble_eq_true rfl), (Nat.le_of_ble_eq_true rfl), (Nat.le_of_ble_eq_true rfl)⟩ d_T_street_62 d_T_street_65 d_T_street_66 d_T_street_68 d_T_street_71
      · replace hf := ti_pos hc hf
        obtain rfl := ts_of hf
        obtain ⟨qs, hqs⟩ := hT.2.2.2 (82, "both nodes are one") (by decide)
        exact tr_throw (X := xIA) (names := xNs) hx hb hlocks hne h9 hown (hml.trans hl.1.symm) (by decide +kernel) (by decide +kernel) (oa_hold ht hT oa_IA) (ht _ wd_403) (ht _ wd_404) (ht _ wd_48) hqs hS ⟨(Nat.le_of_ble_eq_true rfl), (Nat.le_of_ble_eq_true rfl), (Nat.le_of_ble_eq_true rfl), (Nat.le_of_ble_eq_true rfl)⟩ d_T_street_15 d_T_street_18 d_T_street_19 d_T_street_21 d_T_street_24
abbrev rx_T_needStreet : Room := { frames := 6, cells := 1, slots := 6, locals := 82 }
set_option maxHeartbeats 4000000 in
set_option maxRecDepth 100000 in
theorem xc_T_needStreet (l : Launch) (h9 : l.stackTraces = false) {D : va_G} {ad : Nat → Nat} {ta : Nat → ClassId} (hd : tD 37 ad) {σ : tS} {p0 : Int32} {k : Nat} (hf : mx_T_needStreet p0 σ = some k) : MetX l y_T_needStreet (.code y_T_needStreet b_T_needStreet 2 none :: tw) rx_T_needStreet (tPX D clS (tyC ta) (cwC ad ta σ) [.ref (ad 0), .int p0]) (exc k) := by
  refine MetX.ofW (cc := b_T_needStreet) (maxL := 2) (ret := none) (by decide) rfl ?_
  intro p e s m args below meth c s₁ B hml hv
  obtain ⟨⟨rfl, hP, hK, hN⟩, hT⟩ := hv
  have hx := B.exec
  have hb := B.bytes
  have hr := B.returns
  have hts := atoms_spec (ws := (.code y_T_needStreet b_T_needStreet 2 none :: tw)) B.pre
  have ht : ∀ w ∈ tw, w.before [.ref (ad 0), .int p0].toArray s = true := fun w h => hts w (List.mem_cons_of_mem _ h)
  have hown : s.vm.findClass R_T = some m.cls := findClass_of_methodNamed B.named
  have hlocks := B.notSynchronized
  have hne := B.noHandlers (hts _ List.mem_cons_self)
  have hS : va_S tNo s.heap s.heap [] := va_S.rf
  have hl := lv_entry ([.ref (ad 0), .int p0]) (n := 2) (Nat.le_of_ble_eq_true rfl)
  rw [lg_entry_eq]
  generalize (lg_sl ([.ref (ad 0), .int p0]) ++ List.replicate (2 - (lg_sl ([.ref (ad 0), .int p0])).length) Slot.unset).toArray = ls at hl ⊢
  replace hl : lv_has ls 2 [(0, .ref (ad 0)), (1, .int p0)] := hl
  unfold mx_T_needStreet at hf
  refine lv_iload_n hx hb d_T_needStreet_0 rfl (lv_at hl 1 rfl) ?_
  refine lv_if_lt (tgt := 15) hx hb d_T_needStreet_1 (by decide) (fun hc => ?_) (fun hc => ?_)
  · replace hf := ti_pos hc hf
    obtain rfl := ts_of hf
    obtain ⟨qs, hqs⟩ := hT.2.2.2 (208, "there is no such street") (by decide)
    exact tr_throw (X := xIA) (names := xNs) hx hb hlocks hne h9 hown (hml.trans hl.1.symm) (by decide +kernel) (by decide +kernel) (oa_hold ht hT oa_IA) (ht _ wd_403) (ht _ wd_404) (ht _ wd_48) hqs hS ⟨(Nat.le_of_ble_eq_true rfl), (Nat.le_of_ble_eq_true rfl), (Nat.le_of_ble_eq_true rfl), (Nat.le_of_ble_eq_true rfl)⟩ d_T_needStreet_15 d_T_needStreet_18 d_T_needStreet_19 d_T_needStreet_21 d_T_needStreet_24
  · replace hf := ti_neg hc hf
    refine lv_iload_n hx hb d_T_needStreet_4 rfl (lv_at hl 1 rfl) ?_
    refine lv_aload_n hx hb d_T_needStreet_5 rfl (lv_at hl 0 rfl) ?_
    refine va_get (ci := 0) (v := .ref (ad 4)) (C := R_T) (T := F_T) (N := 7) hx hb ht iw_T hown hK hP 0 rfl rfl 4 (by decide) (ht _ wd_249) (fun _ h9 => h9) rfl d_T_needStreet_6 ?_
    refine va_get (ci := 4) (v := .int (σ.1 2)) (C := R_S) (T := F_S) (N := 10) hx hb ht iw_S hown hK hP 4 rfl rfl 0 (by decide) (ht _ wd_159) (fun _ h9 => h9) rfl d_T_needStreet_9 ?_
    refine lv_icmp_lt (tgt := 25) hx hb d_T_needStreet_12 (by decide) (fun hc => ?_) (fun hc => ?_)
    · replace hf := ti_pos hc hf
      exact tn_no hf
    · replace hf := ti_neg hc hf
      obtain rfl := ts_of hf
      obtain ⟨qs, hqs⟩ := hT.2.2.2 (208, "there is no such street") (by decide)
      exact tr_throw (X := xIA) (names := xNs) hx hb hlocks hne h9 hown (hml.trans hl.1.symm) (by decide +kernel) (by decide +kernel) (oa_hold ht hT oa_IA) (ht _ wd_403) (ht _ wd_404) (ht _ wd_48) hqs hS ⟨(Nat.le_of_ble_eq_true rfl), (Nat.le_of_ble_eq_true rfl), (Nat.le_of_ble_eq_true rfl), (Nat.le_of_ble_eq_true rfl)⟩ d_T_needStreet_15 d_T_needStreet_18 d_T_needStreet_19 d_T_needStreet_21 d_T_needStreet_24
abbrev rx_T_toll : Room := { frames := 7, cells := 1, slots := 6, locals := 104 }
set_option maxHeartbeats 4000000 in
set_option maxRecDepth 100000 in
theorem xc_T_toll (l : Launch) (h9 : l.stackTraces = false) {D : va_G} {ad : Nat → Nat} {ta : Nat → ClassId} (hd : tD 37 ad) {σ : tS} {p0 : Int32} {p1 : Int32} {k : Nat} (hf : mx_T_toll p0 p1 σ = some k) : MetX l y_T_toll (.code y_T_toll b_T_toll 4 (some .int) :: tw) rx_T_toll (tPX D clS (tyC ta) (cwC ad ta σ) [.ref (ad 0), .int p0, .int p1]) (exc k) := by
  refine MetX.ofW (cc := b_T_toll) (maxL := 4) (ret := (some .int)) (by decide) rfl ?_
  intro p e s m args below meth c s₁ B hml hv
  obtain ⟨⟨rfl, hP, hK, hN⟩, hT⟩ := hv
  have hx := B.exec
  have hb := B.bytes
  have hr := B.returns
  have hts := atoms_spec (ws := (.code y_T_toll b_T_toll 4 (some .int) :: tw)) B.pre
  have ht : ∀ w ∈ tw, w.before [.ref (ad 0), .int p0, .int p1].toArray s = true := fun w h => hts w (List.mem_cons_of_mem _ h)
  have hown : s.vm.findClass R_T = some m.cls := findClass_of_methodNamed B.named
  have hlocks := B.notSynchronized
  have hne := B.noHandlers (hts _ List.mem_cons_self)
  have hS : va_S tNo s.heap s.heap [] := va_S.rf
  have hl := lv_entry ([.ref (ad 0), .int p0, .int p1]) (n := 4) (Nat.le_of_ble_eq_true rfl)
  rw [lg_entry_eq]
  generalize (lg_sl ([.ref (ad 0), .int p0, .int p1]) ++ List.replicate (4 - (lg_sl ([.ref (ad 0), .int p0, .int p1])).length) Slot.unset).toArray = ls at hl ⊢
  replace hl : lv_has ls 4 [(0, .ref (ad 0)), (1, .int p0), (2, .int p1)] := hl
  unfold mx_T_toll at hf
  refine lv_aload_n hx hb d_T_toll_0 rfl (lv_at hl 0 rfl) ?_
  refine lv_iload_n hx hb d_T_toll_1 rfl (lv_at hl 1 rfl) ?_
  rcases tx_of hf with hq | hf
  · exact tr_pass (tx_runV (C := R_T) (As := [.int p0]) (rest := []) ⟨hx, hb, hml, hown, ht⟩ (xc_T_needStreet l h9 hd hq) ⟨pay_in ht (tw_G wc_T_needStreet), List.mem_cons_self, ht _ wd_34, ⟨(Nat.le_of_ble_eq_true rfl), (Nat.le_of_ble_eq_true rfl), (Nat.le_of_ble_eq_true rfl), (Nat.le_of_ble_eq_true rfl)⟩⟩ (ht _ wd_450) (ht _ wd_452) (ht _ wd_6) (ht _ wc_T_needStreet) (by decide +kernel) ⟨tPX_blind, va_recv hK hP (ci := 0) (q0 := 0) rfl rfl, fun U hU hW => ⟨⟨rfl, by rw [hU]; exact hP, va_K.moved hW.alike hK, tW_warm hW hN⟩, tT_go hT hS hU hW⟩⟩ rfl (show (parseMethodDescriptor y_T_needStreet.desc).map (fun d => d.parameters.length) = some 1 by decide +kernel) hl.1 rfl (lv_room (Nat.le_of_ble_eq_true rfl)) d_T_toll_2) hlocks hne hS
  · obtain ⟨s_1, hq1, hf⟩ := tb1_of hf
    refine tr_callv (va_runV (C := R_T) (As := [.int p0]) (rest := []) ⟨hx, hb, hml, hown, ht⟩ (mc_T_needStreet l hd hq1) ⟨(tw_cb (n := 1) ht wc_T_needStreet wd_34 wd_450 ⟨rfl, rfl⟩ (by decide +kernel) ⟨(Nat.le_of_ble_eq_true rfl), (Nat.le_of_ble_eq_true rfl)⟩), ht _ wd_452, ht _ wd_6⟩ ⟨tP_blind, va_recv hK hP (ci := 0) (q0 := 0) rfl rfl, fun U hU hW => ⟨rfl, by rw [hU]; exact hP, va_K.moved hW.alike hK, tW_warm hW hN⟩⟩ rfl rfl hl.1 rfl (lv_room (Nat.le_of_ble_eq_true rfl)) d_T_toll_2 ⟨Nat.zero_le _, Nat.zero_le _⟩) hS (fun _ h => h.elim) (fun _ h => h.elim) (fun H locs hP hS => ?_)
    refine lv_iload_n hx hb d_T_toll_5 rfl (lv_at hl 2 rfl) ?_
    refine lv_iconst (v := (0 : Int32)) hx hb d_T_toll_6 (by decide) ?_
    refine lv_sipush (v := (1000 : Int32)) hx hb d_T_toll_7 (by decide) ?_
    rcases tx_of hf with hq | hf
    · exact tr_pass (tx_runS (As := [.int p1, .int (0 : Int32), .int (1000 : Int32)]) (rest := []) ⟨hx, hb, hml, hown, ht⟩ (xc_T_needWithin l h9 hd hq) ⟨pay_in ht (tw_G wc_T_needWithin), List.mem_cons_self, ht _ wd_34, ⟨(Nat.le_of_ble_eq_true rfl), (Nat.le_of_ble_eq_true rfl), (Nat.le_of_ble_eq_true rfl), (Nat.le_of_ble_eq_true rfl)⟩⟩ (ht _ wd_420) (ht _ wd_421) (ht _ wc_T_needWithin) (by decide +kernel) ⟨tPX_blind, fun U hU hW => ⟨⟨rfl, by rw [hU]; exact hP, va_K.moved hW.alike hK, tW_warm hW hN⟩, tT_go hT hS hU hW⟩⟩ rfl (show (parseMethodDescriptor y_T_needWithin.desc).map (fun d => d.parameters.length) = some 3 by decide +kernel) hl.1 rfl (lv_room (Nat.le_of_ble_eq_true rfl)) d_T_toll_10) hlocks hne hS
    · obtain ⟨s_2, hq2, hf⟩ := tb1_of hf
      refine tr_callv (va_runS (As := [.int p1, .int (0 : Int32), .int (1000 : Int32)]) (rest := []) ⟨hx, hb, hml, hown, ht⟩ (mc_T_needWithin l hd hq2) ⟨(tw_cb (n := 3) ht wc_T_needWithin wd_34 wd_420 ⟨rfl, rfl⟩ (by decide +kernel) ⟨(Nat.le_of_ble_eq_true rfl), (Nat.le_of_ble_eq_true rfl)⟩), ht _ wd_421⟩ ⟨tP_blind, fun U hU hW => ⟨rfl, by rw [hU]; exact hP, va_K.moved hW.alike hK, tW_warm hW hN⟩⟩ rfl rfl hl.1 rfl (lv_room (Nat.le_of_ble_eq_true rfl)) d_T_toll_10 ⟨Nat.zero_le _, Nat.zero_le _⟩) hS (fun _ h => h.elim) (fun _ h => h.elim) (fun H locs hP hS => ?_)
      exact tn_no hf
abbrev rx_T_open : Room := { frames := 7, cells := 1, slots := 6, locals := 103 }
set_option maxHeartbeats 4000000 in
set_option maxRecDepth 100000 in
theorem xc_T_open (l : Launch) (h9 : l.stackTraces = false) {D : va_G} {ad : Nat → Nat} {ta : Nat → ClassId} (hd : tD 37 ad) {σ : tS} {p0 : Int32} {p1 : Int32} {k : Nat} (hf : mx_T_open p0 p1 σ = some k) : MetX l y_T_open (.code y_T_open b_T_open 4 (some .boolean) :: tw) rx_T_open (tPX D clS (tyC ta) (cwC ad ta σ) [.ref (ad 0), .int p0, .int p1]) (exc k) := by
  refine MetX.ofW (cc := b_T_open) (maxL := 4) (ret := (some .boolean)) (by decide) rfl ?_
  intro p e s m args below meth c s₁ B hml hv
  obtain ⟨⟨rfl, hP, hK, hN⟩, hT⟩ := hv
  have hx := B.exec
  have hb := B.bytes
  have hr := B.returns
  have hts := atoms_spec (ws := (.code y_T_open b_T_open 4 (some .boolean) :: tw)) B.pre
  have ht : ∀ w ∈ tw, w.before [.ref (ad 0), .int p0, .int p1].toArray s = true := fun w h => hts w (List.mem_cons_of_mem _ h)
  have hown : s.vm.findClass R_T = some m.cls := findClass_of_methodNamed B.named
  have hlocks := B.notSynchronized
  have hne := B.noHandlers (hts _ List.mem_cons_self)
  have hS : va_S tNo s.heap s.heap [] := va_S.rf
  have hl := lv_entry ([.ref (ad 0), .int p0, .int p1]) (n := 4) (Nat.le_of_ble_eq_true rfl)
  rw [lg_entry_eq]
  generalize (lg_sl ([.ref (ad 0), .int p0, .int p1]) ++ List.replicate (4 - (lg_sl ([.ref (ad 0), .int p0, .int p1])).length) Slot.unset).toArray = ls at hl ⊢
  replace hl : lv_has ls 4 [(0, .ref (ad 0)), (1, .int p0), (2, .int p1)] := hl
  unfold mx_T_open at hf
  refine lv_aload_n hx hb d_T_open_0 rfl (lv_at hl 0 rfl) ?_
  refine lv_iload_n hx hb d_T_open_1 rfl (lv_at hl 1 rfl) ?_
  rcases tx_of hf with hq | hf
  · exact tr_pass (tx_runV (C := R_T) (As := [.int p0]) (rest := []) ⟨hx, hb, hml, hown, ht⟩ (xc_T_needStreet l h9 hd hq) ⟨pay_in ht (tw_G wc_T_needStreet), List.mem_cons_self, ht _ wd_34, ⟨(Nat.le_of_ble_eq_true rfl), (Nat.le_of_ble_eq_true rfl), (Nat.le_of_ble_eq_true rfl), (Nat.le_of_ble_eq_true rfl)⟩⟩ (ht _ wd_450) (ht _ wd_452) (ht _ wd_6) (ht _ wc_T_needStreet) (by decide +kernel) ⟨tPX_blind, va_recv hK hP (ci := 0) (q0 := 0) rfl rfl, fun U hU hW => ⟨⟨rfl, by rw [hU]; exact hP, va_K.moved hW.alike hK, tW_warm hW hN⟩, tT_go hT hS hU hW⟩⟩ rfl (show (parseMethodDescriptor y_T_needStreet.desc).map (fun d => d.parameters.length) = some 1 by decide +kernel) hl.1 rfl (lv_room (Nat.le_of_ble_eq_true rfl)) d_T_open_2) hlocks hne hS
  · obtain ⟨s_1, hq1, hf⟩ := tb1_of hf
    refine tr_callv (va_runV (C := R_T) (As := [.int p0]) (rest := []) ⟨hx, hb, hml, hown, ht⟩ (mc_T_needStreet l hd hq1) ⟨(tw_cb (n := 1) ht wc_T_needStreet wd_34 wd_450 ⟨rfl, rfl⟩ (by decide +kernel) ⟨(Nat.le_of_ble_eq_true rfl), (Nat.le_of_ble_eq_true rfl)⟩), ht _ wd_452, ht _ wd_6⟩ ⟨tP_blind, va_recv hK hP (ci := 0) (q0 := 0) rfl rfl, fun U hU hW => ⟨rfl, by rw [hU]; exact hP, va_K.moved hW.alike hK, tW_warm hW hN⟩⟩ rfl rfl hl.1 rfl (lv_room (Nat.le_of_ble_eq_true rfl)) d_T_open_2 ⟨Nat.zero_le _, Nat.zero_le _⟩) hS (fun _ h => h.elim) (fun _ h => h.elim) (fun H locs hP hS => ?_)
    exact tn_no hf
abbrev rx_T_needZone : Room := { frames := 6, cells := 1, slots := 6, locals := 82 }
set_option maxHeartbeats 4000000 in
set_option maxRecDepth 100000 in
theorem xc_T_needZone (l : Launch) (h9 : l.stackTraces = false) {D : va_G} {ad : Nat → Nat} {ta : Nat → ClassId} (hd : tD 37 ad) {σ : tS} {p0 : Int32} {k : Nat} (hf : mx_T_needZone p0 σ = some k) : MetX l y_T_needZone (.code y_T_needZone b_T_needZone 2 none :: tw) rx_T_needZone (tPX D clS (tyC ta) (cwC ad ta σ) [.ref (ad 0), .int p0]) (exc k) := by
  refine MetX.ofW (cc := b_T_needZone) (maxL := 2) (ret := none) (by decide) rfl ?_
  intro p e s m args below meth c s₁ B hml hv
  obtain ⟨⟨rfl, hP, hK, hN⟩, hT⟩ := hv
  have hx := B.exec
  have hb := B.bytes
  have hr := B.returns
  have hts := atoms_spec (ws := (.code y_T_needZone b_T_needZone 2 none :: tw)) B.pre
  have ht : ∀ w ∈ tw, w.before [.ref (ad 0), .int p0].toArray s = true := fun w h => hts w (List.mem_cons_of_mem _ h)
  have hown : s.vm.findClass R_T = some m.cls := findClass_of_methodNamed B.named
  have hlocks := B.notSynchronized
  have hne := B.noHandlers (hts _ List.mem_cons_self)
  have hS : va_S tNo s.heap s.heap [] := va_S.rf
  have hl := lv_entry ([.ref (ad 0), .int p0]) (n := 2) (Nat.le_of_ble_eq_true rfl)
  rw [lg_entry_eq]
  generalize (lg_sl ([.ref (ad 0), .int p0]) ++ List.replicate (2 - (lg_sl ([.ref (ad 0), .int p0])).length) Slot.unset).toArray = ls at hl ⊢
  replace hl : lv_has ls 2 [(0, .ref (ad 0)), (1, .int p0)] := hl
  unfold mx_T_needZone at hf
  refine lv_iload_n hx hb d_T_needZone_0 rfl (lv_at hl 1 rfl) ?_
  refine lv_if_lt (tgt := 15) hx hb d_T_needZone_1 (by decide) (fun hc => ?_) (fun hc => ?_)
  · replace hf := ti_pos hc hf
    obtain rfl := ts_of hf
    obtain ⟨qs, hqs⟩ := hT.2.2.2 (206, "there is no such zone") (by decide)
    exact tr_throw (X := xIA) (names := xNs) hx hb hlocks hne h9 hown (hml.trans hl.1.symm) (by decide +kernel) (by decide +kernel) (oa_hold ht hT oa_IA) (ht _ wd_403) (ht _ wd_404) (ht _ wd_48) hqs hS ⟨(Nat.le_of_ble_eq_true rfl), (Nat.le_of_ble_eq_true rfl), (Nat.le_of_ble_eq_true rfl), (Nat.le_of_ble_eq_true rfl)⟩ d_T_needZone_15 d_T_needZone_18 d_T_needZone_19 d_T_needZone_21 d_T_needZone_24
  · replace hf := ti_neg hc hf
    refine lv_iload_n hx hb d_T_needZone_4 rfl (lv_at hl 1 rfl) ?_
    refine lv_aload_n hx hb d_T_needZone_5 rfl (lv_at hl 0 rfl) ?_
    refine va_get (ci := 0) (v := .ref (ad 1)) (C := R_T) (T := F_T) (N := 7) hx hb ht iw_T hown hK hP 0 rfl rfl 1 (by decide) (ht _ wd_246) (fun _ h9 => h9) rfl d_T_needZone_6 ?_
    refine va_get (ci := 1) (v := .int (σ.1 1)) (C := R_Z) (T := F_Z) (N := 4) hx hb ht iw_Z hown hK hP 1 rfl rfl 0 (by decide) (ht _ wd_66) (fun _ h9 => h9) rfl d_T_needZone_9 ?_
    refine lv_icmp_lt (tgt := 25) hx hb d_T_needZone_12 (by decide) (fun hc => ?_) (fun hc => ?_)
    · replace hf := ti_pos hc hf
      exact tn_no hf
    · replace hf := ti_neg hc hf
      obtain rfl := ts_of hf
      obtain ⟨qs, hqs⟩ := hT.2.2.2 (206, "there is no such zone") (by decide)
      exact tr_throw (X := xIA) (names := xNs) hx hb hlocks hne h9 hown (hml.trans hl.1.symm) (by decide +kernel) (by decide +kernel) (oa_hold ht hT oa_IA) (ht _ wd_403) (ht _ wd_404) (ht _ wd_48) hqs hS ⟨(Nat.le_of_ble_eq_true rfl), (Nat.le_of_ble_eq_true rfl), (Nat.le_of_ble_eq_true rfl), (Nat.le_of_ble_eq_true rfl)⟩ d_T_needZone_15 d_T_needZone_18 d_T_needZone_19 d_T_needZone_21 d_T_needZone_24
abbrev rx_T_weight : Room := { frames := 7, cells := 1, slots := 6, locals := 104 }
set_option maxHeartbeats 4000000 in
set_option maxRecDepth 100000 in
theorem xc_T_weight (l : Launch) (h9 : l.stackTraces = false) {D : va_G} {ad : Nat → Nat} {ta : Nat → ClassId} (hd : tD 37 ad) {σ : tS} {p0 : Int32} {p1 : Int32} {p2 : Int32} {k : Nat} (hf : mx_T_weight p0 p1 p2 σ = some k) : MetX l y_T_weight (.code y_T_weight b_T_weight 6 (some .int) :: tw) rx_T_weight (tPX D clS (tyC ta) (cwC ad ta σ) [.ref (ad 0), .int p0, .int p1, .int p2]) (exc k) := by
  refine MetX.ofW (cc := b_T_weight) (maxL := 6) (ret := (some .int)) (by decide) rfl ?_
  intro p e s m args below meth c s₁ B hml hv
  obtain ⟨⟨rfl, hP, hK, hN⟩, hT⟩ := hv
  have hx := B.exec
  have hb := B.bytes
  have hr := B.returns
  have hts := atoms_spec (ws := (.code y_T_weight b_T_weight 6 (some .int) :: tw)) B.pre
  have ht : ∀ w ∈ tw, w.before [.ref (ad 0), .int p0, .int p1, .int p2].toArray s = true := fun w h => hts w (List.mem_cons_of_mem _ h)
  have hown : s.vm.findClass R_T = some m.cls := findClass_of_methodNamed B.named
  have hlocks := B.notSynchronized
  have hne := B.noHandlers (hts _ List.mem_cons_self)
  have hS : va_S tNo s.heap s.heap [] := va_S.rf
  have hl := lv_entry ([.ref (ad 0), .int p0, .int p1, .int p2]) (n := 6) (Nat.le_of_ble_eq_true rfl)
  rw [lg_entry_eq]
  generalize (lg_sl ([.ref (ad 0), .int p0, .int p1, .int p2]) ++ List.replicate (6 - (lg_sl ([.ref (ad 0), .int p0, .int p1, .int p2])).length) Slot.unset).toArray = ls at hl ⊢
  replace hl : lv_has ls 6 [(0, .ref (ad 0)), (1, .int p0), (2, .int p1), (3, .int p2)] := hl
  unfold mx_T_weight at hf
  refine lv_aload_n hx hb d_T_weight_0 rfl (lv_at hl 0 rfl) ?_
  refine lv_iload_n hx hb d_T_weight_1 rfl (lv_at hl 1 rfl) ?_
  rcases tx_of hf with hq | hf
  · exact tr_pass (tx_runV (C := R_T) (As := [.int p0]) (rest := []) ⟨hx, hb, hml, hown, ht⟩ (xc_T_needZone l h9 hd hq) ⟨pay_in ht (tw_G wc_T_needZone), List.mem_cons_self, ht _ wd_34, ⟨(Nat.le_of_ble_eq_true rfl), (Nat.le_of_ble_eq_true rfl), (Nat.le_of_ble_eq_true rfl), (Nat.le_of_ble_eq_true rfl)⟩⟩ (ht _ wd_469) (ht _ wd_471) (ht _ wd_7) (ht _ wc_T_needZone) (by decide +kernel) ⟨tPX_blind, va_recv hK hP (ci := 0) (q0 := 0) rfl rfl, fun U hU hW => ⟨⟨rfl, by rw [hU]; exact hP, va_K.moved hW.alike hK, tW_warm hW hN⟩, tT_go hT hS hU hW⟩⟩ rfl (show (parseMethodDescriptor y_T_needZone.desc).map (fun d => d.parameters.length) = some 1 by decide +kernel) hl.1 rfl (lv_room (Nat.le_of_ble_eq_true rfl)) d_T_weight_2) hlocks hne hS
  · obtain ⟨s_1, hq1, hf⟩ := tb1_of hf
    refine tr_callv (va_runV (C := R_T) (As := [.int p0]) (rest := []) ⟨hx, hb, hml, hown, ht⟩ (mc_T_needZone l hd hq1) ⟨(tw_cb (n := 1) ht wc_T_needZone wd_34 wd_469 ⟨rfl, rfl⟩ (by decide +kernel) ⟨(Nat.le_of_ble_eq_true rfl), (Nat.le_of_ble_eq_true rfl)⟩), ht _ wd_471, ht _ wd_7⟩ ⟨tP_blind, va_recv hK hP (ci := 0) (q0 := 0) rfl rfl, fun U hU hW => ⟨rfl, by rw [hU]; exact hP, va_K.moved hW.alike hK, tW_warm hW hN⟩⟩ rfl rfl hl.1 rfl (lv_room (Nat.le_of_ble_eq_true rfl)) d_T_weight_2 ⟨Nat.zero_le _, Nat.zero_le _⟩) hS (fun _ h => h.elim) (fun _ h => h.elim) (fun H locs hP hS => ?_)
    refine lv_aload_n hx hb d_T_weight_5 rfl (lv_at hl 0 rfl) ?_
    refine lv_iload_n hx hb d_T_weight_6 rfl (lv_at hl 2 rfl) ?_
    rcases tx_of hf with hq | hf
    · exact tr_pass (tx_runV (C := R_T) (As := [.int p1]) (rest := []) ⟨hx, hb, hml, hown, ht⟩ (xc_T_needZone l h9 hd hq) ⟨pay_in ht (tw_G wc_T_needZone), List.mem_cons_self, ht _ wd_34, ⟨(Nat.le_of_ble_eq_true rfl), (Nat.le_of_ble_eq_true rfl), (Nat.le_of_ble_eq_true rfl), (Nat.le_of_ble_eq_true rfl)⟩⟩ (ht _ wd_469) (ht _ wd_471) (ht _ wd_7) (ht _ wc_T_needZone) (by decide +kernel) ⟨tPX_blind, va_recv hK hP (ci := 0) (q0 := 0) rfl rfl, fun U hU hW => ⟨⟨rfl, by rw [hU]; exact hP, va_K.moved hW.alike hK, tW_warm hW hN⟩, tT_go hT hS hU hW⟩⟩ rfl (show (parseMethodDescriptor y_T_needZone.desc).map (fun d => d.parameters.length) = some 1 by decide +kernel) hl.1 rfl (lv_room (Nat.le_of_ble_eq_true rfl)) d_T_weight_7) hlocks hne hS
    · obtain ⟨s_2, hq2, hf⟩ := tb1_of hf
      refine tr_callv (va_runV (C := R_T) (As := [.int p1]) (rest := []) ⟨hx, hb, hml, hown, ht⟩ (mc_T_needZone l hd hq2) ⟨(tw_cb (n := 1) ht wc_T_needZone wd_34 wd_469 ⟨rfl, rfl⟩ (by decide +kernel) ⟨(Nat.le_of_ble_eq_true rfl), (Nat.le_of_ble_eq_true rfl)⟩), ht _ wd_471, ht _ wd_7⟩ ⟨tP_blind, va_recv hK hP (ci := 0) (q0 := 0) rfl rfl, fun U hU hW => ⟨rfl, by rw [hU]; exact hP, va_K.moved hW.alike hK, tW_warm hW hN⟩⟩ rfl rfl hl.1 rfl (lv_room (Nat.le_of_ble_eq_true rfl)) d_T_weight_7 ⟨Nat.zero_le _, Nat.zero_le _⟩) hS (fun _ h => h.elim) (fun _ h => h.elim) (fun H locs hP hS => ?_)
      refine lv_iload_n hx hb d_T_weight_10 rfl (lv_at hl 3 rfl) ?_
      refine lv_iconst (v := (0 : Int32)) hx hb d_T_weight_11 (by decide) ?_
      refine lv_sipush (v := (1000 : Int32)) hx hb d_T_weight_12 (by decide) ?_
      rcases tx_of hf with hq | hf
      · exact tr_pass (tx_runS (As := [.int p2, .int (0 : Int32), .int (1000 : Int32)]) (rest := []) ⟨hx, hb, hml, hown, ht⟩ (xc_T_needWithin l h9 hd hq) ⟨pay_in ht (tw_G wc_T_needWithin), List.mem_cons_self, ht _ wd_34, ⟨(Nat.le_of_ble_eq_true rfl), (Nat.le_of_ble_eq_true rfl), (Nat.le_of_ble_eq_true rfl), (Nat.le_of_ble_eq_true rfl)⟩⟩ (ht _ wd_420) (ht _ wd_421) (ht _ wc_T_needWithin) (by decide +kernel) ⟨tPX_blind, fun U hU hW => ⟨⟨rfl, by rw [hU]; exact hP, va_K.moved hW.alike hK, tW_warm hW hN⟩, tT_go hT hS hU hW⟩⟩ rfl (show (parseMethodDescriptor y_T_needWithin.desc).map (fun d => d.parameters.length) = some 3 by decide +kernel) hl.1 rfl (lv_room (Nat.le_of_ble_eq_true rfl)) d_T_weight_15) hlocks hne hS
      · obtain ⟨s_3, hq3, hf⟩ := tb1_of hf
        refine tr_callv (va_runS (As := [.int p2, .int (0 : Int32), .int (1000 : Int32)]) (rest := []) ⟨hx, hb, hml, hown, ht⟩ (mc_T_needWithin l hd hq3) ⟨(tw_cb (n := 3) ht wc_T_needWithin wd_34 wd_420 ⟨rfl, rfl⟩ (by decide +kernel) ⟨(Nat.le_of_ble_eq_true rfl), (Nat.le_of_ble_eq_true rfl)⟩), ht _ wd_421⟩ ⟨tP_blind, fun U hU hW => ⟨rfl, by rw [hU]; exact hP, va_K.moved hW.alike hK, tW_warm hW hN⟩⟩ rfl rfl hl.1 rfl (lv_room (Nat.le_of_ble_eq_true rfl)) d_T_weight_15 ⟨Nat.zero_le _, Nat.zero_le _⟩) hS (fun _ h => h.elim) (fun _ h => h.elim) (fun H locs hP hS => ?_)
        exact tn_no hf
abbrev rx_T_size : Room := { frames := 7, cells := 1, slots := 6, locals := 104 }
set_option maxHeartbeats 4000000 in
set_option maxRecDepth 100000 in
theorem xc_T_size (l : Launch) (h9 : l.stackTraces = false) {D : va_G} {ad : Nat → Nat} {ta : Nat → ClassId} (hd : tD 37 ad) {σ : tS} {p0 : Int32} {p1 : Int32} {p2 : Int32} {k : Nat} (hf : mx_T_size p0 p1 p2 σ = some k) : MetX l y_T_size (.code y_T_size b_T_size 6 (some .int) :: tw) rx_T_size (tPX D clS (tyC ta) (cwC ad ta σ) [.ref (ad 0), .int p0, .int p1, .int p2]) (exc k) := by
  refine MetX.ofW (cc := b_T_size) (maxL := 6) (ret := (some .int)) (by decide) rfl ?_
  intro p e s m args below meth c s₁ B hml hv
  obtain ⟨⟨rfl, hP, hK, hN⟩, hT⟩ := hv
  have hx := B.exec
  have hb := B.bytes
  have hr := B.returns
  have hts := atoms_spec (ws := (.code y_T_size b_T_size 6 (some .int) :: tw)) B.pre
  have ht : ∀ w ∈ tw, w.before [.ref (ad 0), .int p0, .int p1, .int p2].toArray s = true := fun w h => hts w (List.mem_cons_of_mem _ h)
  have hown : s.vm.findClass R_T = some m.cls := findClass_of_methodNamed B.named
  have hlocks := B.notSynchronized
  have hne := B.noHandlers (hts _ List.mem_cons_self)
  have hS : va_S tNo s.heap s.heap [] := va_S.rf
  have hl := lv_entry ([.ref (ad 0), .int p0, .int p1, .int p2]) (n := 6) (Nat.le_of_ble_eq_true rfl)
  rw [lg_entry_eq]
  generalize (lg_sl ([.ref (ad 0), .int p0, .int p1, .int p2]) ++ List.replicate (6 - (lg_sl ([.ref (ad 0), .int p0, .int p1, .int p2])).length) Slot.unset).toArray = ls at hl ⊢
  replace hl : lv_has ls 6 [(0, .ref (ad 0)), (1, .int p0), (2, .int p1), (3, .int p2)] := hl
  unfold mx_T_size at hf
  refine lv_aload_n hx hb d_T_size_0 rfl (lv_at hl 0 rfl) ?_
  refine lv_iload_n hx hb d_T_size_1 rfl (lv_at hl 1 rfl) ?_
  rcases tx_of hf with hq | hf
  · exact tr_pass (tx_runV (C := R_T) (As := [.int p0]) (rest := []) ⟨hx, hb, hml, hown, ht⟩ (xc_T_needZone l h9 hd hq) ⟨pay_in ht (tw_G wc_T_needZone), List.mem_cons_self, ht _ wd_34, ⟨(Nat.le_of_ble_eq_true rfl), (Nat.le_of_ble_eq_true rfl), (Nat.le_of_ble_eq_true rfl), (Nat.le_of_ble_eq_true rfl)⟩⟩ (ht _ wd_469) (ht _ wd_471) (ht _ wd_7) (ht _ wc_T_needZone) (by decide +kernel) ⟨tPX_blind, va_recv hK hP (ci := 0) (q0 := 0) rfl rfl, fun U hU hW => ⟨⟨rfl, by rw [hU]; exact hP, va_K.moved hW.alike hK, tW_warm hW hN⟩, tT_go hT hS hU hW⟩⟩ rfl (show (parseMethodDescriptor y_T_needZone.desc).map (fun d => d.parameters.length) = some 1 by decide +kernel) hl.1 rfl (lv_room (Nat.le_of_ble_eq_true rfl)) d_T_size_2) hlocks hne hS
  · obtain ⟨s_1, hq1, hf⟩ := tb1_of hf
    refine tr_callv (va_runV (C := R_T) (As := [.int p0]) (rest := []) ⟨hx, hb, hml, hown, ht⟩ (mc_T_needZone l hd hq1) ⟨(tw_cb (n := 1) ht wc_T_needZone wd_34 wd_469 ⟨rfl, rfl⟩ (by decide +kernel) ⟨(Nat.le_of_ble_eq_true rfl), (Nat.le_of_ble_eq_true rfl)⟩), ht _ wd_471, ht _ wd_7⟩ ⟨tP_blind, va_recv hK hP (ci := 0) (q0 := 0) rfl rfl, fun U hU hW => ⟨rfl, by rw [hU]; exact hP, va_K.moved hW.alike hK, tW_warm hW hN⟩⟩ rfl rfl hl.1 rfl (lv_room (Nat.le_of_ble_eq_true rfl)) d_T_size_2 ⟨Nat.zero_le _, Nat.zero_le _⟩) hS (fun _ h => h.elim) (fun _ h => h.elim) (fun H locs hP hS => ?_)
    refine lv_iload_n hx hb d_T_size_5 rfl (lv_at hl 2 rfl) ?_
    refine lv_iconst (v := (0 : Int32)) hx hb d_T_size_6 (by decide) ?_
    refine lv_iconst (v := (1 : Int32)) hx hb d_T_size_7 (by decide) ?_
    rcases tx_of hf with hq | hf
    · exact tr_pass (tx_runS (As := [.int p1, .int (0 : Int32), .int (1 : Int32)]) (rest := []) ⟨hx, hb, hml, hown, ht⟩ (xc_T_needWithin l h9 hd hq) ⟨pay_in ht (tw_G wc_T_needWithin), List.mem_cons_self, ht _ wd_34, ⟨(Nat.le_of_ble_eq_true rfl), (Nat.le_of_ble_eq_true rfl), (Nat.le_of_ble_eq_true rfl), (Nat.le_of_ble_eq_true rfl)⟩⟩ (ht _ wd_420) (ht _ wd_421) (ht _ wc_T_needWithin) (by decide +kernel) ⟨tPX_blind, fun U hU hW => ⟨⟨rfl, by rw [hU]; exact hP, va_K.moved hW.alike hK, tW_warm hW hN⟩, tT_go hT hS hU hW⟩⟩ rfl (show (parseMethodDescriptor y_T_needWithin.desc).map (fun d => d.parameters.length) = some 3 by decide +kernel) hl.1 rfl (lv_room (Nat.le_of_ble_eq_true rfl)) d_T_size_8) hlocks hne hS
    · obtain ⟨s_2, hq2, hf⟩ := tb1_of hf
      refine tr_callv (va_runS (As := [.int p1, .int (0 : Int32), .int (1 : Int32)]) (rest := []) ⟨hx, hb, hml, hown, ht⟩ (mc_T_needWithin l hd hq2) ⟨(tw_cb (n := 3) ht wc_T_needWithin wd_34 wd_420 ⟨rfl, rfl⟩ (by decide +kernel) ⟨(Nat.le_of_ble_eq_true rfl), (Nat.le_of_ble_eq_true rfl)⟩), ht _ wd_421⟩ ⟨tP_blind, fun U hU hW => ⟨rfl, by rw [hU]; exact hP, va_K.moved hW.alike hK, tW_warm hW hN⟩⟩ rfl rfl hl.1 rfl (lv_room (Nat.le_of_ble_eq_true rfl)) d_T_size_8 ⟨Nat.zero_le _, Nat.zero_le _⟩) hS (fun _ h => h.elim) (fun _ h => h.elim) (fun H locs hP hS => ?_)
      refine lv_iload_n hx hb d_T_size_11 rfl (lv_at hl 3 rfl) ?_
      refine lv_iconst (v := (0 : Int32)) hx hb d_T_size_12 (by decide) ?_
      refine lv_ldc (v := (100000 : Int32)) hx hb hown (ht _ wd_419) d_T_size_13 ?_
      rcases tx_of hf with hq | hf
      · exact tr_pass (tx_runS (As := [.int p2, .int (0 : Int32), .int (100000 : Int32)]) (rest := []) ⟨hx, hb, hml, hown, ht⟩ (xc_T_needWithin l h9 hd hq) ⟨pay_in ht (tw_G wc_T_needWithin), List.mem_cons_self, ht _ wd_34, ⟨(Nat.le_of_ble_eq_true rfl), (Nat.le_of_ble_eq_true rfl), (Nat.le_of_ble_eq_true rfl), (Nat.le_of_ble_eq_true rfl)⟩⟩ (ht _ wd_420) (ht _ wd_421) (ht _ wc_T_needWithin) (by decide +kernel) ⟨tPX_blind, fun U hU hW => ⟨⟨rfl, by rw [hU]; exact hP, va_K.moved hW.alike hK, tW_warm hW hN⟩, tT_go hT hS hU hW⟩⟩ rfl (show (parseMethodDescriptor y_T_needWithin.desc).map (fun d => d.parameters.length) = some 3 by decide +kernel) hl.1 rfl (lv_room (Nat.le_of_ble_eq_true rfl)) d_T_size_15) hlocks hne hS
      · obtain ⟨s_3, hq3, hf⟩ := tb1_of hf
        refine tr_callv (va_runS (As := [.int p2, .int (0 : Int32), .int (100000 : Int32)]) (rest := []) ⟨hx, hb, hml, hown, ht⟩ (mc_T_needWithin l hd hq3) ⟨(tw_cb (n := 3) ht wc_T_needWithin wd_34 wd_420 ⟨rfl, rfl⟩ (by decide +kernel) ⟨(Nat.le_of_ble_eq_true rfl), (Nat.le_of_ble_eq_true rfl)⟩), ht _ wd_421⟩ ⟨tP_blind, fun U hU hW => ⟨rfl, by rw [hU]; exact hP, va_K.moved hW.alike hK, tW_warm hW hN⟩⟩ rfl rfl hl.1 rfl (lv_room (Nat.le_of_ble_eq_true rfl)) d_T_size_15 ⟨Nat.zero_le _, Nat.zero_le _⟩) hS (fun _ h => h.elim) (fun _ h => h.elim) (fun H locs hP hS => ?_)
        exact tn_no hf
abbrev rx_T_rounds : Room := { frames := 7, cells := 1, slots := 6, locals := 104 }
set_option maxHeartbeats 4000000 in
set_option maxRecDepth 100000 in
theorem xc_T_rounds (l : Launch) (h9 : l.stackTraces = false) {D : va_G} {ad : Nat → Nat} {ta : Nat → ClassId} (hd : tD 37 ad) {σ : tS} {p0 : Int32} {p1 : Int32} {k : Nat} (hf : mx_T_rounds p0 p1 σ = some k) : MetX l y_T_rounds (.code y_T_rounds b_T_rounds 3 (some .int) :: tw) rx_T_rounds (tPX D clS (tyC ta) (cwC ad ta σ) [.ref (ad 0), .int p0, .int p1]) (exc k) := by
  refine MetX.ofW (cc := b_T_rounds) (maxL := 3) (ret := (some .int)) (by decide) rfl ?_
  intro p e s m args below meth c s₁ B hml hv
  obtain ⟨⟨rfl, hP, hK, hN⟩, hT⟩ := hv
  have hx := B.exec
  have hb := B.bytes
  have hr := B.returns
  have hts := atoms_spec (ws := (.code y_T_rounds b_T_rounds 3 (some .int) :: tw)) B.pre
  have ht : ∀ w ∈ tw, w.before [.ref (ad 0), .int p0, .int p1].toArray s = true := fun w h => hts w (List.mem_cons_of_mem _ h)
  have hown : s.vm.findClass R_T = some m.cls := findClass_of_methodNamed B.named
  have hlocks := B.notSynchronized
  have hne := B.noHandlers (hts _ List.mem_cons_self)
  have hS : va_S tNo s.heap s.heap [] := va_S.rf
  have hl := lv_entry ([.ref (ad 0), .int p0, .int p1]) (n := 3) (Nat.le_of_ble_eq_true rfl)
  rw [lg_entry_eq]
  generalize (lg_sl ([.ref (ad 0), .int p0, .int p1]) ++ List.replicate (3 - (lg_sl ([.ref (ad 0), .int p0, .int p1])).length) Slot.unset).toArray = ls at hl ⊢
  replace hl : lv_has ls 3 [(0, .ref (ad 0)), (1, .int p0), (2, .int p1)] := hl
  unfold mx_T_rounds at hf
  refine lv_iload_n hx hb d_T_rounds_0 rfl (lv_at hl 1 rfl) ?_
  refine lv_iconst (v := (1 : Int32)) hx hb d_T_rounds_1 (by decide) ?_
  refine lv_bipush (v := (50 : Int32)) hx hb d_T_rounds_2 (by decide) ?_
  rcases tx_of hf with hq | hf
  · exact tr_pass (tx_runS (As := [.int p0, .int (1 : Int32), .int (50 : Int32)]) (rest := []) ⟨hx, hb, hml, hown, ht⟩ (xc_T_needWithin l h9 hd hq) ⟨pay_in ht (tw_G wc_T_needWithin), List.mem_cons_self, ht _ wd_34, ⟨(Nat.le_of_ble_eq_true rfl), (Nat.le_of_ble_eq_true rfl), (Nat.le_of_ble_eq_true rfl), (Nat.le_of_ble_eq_true rfl)⟩⟩ (ht _ wd_420) (ht _ wd_421) (ht _ wc_T_needWithin) (by decide +kernel) ⟨tPX_blind, fun U hU hW => ⟨⟨rfl, by rw [hU]; exact hP, va_K.moved hW.alike hK, tW_warm hW hN⟩, tT_go hT hS hU hW⟩⟩ rfl (show (parseMethodDescriptor y_T_needWithin.desc).map (fun d => d.parameters.length) = some 3 by decide +kernel) hl.1 rfl (lv_room (Nat.le_of_ble_eq_true rfl)) d_T_rounds_4) hlocks hne hS
  · obtain ⟨s_1, hq1, hf⟩ := tb1_of hf
    refine tr_callv (va_runS (As := [.int p0, .int (1 : Int32), .int (50 : Int32)]) (rest := []) ⟨hx, hb, hml, hown, ht⟩ (mc_T_needWithin l hd hq1) ⟨(tw_cb (n := 3) ht wc_T_needWithin wd_34 wd_420 ⟨rfl, rfl⟩ (by decide +kernel) ⟨(Nat.le_of_ble_eq_true rfl), (Nat.le_of_ble_eq_true rfl)⟩), ht _ wd_421⟩ ⟨tP_blind, fun U hU hW => ⟨rfl, by rw [hU]; exact hP, va_K.moved hW.alike hK, tW_warm hW hN⟩⟩ rfl rfl hl.1 rfl (lv_room (Nat.le_of_ble_eq_true rfl)) d_T_rounds_4 ⟨Nat.zero_le _, Nat.zero_le _⟩) hS (fun _ h => h.elim) (fun _ h => h.elim) (fun H locs hP hS => ?_)
    refine lv_iload_n hx hb d_T_rounds_7 rfl (lv_at hl 2 rfl) ?_
    refine lv_iconst (v := (0 : Int32)) hx hb d_T_rounds_8 (by decide) ?_
    refine lv_ldc (v := (100000 : Int32)) hx hb hown (ht _ wd_419) d_T_rounds_9 ?_
    rcases tx_of hf with hq | hf
    · exact tr_pass (tx_runS (As := [.int p1, .int (0 : Int32), .int (100000 : Int32)]) (rest := []) ⟨hx, hb, hml, hown, ht⟩ (xc_T_needWithin l h9 hd hq) ⟨pay_in ht (tw_G wc_T_needWithin), List.mem_cons_self, ht _ wd_34, ⟨(Nat.le_of_ble_eq_true rfl), (Nat.le_of_ble_eq_true rfl), (Nat.le_of_ble_eq_true rfl), (Nat.le_of_ble_eq_true rfl)⟩⟩ (ht _ wd_420) (ht _ wd_421) (ht _ wc_T_needWithin) (by decide +kernel) ⟨tPX_blind, fun U hU hW => ⟨⟨rfl, by rw [hU]; exact hP, va_K.moved hW.alike hK, tW_warm hW hN⟩, tT_go hT hS hU hW⟩⟩ rfl (show (parseMethodDescriptor y_T_needWithin.desc).map (fun d => d.parameters.length) = some 3 by decide +kernel) hl.1 rfl (lv_room (Nat.le_of_ble_eq_true rfl)) d_T_rounds_11) hlocks hne hS
    · obtain ⟨s_2, hq2, hf⟩ := tb1_of hf
      refine tr_callv (va_runS (As := [.int p1, .int (0 : Int32), .int (100000 : Int32)]) (rest := []) ⟨hx, hb, hml, hown, ht⟩ (mc_T_needWithin l hd hq2) ⟨(tw_cb (n := 3) ht wc_T_needWithin wd_34 wd_420 ⟨rfl, rfl⟩ (by decide +kernel) ⟨(Nat.le_of_ble_eq_true rfl), (Nat.le_of_ble_eq_true rfl)⟩), ht _ wd_421⟩ ⟨tP_blind, fun U hU hW => ⟨rfl, by rw [hU]; exact hP, va_K.moved hW.alike hK, tW_warm hW hN⟩⟩ rfl rfl hl.1 rfl (lv_room (Nat.le_of_ble_eq_true rfl)) d_T_rounds_11 ⟨Nat.zero_le _, Nat.zero_le _⟩) hS (fun _ h => h.elim) (fun _ h => h.elim) (fun H locs hP hS => ?_)
      exact tn_no hf
abbrev rx_T_trips : Room := { frames := 7, cells := 1, slots := 6, locals := 103 }
set_option maxHeartbeats 4000000 in
set_option maxRecDepth 100000 in
theorem xc_T_trips (l : Launch) (h9 : l.stackTraces = false) {D : va_G} {ad : Nat → Nat} {ta : Nat → ClassId} (hd : tD 37 ad) {σ : tS} {p0 : Int32} {p1 : Int32} {k : Nat} (hf : mx_T_trips p0 p1 σ = some k) : MetX l y_T_trips (.code y_T_trips b_T_trips 3 (some .int) :: tw) rx_T_trips (tPX D clS (tyC ta) (cwC ad ta σ) [.ref (ad 0), .int p0, .int p1]) (exc k) := by
  refine MetX.ofW (cc := b_T_trips) (maxL := 3) (ret := (some .int)) (by decide) rfl ?_
  intro p e s m args below meth c s₁ B hml hv
  obtain ⟨⟨rfl, hP, hK, hN⟩, hT⟩ := hv
  have hx := B.exec
  have hb := B.bytes
  have hr := B.returns
  have hts := atoms_spec (ws := (.code y_T_trips b_T_trips 3 (some .int) :: tw)) B.pre
  have ht : ∀ w ∈ tw, w.before [.ref (ad 0), .int p0, .int p1].toArray s = true := fun w h => hts w (List.mem_cons_of_mem _ h)
  have hown : s.vm.findClass R_T = some m.cls := findClass_of_methodNamed B.named
  have hlocks := B.notSynchronized
  have hne := B.noHandlers (hts _ List.mem_cons_self)
  have hS : va_S tNo s.heap s.heap [] := va_S.rf
  have hl := lv_entry ([.ref (ad 0), .int p0, .int p1]) (n := 3) (Nat.le_of_ble_eq_true rfl)
  rw [lg_entry_eq]
  generalize (lg_sl ([.ref (ad 0), .int p0, .int p1]) ++ List.replicate (3 - (lg_sl ([.ref (ad 0), .int p0, .int p1])).length) Slot.unset).toArray = ls at hl ⊢
  replace hl : lv_has ls 3 [(0, .ref (ad 0)), (1, .int p0), (2, .int p1)] := hl
  unfold mx_T_trips at hf
  refine lv_aload_n hx hb d_T_trips_0 rfl (lv_at hl 0 rfl) ?_
  refine lv_iload_n hx hb d_T_trips_1 rfl (lv_at hl 1 rfl) ?_
  rcases tx_of hf with hq | hf
  · exact tr_pass (tx_runV (C := R_T) (As := [.int p0]) (rest := []) ⟨hx, hb, hml, hown, ht⟩ (xc_T_needZone l h9 hd hq) ⟨pay_in ht (tw_G wc_T_needZone), List.mem_cons_self, ht _ wd_34, ⟨(Nat.le_of_ble_eq_true rfl), (Nat.le_of_ble_eq_true rfl), (Nat.le_of_ble_eq_true rfl), (Nat.le_of_ble_eq_true rfl)⟩⟩ (ht _ wd_469) (ht _ wd_471) (ht _ wd_7) (ht _ wc_T_needZone) (by decide +kernel) ⟨tPX_blind, va_recv hK hP (ci := 0) (q0 := 0) rfl rfl, fun U hU hW => ⟨⟨rfl, by rw [hU]; exact hP, va_K.moved hW.alike hK, tW_warm hW hN⟩, tT_go hT hS hU hW⟩⟩ rfl (show (parseMethodDescriptor y_T_needZone.desc).map (fun d => d.parameters.length) = some 1 by decide +kernel) hl.1 rfl (lv_room (Nat.le_of_ble_eq_true rfl)) d_T_trips_2) hlocks hne hS
  · obtain ⟨s_1, hq1, hf⟩ := tb1_of hf
    refine tr_callv (va_runV (C := R_T) (As := [.int p0]) (rest := []) ⟨hx, hb, hml, hown, ht⟩ (mc_T_needZone l hd hq1) ⟨(tw_cb (n := 1) ht wc_T_needZone wd_34 wd_469 ⟨rfl, rfl⟩ (by decide +kernel) ⟨(Nat.le_of_ble_eq_true rfl), (Nat.le_of_ble_eq_true rfl)⟩), ht _ wd_471, ht _ wd_7⟩ ⟨tP_blind, va_recv hK hP (ci := 0) (q0 := 0) rfl rfl, fun U hU hW => ⟨rfl, by rw [hU]; exact hP, va_K.moved hW.alike hK, tW_warm hW hN⟩⟩ rfl rfl hl.1 rfl (lv_room (Nat.le_of_ble_eq_true rfl)) d_T_trips_2 ⟨Nat.zero_le _, Nat.zero_le _⟩) hS (fun _ h => h.elim) (fun _ h => h.elim) (fun H locs hP hS => ?_)
    refine lv_aload_n hx hb d_T_trips_5 rfl (lv_at hl 0 rfl) ?_
    refine lv_iload_n hx hb d_T_trips_6 rfl (lv_at hl 2 rfl) ?_
    rcases tx_of hf with hq | hf
    · exact tr_pass (tx_runV (C := R_T) (As := [.int p1]) (rest := []) ⟨hx, hb, hml, hown, ht⟩ (xc_T_needZone l h9 hd hq) ⟨pay_in ht (tw_G wc_T_needZone), List.mem_cons_self, ht _ wd_34, ⟨(Nat.le_of_ble_eq_true rfl), (Nat.le_of_ble_eq_true rfl), (Nat.le_of_ble_eq_true rfl), (Nat.le_of_ble_eq_true rfl)⟩⟩ (ht _ wd_469) (ht _ wd_471) (ht _ wd_7) (ht _ wc_T_needZone) (by decide +kernel) ⟨tPX_blind, va_recv hK hP (ci := 0) (q0 := 0) rfl rfl, fun U hU hW => ⟨⟨rfl, by rw [hU]; exact hP, va_K.moved hW.alike hK, tW_warm hW hN⟩, tT_go hT hS hU hW⟩⟩ rfl (show (parseMethodDescriptor y_T_needZone.desc).map (fun d => d.parameters.length) = some 1 by decide +kernel) hl.1 rfl (lv_room (Nat.le_of_ble_eq_true rfl)) d_T_trips_7) hlocks hne hS
    · obtain ⟨s_2, hq2, hf⟩ := tb1_of hf
      refine tr_callv (va_runV (C := R_T) (As := [.int p1]) (rest := []) ⟨hx, hb, hml, hown, ht⟩ (mc_T_needZone l hd hq2) ⟨(tw_cb (n := 1) ht wc_T_needZone wd_34 wd_469 ⟨rfl, rfl⟩ (by decide +kernel) ⟨(Nat.le_of_ble_eq_true rfl), (Nat.le_of_ble_eq_true rfl)⟩), ht _ wd_471, ht _ wd_7⟩ ⟨tP_blind, va_recv hK hP (ci := 0) (q0 := 0) rfl rfl, fun U hU hW => ⟨rfl, by rw [hU]; exact hP, va_K.moved hW.alike hK, tW_warm hW hN⟩⟩ rfl rfl hl.1 rfl (lv_room (Nat.le_of_ble_eq_true rfl)) d_T_trips_7 ⟨Nat.zero_le _, Nat.zero_le _⟩) hS (fun _ h => h.elim) (fun _ h => h.elim) (fun H locs hP hS => ?_)
      exact tn_no hf
abbrev rx_T_sum : Room := { frames := 7, cells := 1, slots := 6, locals := 104 }
set_option maxHeartbeats 4000000 in
set_option maxRecDepth 100000 in
theorem xc_T_sum (l : Launch) (h9 : l.stackTraces = false) {D : va_G} {ad : Nat → Nat} {ta : Nat → ClassId} (hd : tD 37 ad) {σ : tS} {p0 : Int32} {p1 : Int32} {k : Nat} (hf : mx_T_sum p0 p1 σ = some k) : MetX l y_T_sum (.code y_T_sum b_T_sum 3 (some .int) :: tw) rx_T_sum (tPX D clS (tyC ta) (cwC ad ta σ) [.ref (ad 0), .int p0, .int p1]) (exc k) := by
  refine MetX.ofW (cc := b_T_sum) (maxL := 3) (ret := (some .int)) (by decide) rfl ?_
  intro p e s m args below meth c s₁ B hml hv
  obtain ⟨⟨rfl, hP, hK, hN⟩, hT⟩ := hv
  have hx := B.exec
  have hb := B.bytes
  have hr := B.returns
  have hts := atoms_spec (ws := (.code y_T_sum b_T_sum 3 (some .int) :: tw)) B.pre
  have ht : ∀ w ∈ tw, w.before [.ref (ad 0), .int p0, .int p1].toArray s = true := fun w h => hts w (List.mem_cons_of_mem _ h)
  have hown : s.vm.findClass R_T = some m.cls := findClass_of_methodNamed B.named
  have hlocks := B.notSynchronized
  have hne := B.noHandlers (hts _ List.mem_cons_self)
  have hS : va_S tNo s.heap s.heap [] := va_S.rf
  have hl := lv_entry ([.ref (ad 0), .int p0, .int p1]) (n := 3) (Nat.le_of_ble_eq_true rfl)
  rw [lg_entry_eq]
  generalize (lg_sl ([.ref (ad 0), .int p0, .int p1]) ++ List.replicate (3 - (lg_sl ([.ref (ad 0), .int p0, .int p1])).length) Slot.unset).toArray = ls at hl ⊢
  replace hl : lv_has ls 3 [(0, .ref (ad 0)), (1, .int p0), (2, .int p1)] := hl
  unfold mx_T_sum at hf
  refine lv_aload_n hx hb d_T_sum_0 rfl (lv_at hl 0 rfl) ?_
  refine lv_iload_n hx hb d_T_sum_1 rfl (lv_at hl 1 rfl) ?_
  rcases tx_of hf with hq | hf
  · exact tr_pass (tx_runV (C := R_T) (As := [.int p0]) (rest := []) ⟨hx, hb, hml, hown, ht⟩ (xc_T_needZone l h9 hd hq) ⟨pay_in ht (tw_G wc_T_needZone), List.mem_cons_self, ht _ wd_34, ⟨(Nat.le_of_ble_eq_true rfl), (Nat.le_of_ble_eq_true rfl), (Nat.le_of_ble_eq_true rfl), (Nat.le_of_ble_eq_true rfl)⟩⟩ (ht _ wd_469) (ht _ wd_471) (ht _ wd_7) (ht _ wc_T_needZone) (by decide +kernel) ⟨tPX_blind, va_recv hK hP (ci := 0) (q0 := 0) rfl rfl, fun U hU hW => ⟨⟨rfl, by rw [hU]; exact hP, va_K.moved hW.alike hK, tW_warm hW hN⟩, tT_go hT hS hU hW⟩⟩ rfl (show (parseMethodDescriptor y_T_needZone.desc).map (fun d => d.parameters.length) = some 1 by decide +kernel) hl.1 rfl (lv_room (Nat.le_of_ble_eq_true rfl)) d_T_sum_2) hlocks hne hS
  · obtain ⟨s_1, hq1, hf⟩ := tb1_of hf
    refine tr_callv (va_runV (C := R_T) (As := [.int p0]) (rest := []) ⟨hx, hb, hml, hown, ht⟩ (mc_T_needZone l hd hq1) ⟨(tw_cb (n := 1) ht wc_T_needZone wd_34 wd_469 ⟨rfl, rfl⟩ (by decide +kernel) ⟨(Nat.le_of_ble_eq_true rfl), (Nat.le_of_ble_eq_true rfl)⟩), ht _ wd_471, ht _ wd_7⟩ ⟨tP_blind, va_recv hK hP (ci := 0) (q0 := 0) rfl rfl, fun U hU hW => ⟨rfl, by rw [hU]; exact hP, va_K.moved hW.alike hK, tW_warm hW hN⟩⟩ rfl rfl hl.1 rfl (lv_room (Nat.le_of_ble_eq_true rfl)) d_T_sum_2 ⟨Nat.zero_le _, Nat.zero_le _⟩) hS (fun _ h => h.elim) (fun _ h => h.elim) (fun H locs hP hS => ?_)
    refine lv_iload_n hx hb d_T_sum_5 rfl (lv_at hl 2 rfl) ?_
    refine lv_iconst (v := (0 : Int32)) hx hb d_T_sum_6 (by decide) ?_
    refine lv_iconst (v := (1 : Int32)) hx hb d_T_sum_7 (by decide) ?_
    rcases tx_of hf with hq | hf
    · exact tr_pass (tx_runS (As := [.int p1, .int (0 : Int32), .int (1 : Int32)]) (rest := []) ⟨hx, hb, hml, hown, ht⟩ (xc_T_needWithin l h9 hd hq) ⟨pay_in ht (tw_G wc_T_needWithin), List.mem_cons_self, ht _ wd_34, ⟨(Nat.le_of_ble_eq_true rfl), (Nat.le_of_ble_eq_true rfl), (Nat.le_of_ble_eq_true rfl), (Nat.le_of_ble_eq_true rfl)⟩⟩ (ht _ wd_420) (ht _ wd_421) (ht _ wc_T_needWithin) (by decide +kernel) ⟨tPX_blind, fun U hU hW => ⟨⟨rfl, by rw [hU]; exact hP, va_K.moved hW.alike hK, tW_warm hW hN⟩, tT_go hT hS hU hW⟩⟩ rfl (show (parseMethodDescriptor y_T_needWithin.desc).map (fun d => d.parameters.length) = some 3 by decide +kernel) hl.1 rfl (lv_room (Nat.le_of_ble_eq_true rfl)) d_T_sum_8) hlocks hne hS
    · obtain ⟨s_2, hq2, hf⟩ := tb1_of hf
      refine tr_callv (va_runS (As := [.int p1, .int (0 : Int32), .int (1 : Int32)]) (rest := []) ⟨hx, hb, hml, hown, ht⟩ (mc_T_needWithin l hd hq2) ⟨(tw_cb (n := 3) ht wc_T_needWithin wd_34 wd_420 ⟨rfl, rfl⟩ (by decide +kernel) ⟨(Nat.le_of_ble_eq_true rfl), (Nat.le_of_ble_eq_true rfl)⟩), ht _ wd_421⟩ ⟨tP_blind, fun U hU hW => ⟨rfl, by rw [hU]; exact hP, va_K.moved hW.alike hK, tW_warm hW hN⟩⟩ rfl rfl hl.1 rfl (lv_room (Nat.le_of_ble_eq_true rfl)) d_T_sum_8 ⟨Nat.zero_le _, Nat.zero_le _⟩) hS (fun _ h => h.elim) (fun _ h => h.elim) (fun H locs hP hS => ?_)
      exact tn_no hf
abbrev rx_T_factor : Room := { frames := 7, cells := 1, slots := 6, locals := 103 }
set_option maxHeartbeats 4000000 in
set_option maxRecDepth 100000 in
theorem xc_T_factor (l : Launch) (h9 : l.stackTraces = false) {D : va_G} {ad : Nat → Nat} {ta : Nat → ClassId} (hd : tD 37 ad) {σ : tS} {p0 : Int32} {k : Nat} (hf : mx_T_factor p0 σ = some k) : MetX l y_T_factor (.code y_T_factor b_T_factor 2 (some .int) :: tw) rx_T_factor (tPX D clS (tyC ta) (cwC ad ta σ) [.ref (ad 0), .int p0]) (exc k) := by
  refine MetX.ofW (cc := b_T_factor) (maxL := 2) (ret := (some .int)) (by decide) rfl ?_
  intro p e s m args below meth c s₁ B hml hv
  obtain ⟨⟨rfl, hP, hK, hN⟩, hT⟩ := hv
  have hx := B.exec
  have hb := B.bytes
  have hr := B.returns
  have hts := atoms_spec (ws := (.code y_T_factor b_T_factor 2 (some .int) :: tw)) B.pre
  have ht : ∀ w ∈ tw, w.before [.ref (ad 0), .int p0].toArray s = true := fun w h => hts w (List.mem_cons_of_mem _ h)
  have hown : s.vm.findClass R_T = some m.cls := findClass_of_methodNamed B.named
  have hlocks := B.notSynchronized
  have hne := B.noHandlers (hts _ List.mem_cons_self)
  have hS : va_S tNo s.heap s.heap [] := va_S.rf
  have hl := lv_entry ([.ref (ad 0), .int p0]) (n := 2) (Nat.le_of_ble_eq_true rfl)
  rw [lg_entry_eq]
  generalize (lg_sl ([.ref (ad 0), .int p0]) ++ List.replicate (2 - (lg_sl ([.ref (ad 0), .int p0])).length) Slot.unset).toArray = ls at hl ⊢
  replace hl : lv_has ls 2 [(0, .ref (ad 0)), (1, .int p0)] := hl
  unfold mx_T_factor at hf
  refine lv_aload_n hx hb d_T_factor_0 rfl (lv_at hl 0 rfl) ?_
  refine lv_iload_n hx hb d_T_factor_1 rfl (lv_at hl 1 rfl) ?_
  rcases tx_of hf with hq | hf
  · exact tr_pass (tx_runV (C := R_T) (As := [.int p0]) (rest := []) ⟨hx, hb, hml, hown, ht⟩ (xc_T_needZone l h9 hd hq) ⟨pay_in ht (tw_G wc_T_needZone), List.mem_cons_self, ht _ wd_34, ⟨(Nat.le_of_ble_eq_true rfl), (Nat.le_of_ble_eq_true rfl), (Nat.le_of_ble_eq_true rfl), (Nat.le_of_ble_eq_true rfl)⟩⟩ (ht _ wd_469) (ht _ wd_471) (ht _ wd_7) (ht _ wc_T_needZone) (by decide +kernel) ⟨tPX_blind, va_recv hK hP (ci := 0) (q0 := 0) rfl rfl, fun U hU hW => ⟨⟨rfl, by rw [hU]; exact hP, va_K.moved hW.alike hK, tW_warm hW hN⟩, tT_go hT hS hU hW⟩⟩ rfl (show (parseMethodDescriptor y_T_needZone.desc).map (fun d => d.parameters.length) = some 1 by decide +kernel) hl.1 rfl (lv_room (Nat.le_of_ble_eq_true rfl)) d_T_factor_2) hlocks hne hS
  · obtain ⟨s_1, hq1, hf⟩ := tb1_of hf
    refine tr_callv (va_runV (C := R_T) (As := [.int p0]) (rest := []) ⟨hx, hb, hml, hown, ht⟩ (mc_T_needZone l hd hq1) ⟨(tw_cb (n := 1) ht wc_T_needZone wd_34 wd_469 ⟨rfl, rfl⟩ (by decide +kernel) ⟨(Nat.le_of_ble_eq_true rfl), (Nat.le_of_ble_eq_true rfl)⟩), ht _ wd_471, ht _ wd_7⟩ ⟨tP_blind, va_recv hK hP (ci := 0) (q0 := 0) rfl rfl, fun U hU hW => ⟨rfl, by rw [hU]; exact hP, va_K.moved hW.alike hK, tW_warm hW hN⟩⟩ rfl rfl hl.1 rfl (lv_room (Nat.le_of_ble_eq_true rfl)) d_T_factor_2 ⟨Nat.zero_le _, Nat.zero_le _⟩) hS (fun _ h => h.elim) (fun _ h => h.elim) (fun H locs hP hS => ?_)
    exact tn_no hf
abbrev rx_T_pull : Room := { frames := 7, cells := 1, slots := 6, locals := 104 }
set_option maxHeartbeats 4000000 in
set_option maxRecDepth 100000 in
theorem xc_T_pull (l : Launch) (h9 : l.stackTraces = false) {D : va_G} {ad : Nat → Nat} {ta : Nat → ClassId} (hd : tD 37 ad) {σ : tS} {p0 : Int32} {p1 : Int32} {p2 : Int32} {p3 : Int32} {k : Nat} (hf : mx_T_pull p0 p1 p2 p3 σ = some k) : MetX l y_T_pull (.code y_T_pull b_T_pull 7 (some .int) :: tw) rx_T_pull (tPX D clS (tyC ta) (cwC ad ta σ) [.ref (ad 0), .int p0, .int p1, .int p2, .int p3]) (exc k) := by
  refine MetX.ofW (cc := b_T_pull) (maxL := 7) (ret := (some .int)) (by decide) rfl ?_
  intro p e s m args below meth c s₁ B hml hv
  obtain ⟨⟨rfl, hP, hK, hN⟩, hT⟩ := hv
  have hx := B.exec
  have hb := B.bytes
  have hr := B.returns
  have hts := atoms_spec (ws := (.code y_T_pull b_T_pull 7 (some .int) :: tw)) B.pre
  have ht : ∀ w ∈ tw, w.before [.ref (ad 0), .int p0, .int p1, .int p2, .int p3].toArray s = true := fun w h => hts w (List.mem_cons_of_mem _ h)
  have hown : s.vm.findClass R_T = some m.cls := findClass_of_methodNamed B.named
  have hlocks := B.notSynchronized
  have hne := B.noHandlers (hts _ List.mem_cons_self)
  have hS : va_S tNo s.heap s.heap [] := va_S.rf
  have hl := lv_entry ([.ref (ad 0), .int p0, .int p1, .int p2, .int p3]) (n := 7) (Nat.le_of_ble_eq_true rfl)
  rw [lg_entry_eq]
  generalize (lg_sl ([.ref (ad 0), .int p0, .int p1, .int p2, .int p3]) ++ List.replicate (7 - (lg_sl ([.ref (ad 0), .int p0, .int p1, .int p2, .int p3])).length) Slot.unset).toArray = ls at hl ⊢
  replace hl : lv_has ls 7 [(0, .ref (ad 0)), (1, .int p0), (2, .int p1), (3, .int p2), (4, .int p3)] := hl
  unfold mx_T_pull at hf
  refine lv_iload_n hx hb d_T_pull_0 rfl (lv_at hl 1 rfl) ?_
  refine lv_iconst (v := (0 : Int32)) hx hb d_T_pull_1 (by decide) ?_
  refine lv_iconst (v := (2 : Int32)) hx hb d_T_pull_2 (by decide) ?_
  rcases tx_of hf with hq | hf
  · exact tr_pass (tx_runS (As := [.int p0, .int (0 : Int32), .int (2 : Int32)]) (rest := []) ⟨hx, hb, hml, hown, ht⟩ (xc_T_needWithin l h9 hd hq) ⟨pay_in ht (tw_G wc_T_needWithin), List.mem_cons_self, ht _ wd_34, ⟨(Nat.le_of_ble_eq_true rfl), (Nat.le_of_ble_eq_true rfl), (Nat.le_of_ble_eq_true rfl), (Nat.le_of_ble_eq_true rfl)⟩⟩ (ht _ wd_420) (ht _ wd_421) (ht _ wc_T_needWithin) (by decide +kernel) ⟨tPX_blind, fun U hU hW => ⟨⟨rfl, by rw [hU]; exact hP, va_K.moved hW.alike hK, tW_warm hW hN⟩, tT_go hT hS hU hW⟩⟩ rfl (show (parseMethodDescriptor y_T_needWithin.desc).map (fun d => d.parameters.length) = some 3 by decide +kernel) hl.1 rfl (lv_room (Nat.le_of_ble_eq_true rfl)) d_T_pull_3) hlocks hne hS
  · obtain ⟨s_1, hq1, hf⟩ := tb1_of hf
    refine tr_callv (va_runS (As := [.int p0, .int (0 : Int32), .int (2 : Int32)]) (rest := []) ⟨hx, hb, hml, hown, ht⟩ (mc_T_needWithin l hd hq1) ⟨(tw_cb (n := 3) ht wc_T_needWithin wd_34 wd_420 ⟨rfl, rfl⟩ (by decide +kernel) ⟨(Nat.le_of_ble_eq_true rfl), (Nat.le_of_ble_eq_true rfl)⟩), ht _ wd_421⟩ ⟨tP_blind, fun U hU hW => ⟨rfl, by rw [hU]; exact hP, va_K.moved hW.alike hK, tW_warm hW hN⟩⟩ rfl rfl hl.1 rfl (lv_room (Nat.le_of_ble_eq_true rfl)) d_T_pull_3 ⟨Nat.zero_le _, Nat.zero_le _⟩) hS (fun _ h => h.elim) (fun _ h => h.elim) (fun H locs hP hS => ?_)
    refine lv_aload_n hx hb d_T_pull_6 rfl (lv_at hl 0 rfl) ?_
    refine lv_iload_n hx hb d_T_pull_7 rfl (lv_at hl 2 rfl) ?_
    rcases tx_of hf with hq | hf
    · exact tr_pass (tx_runV (C := R_T) (As := [.int p1]) (rest := []) ⟨hx, hb, hml, hown, ht⟩ (xc_T_needZone l h9 hd hq) ⟨pay_in ht (tw_G wc_T_needZone), List.mem_cons_self, ht _ wd_34, ⟨(Nat.le_of_ble_eq_true rfl), (Nat.le_of_ble_eq_true rfl), (Nat.le_of_ble_eq_true rfl), (Nat.le_of_ble_eq_true rfl)⟩⟩ (ht _ wd_469) (ht _ wd_471) (ht _ wd_7) (ht _ wc_T_needZone) (by decide +kernel) ⟨tPX_blind, va_recv hK hP (ci := 0) (q0 := 0) rfl rfl, fun U hU hW => ⟨⟨rfl, by rw [hU]; exact hP, va_K.moved hW.alike hK, tW_warm hW hN⟩, tT_go hT hS hU hW⟩⟩ rfl (show (parseMethodDescriptor y_T_needZone.desc).map (fun d => d.parameters.length) = some 1 by decide +kernel) hl.1 rfl (lv_room (Nat.le_of_ble_eq_true rfl)) d_T_pull_8) hlocks hne hS
    · obtain ⟨s_2, hq2, hf⟩ := tb1_of hf
      refine tr_callv (va_runV (C := R_T) (As := [.int p1]) (rest := []) ⟨hx, hb, hml, hown, ht⟩ (mc_T_needZone l hd hq2) ⟨(tw_cb (n := 1) ht wc_T_needZone wd_34 wd_469 ⟨rfl, rfl⟩ (by decide +kernel) ⟨(Nat.le_of_ble_eq_true rfl), (Nat.le_of_ble_eq_true rfl)⟩), ht _ wd_471, ht _ wd_7⟩ ⟨tP_blind, va_recv hK hP (ci := 0) (q0 := 0) rfl rfl, fun U hU hW => ⟨rfl, by rw [hU]; exact hP, va_K.moved hW.alike hK, tW_warm hW hN⟩⟩ rfl rfl hl.1 rfl (lv_room (Nat.le_of_ble_eq_true rfl)) d_T_pull_8 ⟨Nat.zero_le _, Nat.zero_le _⟩) hS (fun _ h => h.elim) (fun _ h => h.elim) (fun H locs hP hS => ?_)
      refine lv_aload_n hx hb d_T_pull_11 rfl (lv_at hl 0 rfl) ?_
      refine lv_iload_n hx hb d_T_pull_12 rfl (lv_at hl 3 rfl) ?_
      rcases tx_of hf with hq | hf
      · exact tr_pass (tx_runV (C := R_T) (As := [.int p2]) (rest := []) ⟨hx, hb, hml, hown, ht⟩ (xc_T_needZone l h9 hd hq) ⟨pay_in ht (tw_G wc_T_needZone), List.mem_cons_self, ht _ wd_34, ⟨(Nat.le_of_ble_eq_true rfl), (Nat.le_of_ble_eq_true rfl), (Nat.le_of_ble_eq_true rfl), (Nat.le_of_ble_eq_true rfl)⟩⟩ (ht _ wd_469) (ht _ wd_471) (ht _ wd_7) (ht _ wc_T_needZone) (by decide +kernel) ⟨tPX_blind, va_recv hK hP (ci := 0) (q0 := 0) rfl rfl, fun U hU hW => ⟨⟨rfl, by rw [hU]; exact hP, va_K.moved hW.alike hK, tW_warm hW hN⟩, tT_go hT hS hU hW⟩⟩ rfl (show (parseMethodDescriptor y_T_needZone.desc).map (fun d => d.parameters.length) = some 1 by decide +kernel) hl.1 rfl (lv_room (Nat.le_of_ble_eq_true rfl)) d_T_pull_13) hlocks hne hS
      · obtain ⟨s_3, hq3, hf⟩ := tb1_of hf
        refine tr_callv (va_runV (C := R_T) (As := [.int p2]) (rest := []) ⟨hx, hb, hml, hown, ht⟩ (mc_T_needZone l hd hq3) ⟨(tw_cb (n := 1) ht wc_T_needZone wd_34 wd_469 ⟨rfl, rfl⟩ (by decide +kernel) ⟨(Nat.le_of_ble_eq_true rfl), (Nat.le_of_ble_eq_true rfl)⟩), ht _ wd_471, ht _ wd_7⟩ ⟨tP_blind, va_recv hK hP (ci := 0) (q0 := 0) rfl rfl, fun U hU hW => ⟨rfl, by rw [hU]; exact hP, va_K.moved hW.alike hK, tW_warm hW hN⟩⟩ rfl rfl hl.1 rfl (lv_room (Nat.le_of_ble_eq_true rfl)) d_T_pull_13 ⟨Nat.zero_le _, Nat.zero_le _⟩) hS (fun _ h => h.elim) (fun _ h => h.elim) (fun H locs hP hS => ?_)
        refine lv_iload hx hb d_T_pull_16 (lv_at hl 4 rfl) ?_
        refine lv_iconst (v := (0 : Int32)) hx hb d_T_pull_18 (by decide) ?_
        refine lv_sipush (v := (1000 : Int32)) hx hb d_T_pull_19 (by decide) ?_
        rcases tx_of hf with hq | hf
        · exact tr_pass (tx_runS (As := [.int p3, .int (0 : Int32), .int (1000 : Int32)]) (rest := []) ⟨hx, hb, hml, hown, ht⟩ (xc_T_needWithin l h9 hd hq) ⟨pay_in ht (tw_G wc_T_needWithin), List.mem_cons_self, ht _ wd_34, ⟨(Nat.le_of_ble_eq_true rfl), (Nat.le_of_ble_eq_true rfl), (Nat.le_of_ble_eq_true rfl), (Nat.le_of_ble_eq_true rfl)⟩⟩ (ht _ wd_420) (ht _ wd_421) (ht _ wc_T_needWithin) (by decide +kernel) ⟨tPX_blind, fun U hU hW => ⟨⟨rfl, by rw [hU]; exact hP, va_K.moved hW.alike hK, tW_warm hW hN⟩, tT_go hT hS hU hW⟩⟩ rfl (show (parseMethodDescriptor y_T_needWithin.desc).map (fun d => d.parameters.length) = some 3 by decide +kernel) hl.1 rfl (lv_room (Nat.le_of_ble_eq_true rfl)) d_T_pull_22) hlocks hne hS
        · obtain ⟨s_4, hq4, hf⟩ := tb1_of hf
          refine tr_callv (va_runS (As := [.int p3, .int (0 : Int32), .int (1000 : Int32)]) (rest := []) ⟨hx, hb, hml, hown, ht⟩ (mc_T_needWithin l hd hq4) ⟨(tw_cb (n := 3) ht wc_T_needWithin wd_34 wd_420 ⟨rfl, rfl⟩ (by decide +kernel) ⟨(Nat.le_of_ble_eq_true rfl), (Nat.le_of_ble_eq_true rfl)⟩), ht _ wd_421⟩ ⟨tP_blind, fun U hU hW => ⟨rfl, by rw [hU]; exact hP, va_K.moved hW.alike hK, tW_warm hW hN⟩⟩ rfl rfl hl.1 rfl (lv_room (Nat.le_of_ble_eq_true rfl)) d_T_pull_22 ⟨Nat.zero_le _, Nat.zero_le _⟩) hS (fun _ h => h.elim) (fun _ h => h.elim) (fun H locs hP hS => ?_)
          exact tn_no hf
abbrev rx_T_chosen : Room := { frames := 7, cells := 1, slots := 6, locals := 104 }
set_option maxHeartbeats 4000000 in
set_option maxRecDepth 100000 in
theorem xc_T_chosen (l : Launch) (h9 : l.stackTraces = false) {D : va_G} {ad : Nat → Nat} {ta : Nat → ClassId} (hd : tD 37 ad) {σ : tS} {p0 : Int32} {p1 : Int32} {p2 : Int32} {k : Nat} (hf : mx_T_chosen p0 p1 p2 σ = some k) : MetX l y_T_chosen (.code y_T_chosen b_T_chosen 5 (some .int) :: tw) rx_T_chosen (tPX D clS (tyC ta) (cwC ad ta σ) [.ref (ad 0), .int p0, .int p1, .int p2]) (exc k) := by
  refine MetX.ofW (cc := b_T_chosen) (maxL := 5) (ret := (some .int)) (by decide) rfl ?_
  intro p e s m args below meth c s₁ B hml hv
  obtain ⟨⟨rfl, hP, hK, hN⟩, hT⟩ := hv
  have hx := B.exec
  have hb := B.bytes
  have hr := B.returns
  have hts := atoms_spec (ws := (.code y_T_chosen b_T_chosen 5 (some .int) :: tw)) B.pre
  have ht : ∀ w ∈ tw, w.before [.ref (ad 0), .int p0, .int p1, .int p2].toArray s = true := fun w h => hts w (List.mem_cons_of_mem _ h)
  have hown : s.vm.findClass R_T = some m.cls := findClass_of_methodNamed B.named
  have hlocks := B.notSynchronized
  have hne := B.noHandlers (hts _ List.mem_cons_self)
  have hS : va_S tNo s.heap s.heap [] := va_S.rf
  have hl := lv_entry ([.ref (ad 0), .int p0, .int p1, .int p2]) (n := 5) (Nat.le_of_ble_eq_true rfl)
  rw [lg_entry_eq]
  generalize (lg_sl ([.ref (ad 0), .int p0, .int p1, .int p2]) ++ List.replicate (5 - (lg_sl ([.ref (ad 0), .int p0, .int p1, .int p2])).length) Slot.unset).toArray = ls at hl ⊢
  replace hl : lv_has ls 5 [(0, .ref (ad 0)), (1, .int p0), (2, .int p1), (3, .int p2)] := hl
  unfold mx_T_chosen at hf
  refine lv_iload_n hx hb d_T_chosen_0 rfl (lv_at hl 1 rfl) ?_
  refine lv_iconst (v := (0 : Int32)) hx hb d_T_chosen_1 (by decide) ?_
  refine lv_iconst (v := (2 : Int32)) hx hb d_T_chosen_2 (by decide) ?_
  rcases tx_of hf with hq | hf
  · exact tr_pass (tx_runS (As := [.int p0, .int (0 : Int32), .int (2 : Int32)]) (rest := []) ⟨hx, hb, hml, hown, ht⟩ (xc_T_needWithin l h9 hd hq) ⟨pay_in ht (tw_G wc_T_needWithin), List.mem_cons_self, ht _ wd_34, ⟨(Nat.le_of_ble_eq_true rfl), (Nat.le_of_ble_eq_true rfl), (Nat.le_of_ble_eq_true rfl), (Nat.le_of_ble_eq_true rfl)⟩⟩ (ht _ wd_420) (ht _ wd_421) (ht _ wc_T_needWithin) (by decide +kernel) ⟨tPX_blind, fun U hU hW => ⟨⟨rfl, by rw [hU]; exact hP, va_K.moved hW.alike hK, tW_warm hW hN⟩, tT_go hT hS hU hW⟩⟩ rfl (show (parseMethodDescriptor y_T_needWithin.desc).map (fun d => d.parameters.length) = some 3 by decide +kernel) hl.1 rfl (lv_room (Nat.le_of_ble_eq_true rfl)) d_T_chosen_3) hlocks hne hS
  · obtain ⟨s_1, hq1, hf⟩ := tb1_of hf
    refine tr_callv (va_runS (As := [.int p0, .int (0 : Int32), .int (2 : Int32)]) (rest := []) ⟨hx, hb, hml, hown, ht⟩ (mc_T_needWithin l hd hq1) ⟨(tw_cb (n := 3) ht wc_T_needWithin wd_34 wd_420 ⟨rfl, rfl⟩ (by decide +kernel) ⟨(Nat.le_of_ble_eq_true rfl), (Nat.le_of_ble_eq_true rfl)⟩), ht _ wd_421⟩ ⟨tP_blind, fun U hU hW => ⟨rfl, by rw [hU]; exact hP, va_K.moved hW.alike hK, tW_warm hW hN⟩⟩ rfl rfl hl.1 rfl (lv_room (Nat.le_of_ble_eq_true rfl)) d_T_chosen_3 ⟨Nat.zero_le _, Nat.zero_le _⟩) hS (fun _ h => h.elim) (fun _ h => h.elim) (fun H locs hP hS => ?_)
    refine lv_aload_n hx hb d_T_chosen_6 rfl (lv_at hl 0 rfl) ?_
    refine lv_iload_n hx hb d_T_chosen_7 rfl (lv_at hl 2 rfl) ?_
    rcases tx_of hf with hq | hf
    · exact tr_pass (tx_runV (C := R_T) (As := [.int p1]) (rest := []) ⟨hx, hb, hml, hown, ht⟩ (xc_T_needZone l h9 hd hq) ⟨pay_in ht (tw_G wc_T_needZone), List.mem_cons_self, ht _ wd_34, ⟨(Nat.le_of_ble_eq_true rfl), (Nat.le_of_ble_eq_true rfl), (Nat.le_of_ble_eq_true rfl), (Nat.le_of_ble_eq_true rfl)⟩⟩ (ht _ wd_469) (ht _ wd_471) (ht _ wd_7) (ht _ wc_T_needZone) (by decide +kernel) ⟨tPX_blind, va_recv hK hP (ci := 0) (q0 := 0) rfl rfl, fun U hU hW => ⟨⟨rfl, by rw [hU]; exact hP, va_K.moved hW.alike hK, tW_warm hW hN⟩, tT_go hT hS hU hW⟩⟩ rfl (show (parseMethodDescriptor y_T_needZone.desc).map (fun d => d.parameters.length) = some 1 by decide +kernel) hl.1 rfl (lv_room (Nat.le_of_ble_eq_true rfl)) d_T_chosen_8) hlocks hne hS
    · obtain ⟨s_2, hq2, hf⟩ := tb1_of hf
      refine tr_callv (va_runV (C := R_T) (As := [.int p1]) (rest := []) ⟨hx, hb, hml, hown, ht⟩ (mc_T_needZone l hd hq2) ⟨(tw_cb (n := 1) ht wc_T_needZone wd_34 wd_469 ⟨rfl, rfl⟩ (by decide +kernel) ⟨(Nat.le_of_ble_eq_true rfl), (Nat.le_of_ble_eq_true rfl)⟩), ht _ wd_471, ht _ wd_7⟩ ⟨tP_blind, va_recv hK hP (ci := 0) (q0 := 0) rfl rfl, fun U hU hW => ⟨rfl, by rw [hU]; exact hP, va_K.moved hW.alike hK, tW_warm hW hN⟩⟩ rfl rfl hl.1 rfl (lv_room (Nat.le_of_ble_eq_true rfl)) d_T_chosen_8 ⟨Nat.zero_le _, Nat.zero_le _⟩) hS (fun _ h => h.elim) (fun _ h => h.elim) (fun H locs hP hS => ?_)
      refine lv_aload_n hx hb d_T_chosen_11 rfl (lv_at hl 0 rfl) ?_
      refine lv_iload_n hx hb d_T_chosen_12 rfl (lv_at hl 3 rfl) ?_
      rcases tx_of hf with hq | hf
      · exact tr_pass (tx_runV (C := R_T) (As := [.int p2]) (rest := []) ⟨hx, hb, hml, hown, ht⟩ (xc_T_needZone l h9 hd hq) ⟨pay_in ht (tw_G wc_T_needZone), List.mem_cons_self, ht _ wd_34, ⟨(Nat.le_of_ble_eq_true rfl), (Nat.le_of_ble_eq_true rfl), (Nat.le_of_ble_eq_true rfl), (Nat.le_of_ble_eq_true rfl)⟩⟩ (ht _ wd_469) (ht _ wd_471) (ht _ wd_7) (ht _ wc_T_needZone) (by decide +kernel) ⟨tPX_blind, va_recv hK hP (ci := 0) (q0 := 0) rfl rfl, fun U hU hW => ⟨⟨rfl, by rw [hU]; exact hP, va_K.moved hW.alike hK, tW_warm hW hN⟩, tT_go hT hS hU hW⟩⟩ rfl (show (parseMethodDescriptor y_T_needZone.desc).map (fun d => d.parameters.length) = some 1 by decide +kernel) hl.1 rfl (lv_room (Nat.le_of_ble_eq_true rfl)) d_T_chosen_13) hlocks hne hS
      · obtain ⟨s_3, hq3, hf⟩ := tb1_of hf
        refine tr_callv (va_runV (C := R_T) (As := [.int p2]) (rest := []) ⟨hx, hb, hml, hown, ht⟩ (mc_T_needZone l hd hq3) ⟨(tw_cb (n := 1) ht wc_T_needZone wd_34 wd_469 ⟨rfl, rfl⟩ (by decide +kernel) ⟨(Nat.le_of_ble_eq_true rfl), (Nat.le_of_ble_eq_true rfl)⟩), ht _ wd_471, ht _ wd_7⟩ ⟨tP_blind, va_recv hK hP (ci := 0) (q0 := 0) rfl rfl, fun U hU hW => ⟨rfl, by rw [hU]; exact hP, va_K.moved hW.alike hK, tW_warm hW hN⟩⟩ rfl rfl hl.1 rfl (lv_room (Nat.le_of_ble_eq_true rfl)) d_T_chosen_13 ⟨Nat.zero_le _, Nat.zero_le _⟩) hS (fun _ h => h.elim) (fun _ h => h.elim) (fun H locs hP hS => ?_)
        exact tn_no hf
abbrev rx_T_assign : Room := { frames := 7, cells := 1, slots := 6, locals := 121 }
set_option maxHeartbeats 4000000 in
set_option maxRecDepth 100000 in
theorem xc_T_assign (l : Launch) (h9 : l.stackTraces = false) {D : va_G} {ad : Nat → Nat} {ta : Nat → ClassId} (hd : tD 37 ad) {σ : tS} {p0 : Int32} {k : Nat} (hf : mx_T_assign p0 σ = some k) : MetX l y_T_assign (.code y_T_assign b_T_assign 2 (some .int) :: tw) rx_T_assign (tPX D clS (tyC ta) (cwC ad ta σ) [.ref (ad 0), .int p0]) (exc k) := by
  refine MetX.ofW (cc := b_T_assign) (maxL := 2) (ret := (some .int)) (by decide) rfl ?_
  intro p e s m args below meth c s₁ B hml hv
  obtain ⟨⟨rfl, hP, hK, hN⟩, hT⟩ := hv
  have hx := B.exec
  have hb := B.bytes
  have hr := B.returns
  have hts := atoms_spec (ws := (.code y_T_assign b_T_assign 2 (some .int) :: tw)) B.pre
  have ht : ∀ w ∈ tw, w.before [.ref (ad 0), .int p0].toArray s = true := fun w h => hts w (List.mem_cons_of_mem _ h)
  have hown : s.vm.findClass R_T = some m.cls := findClass_of_methodNamed B.named
  have hlocks := B.notSynchronized
  have hne := B.noHandlers (hts _ List.mem_cons_self)
  have hS : va_S tNo s.heap s.heap [] := va_S.rf
  have hl := lv_entry ([.ref (ad 0), .int p0]) (n := 2) (Nat.le_of_ble_eq_true rfl)
  rw [lg_entry_eq]
  generalize (lg_sl ([.ref (ad 0), .int p0]) ++ List.replicate (2 - (lg_sl ([.ref (ad 0), .int p0])).length) Slot.unset).toArray = ls at hl ⊢
  replace hl : lv_has ls 2 [(0, .ref (ad 0)), (1, .int p0)] := hl
  unfold mx_T_assign at hf
  refine lv_iload_n hx hb d_T_assign_0 rfl (lv_at hl 1 rfl) ?_
  refine lv_iconst (v := (1 : Int32)) hx hb d_T_assign_1 (by decide) ?_
  refine lv_bipush (v := (8 : Int32)) hx hb d_T_assign_2 (by decide) ?_
  rcases tx_of hf with hq | hf
  · exact tr_pass (tx_runS (As := [.int p0, .int (1 : Int32), .int (8 : Int32)]) (rest := []) ⟨hx, hb, hml, hown, ht⟩ (xc_T_needWithin l h9 hd hq) ⟨pay_in ht (tw_G wc_T_needWithin), List.mem_cons_self, ht _ wd_34, ⟨(Nat.le_of_ble_eq_true rfl), (Nat.le_of_ble_eq_true rfl), (Nat.le_of_ble_eq_true rfl), (Nat.le_of_ble_eq_true rfl)⟩⟩ (ht _ wd_420) (ht _ wd_421) (ht _ wc_T_needWithin) (by decide +kernel) ⟨tPX_blind, fun U hU hW => ⟨⟨rfl, by rw [hU]; exact hP, va_K.moved hW.alike hK, tW_warm hW hN⟩, tT_go hT hS hU hW⟩⟩ rfl (show (parseMethodDescriptor y_T_needWithin.desc).map (fun d => d.parameters.length) = some 3 by decide +kernel) hl.1 rfl (lv_room (Nat.le_of_ble_eq_true rfl)) d_T_assign_4) hlocks hne hS
  · obtain ⟨s_1, hq1, hf⟩ := tb1_of hf
    refine tr_callv (va_runS (As := [.int p0, .int (1 : Int32), .int (8 : Int32)]) (rest := []) ⟨hx, hb, hml, hown, ht⟩ (mc_T_needWithin l hd hq1) ⟨(tw_cb (n := 3) ht wc_T_needWithin wd_34 wd_420 ⟨rfl, rfl⟩ (by decide +kernel) ⟨(Nat.le_of_ble_eq_true rfl), (Nat.le_of_ble_eq_true rfl)⟩), ht _ wd_421⟩ ⟨tP_blind, fun U hU hW => ⟨rfl, by rw [hU]; exact hP, va_K.moved hW.alike hK, tW_warm hW hN⟩⟩ rfl rfl hl.1 rfl (lv_room (Nat.le_of_ble_eq_true rfl)) d_T_assign_4 ⟨Nat.zero_le _, Nat.zero_le _⟩) hS (fun _ h => h.elim) (fun _ h => h.elim) (fun H locs hP hS => ?_)
    exact tn_no hf
abbrev rx_T_flow : Room := { frames := 7, cells := 1, slots := 6, locals := 104 }
set_option maxHeartbeats 4000000 in
set_option maxRecDepth 100000 in
theorem xc_T_flow (l : Launch) (h9 : l.stackTraces = false) {D : va_G} {ad : Nat → Nat} {ta : Nat → ClassId} (hd : tD 37 ad) {σ : tS} {p0 : Int32} {p1 : Int32} {k : Nat} (hf : mx_T_flow p0 p1 σ = some k) : MetX l y_T_flow (.code y_T_flow b_T_flow 3 (some .int) :: tw) rx_T_flow (tPX D clS (tyC ta) (cwC ad ta σ) [.ref (ad 0), .int p0, .int p1]) (exc k) := by
  refine MetX.ofW (cc := b_T_flow) (maxL := 3) (ret := (some .int)) (by decide) rfl ?_
  intro p e s m args below meth c s₁ B hml hv
  obtain ⟨⟨rfl, hP, hK, hN⟩, hT⟩ := hv
  have hx := B.exec
  have hb := B.bytes
  have hr := B.returns
  have hts := atoms_spec (ws := (.code y_T_flow b_T_flow 3 (some .int) :: tw)) B.pre
  have ht : ∀ w ∈ tw, w.before [.ref (ad 0), .int p0, .int p1].toArray s = true := fun w h => hts w (List.mem_cons_of_mem _ h)
  have hown : s.vm.findClass R_T = some m.cls := findClass_of_methodNamed B.named
  have hlocks := B.notSynchronized
  have hne := B.noHandlers (hts _ List.mem_cons_self)
  have hS : va_S tNo s.heap s.heap [] := va_S.rf
  have hl := lv_entry ([.ref (ad 0), .int p0, .int p1]) (n := 3) (Nat.le_of_ble_eq_true rfl)
  rw [lg_entry_eq]
  generalize (lg_sl ([.ref (ad 0), .int p0, .int p1]) ++ List.replicate (3 - (lg_sl ([.ref (ad 0), .int p0, .int p1])).length) Slot.unset).toArray = ls at hl ⊢
  replace hl : lv_has ls 3 [(0, .ref (ad 0)), (1, .int p0), (2, .int p1)] := hl
  unfold mx_T_flow at hf
  refine lv_aload_n hx hb d_T_flow_0 rfl (lv_at hl 0 rfl) ?_
  refine lv_iload_n hx hb d_T_flow_1 rfl (lv_at hl 1 rfl) ?_
  rcases tx_of hf with hq | hf
  · exact tr_pass (tx_runV (C := R_T) (As := [.int p0]) (rest := []) ⟨hx, hb, hml, hown, ht⟩ (xc_T_needStreet l h9 hd hq) ⟨pay_in ht (tw_G wc_T_needStreet), List.mem_cons_self, ht _ wd_34, ⟨(Nat.le_of_ble_eq_true rfl), (Nat.le_of_ble_eq_true rfl), (Nat.le_of_ble_eq_true rfl), (Nat.le_of_ble_eq_true rfl)⟩⟩ (ht _ wd_450) (ht _ wd_452) (ht _ wd_6) (ht _ wc_T_needStreet) (by decide +kernel) ⟨tPX_blind, va_recv hK hP (ci := 0) (q0 := 0) rfl rfl, fun U hU hW => ⟨⟨rfl, by rw [hU]; exact hP, va_K.moved hW.alike hK, tW_warm hW hN⟩, tT_go hT hS hU hW⟩⟩ rfl (show (parseMethodDescriptor y_T_needStreet.desc).map (fun d => d.parameters.length) = some 1 by decide +kernel) hl.1 rfl (lv_room (Nat.le_of_ble_eq_true rfl)) d_T_flow_2) hlocks hne hS
  · obtain ⟨s_1, hq1, hf⟩ := tb1_of hf
    refine tr_callv (va_runV (C := R_T) (As := [.int p0]) (rest := []) ⟨hx, hb, hml, hown, ht⟩ (mc_T_needStreet l hd hq1) ⟨(tw_cb (n := 1) ht wc_T_needStreet wd_34 wd_450 ⟨rfl, rfl⟩ (by decide +kernel) ⟨(Nat.le_of_ble_eq_true rfl), (Nat.le_of_ble_eq_true rfl)⟩), ht _ wd_452, ht _ wd_6⟩ ⟨tP_blind, va_recv hK hP (ci := 0) (q0 := 0) rfl rfl, fun U hU hW => ⟨rfl, by rw [hU]; exact hP, va_K.moved hW.alike hK, tW_warm hW hN⟩⟩ rfl rfl hl.1 rfl (lv_room (Nat.le_of_ble_eq_true rfl)) d_T_flow_2 ⟨Nat.zero_le _, Nat.zero_le _⟩) hS (fun _ h => h.elim) (fun _ h => h.elim) (fun H locs hP hS => ?_)
    refine lv_iload_n hx hb d_T_flow_5 rfl (lv_at hl 2 rfl) ?_
    refine lv_iconst (v := (0 : Int32)) hx hb d_T_flow_6 (by decide) ?_
    refine lv_iconst (v := (1 : Int32)) hx hb d_T_flow_7 (by decide) ?_
    rcases tx_of hf with hq | hf
    · exact tr_pass (tx_runS (As := [.int p1, .int (0 : Int32), .int (1 : Int32)]) (rest := []) ⟨hx, hb, hml, hown, ht⟩ (xc_T_needWithin l h9 hd hq) ⟨pay_in ht (tw_G wc_T_needWithin), List.mem_cons_self, ht _ wd_34, ⟨(Nat.le_of_ble_eq_true rfl), (Nat.le_of_ble_eq_true rfl), (Nat.le_of_ble_eq_true rfl), (Nat.le_of_ble_eq_true rfl)⟩⟩ (ht _ wd_420) (ht _ wd_421) (ht _ wc_T_needWithin) (by decide +kernel) ⟨tPX_blind, fun U hU hW => ⟨⟨rfl, by rw [hU]; exact hP, va_K.moved hW.alike hK, tW_warm hW hN⟩, tT_go hT hS hU hW⟩⟩ rfl (show (parseMethodDescriptor y_T_needWithin.desc).map (fun d => d.parameters.length) = some 3 by decide +kernel) hl.1 rfl (lv_room (Nat.le_of_ble_eq_true rfl)) d_T_flow_8) hlocks hne hS
    · obtain ⟨s_2, hq2, hf⟩ := tb1_of hf
      refine tr_callv (va_runS (As := [.int p1, .int (0 : Int32), .int (1 : Int32)]) (rest := []) ⟨hx, hb, hml, hown, ht⟩ (mc_T_needWithin l hd hq2) ⟨(tw_cb (n := 3) ht wc_T_needWithin wd_34 wd_420 ⟨rfl, rfl⟩ (by decide +kernel) ⟨(Nat.le_of_ble_eq_true rfl), (Nat.le_of_ble_eq_true rfl)⟩), ht _ wd_421⟩ ⟨tP_blind, fun U hU hW => ⟨rfl, by rw [hU]; exact hP, va_K.moved hW.alike hK, tW_warm hW hN⟩⟩ rfl rfl hl.1 rfl (lv_room (Nat.le_of_ble_eq_true rfl)) d_T_flow_8 ⟨Nat.zero_le _, Nat.zero_le _⟩) hS (fun _ h => h.elim) (fun _ h => h.elim) (fun H locs hP hS => ?_)
      exact tn_no hf
abbrev rx_T_way : Room := { frames := 7, cells := 1, slots := 6, locals := 103 }
set_option maxHeartbeats 4000000 in
set_option maxRecDepth 100000 in
theorem xc_T_way (l : Launch) (h9 : l.stackTraces = false) {D : va_G} {ad : Nat → Nat} {ta : Nat → ClassId} (hd : tD 37 ad) {σ : tS} {p0 : Int32} {p1 : Int32} {p2 : Int32} {k : Nat} (hf : mx_T_way p0 p1 p2 σ = some k) : MetX l y_T_way (.code y_T_way b_T_way 4 (some .int) :: tw) rx_T_way (tPX D clS (tyC ta) (cwC ad ta σ) [.ref (ad 0), .int p0, .int p1, .int p2]) (exc k) := by
  refine MetX.ofW (cc := b_T_way) (maxL := 4) (ret := (some .int)) (by decide) rfl ?_
  intro p e s m args below meth c s₁ B hml hv
  obtain ⟨⟨rfl, hP, hK, hN⟩, hT⟩ := hv
  have hx := B.exec
  have hb := B.bytes
  have hr := B.returns
  have hts := atoms_spec (ws := (.code y_T_way b_T_way 4 (some .int) :: tw)) B.pre
  have ht : ∀ w ∈ tw, w.before [.ref (ad 0), .int p0, .int p1, .int p2].toArray s = true := fun w h => hts w (List.mem_cons_of_mem _ h)
  have hown : s.vm.findClass R_T = some m.cls := findClass_of_methodNamed B.named
  have hlocks := B.notSynchronized
  have hne := B.noHandlers (hts _ List.mem_cons_self)
  have hS : va_S tNo s.heap s.heap [] := va_S.rf
  have hl := lv_entry ([.ref (ad 0), .int p0, .int p1, .int p2]) (n := 4) (Nat.le_of_ble_eq_true rfl)
  rw [lg_entry_eq]
  generalize (lg_sl ([.ref (ad 0), .int p0, .int p1, .int p2]) ++ List.replicate (4 - (lg_sl ([.ref (ad 0), .int p0, .int p1, .int p2])).length) Slot.unset).toArray = ls at hl ⊢
  replace hl : lv_has ls 4 [(0, .ref (ad 0)), (1, .int p0), (2, .int p1), (3, .int p2)] := hl
  unfold mx_T_way at hf
  refine lv_aload_n hx hb d_T_way_0 rfl (lv_at hl 0 rfl) ?_
  refine lv_iload_n hx hb d_T_way_1 rfl (lv_at hl 1 rfl) ?_
  rcases tx_of hf with hq | hf
  · exact tr_pass (tx_runV (C := R_T) (As := [.int p0]) (rest := []) ⟨hx, hb, hml, hown, ht⟩ (xc_T_needNode l h9 hd hq) ⟨pay_in ht (tw_G wc_T_needNode), List.mem_cons_self, ht _ wd_34, ⟨(Nat.le_of_ble_eq_true rfl), (Nat.le_of_ble_eq_true rfl), (Nat.le_of_ble_eq_true rfl), (Nat.le_of_ble_eq_true rfl)⟩⟩ (ht _ wd_399) (ht _ wd_401) (ht _ wd_5) (ht _ wc_T_needNode) (by decide +kernel) ⟨tPX_blind, va_recv hK hP (ci := 0) (q0 := 0) rfl rfl, fun U hU hW => ⟨⟨rfl, by rw [hU]; exact hP, va_K.moved hW.alike hK, tW_warm hW hN⟩, tT_go hT hS hU hW⟩⟩ rfl (show (parseMethodDescriptor y_T_needNode.desc).map (fun d => d.parameters.length) = some 1 by decide +kernel) hl.1 rfl (lv_room (Nat.le_of_ble_eq_true rfl)) d_T_way_2) hlocks hne hS
  · obtain ⟨s_1, hq1, hf⟩ := tb1_of hf
    refine tr_callv (va_runV (C := R_T) (As := [.int p0]) (rest := []) ⟨hx, hb, hml, hown, ht⟩ (mc_T_needNode l hd hq1) ⟨(tw_cb (n := 1) ht wc_T_needNode wd_34 wd_399 ⟨rfl, rfl⟩ (by decide +kernel) ⟨(Nat.le_of_ble_eq_true rfl), (Nat.le_of_ble_eq_true rfl)⟩), ht _ wd_401, ht _ wd_5⟩ ⟨tP_blind, va_recv hK hP (ci := 0) (q0 := 0) rfl rfl, fun U hU hW => ⟨rfl, by rw [hU]; exact hP, va_K.moved hW.alike hK, tW_warm hW hN⟩⟩ rfl rfl hl.1 rfl (lv_room (Nat.le_of_ble_eq_true rfl)) d_T_way_2 ⟨Nat.zero_le _, Nat.zero_le _⟩) hS (fun _ h => h.elim) (fun _ h => h.elim) (fun H locs hP hS => ?_)
    refine lv_aload_n hx hb d_T_way_5 rfl (lv_at hl 0 rfl) ?_
    refine lv_iload_n hx hb d_T_way_6 rfl (lv_at hl 2 rfl) ?_
    rcases tx_of hf with hq | hf
    · exact tr_pass (tx_runV (C := R_T) (As := [.int p1]) (rest := []) ⟨hx, hb, hml, hown, ht⟩ (xc_T_needNode l h9 hd hq) ⟨pay_in ht (tw_G wc_T_needNode), List.mem_cons_self, ht _ wd_34, ⟨(Nat.le_of_ble_eq_true rfl), (Nat.le_of_ble_eq_true rfl), (Nat.le_of_ble_eq_true rfl), (Nat.le_of_ble_eq_true rfl)⟩⟩ (ht _ wd_399) (ht _ wd_401) (ht _ wd_5) (ht _ wc_T_needNode) (by decide +kernel) ⟨tPX_blind, va_recv hK hP (ci := 0) (q0 := 0) rfl rfl, fun U hU hW => ⟨⟨rfl, by rw [hU]; exact hP, va_K.moved hW.alike hK, tW_warm hW hN⟩, tT_go hT hS hU hW⟩⟩ rfl (show (parseMethodDescriptor y_T_needNode.desc).map (fun d => d.parameters.length) = some 1 by decide +kernel) hl.1 rfl (lv_room (Nat.le_of_ble_eq_true rfl)) d_T_way_7) hlocks hne hS
    · obtain ⟨s_2, hq2, hf⟩ := tb1_of hf
      refine tr_callv (va_runV (C := R_T) (As := [.int p1]) (rest := []) ⟨hx, hb, hml, hown, ht⟩ (mc_T_needNode l hd hq2) ⟨(tw_cb (n := 1) ht wc_T_needNode wd_34 wd_399 ⟨rfl, rfl⟩ (by decide +kernel) ⟨(Nat.le_of_ble_eq_true rfl), (Nat.le_of_ble_eq_true rfl)⟩), ht _ wd_401, ht _ wd_5⟩ ⟨tP_blind, va_recv hK hP (ci := 0) (q0 := 0) rfl rfl, fun U hU hW => ⟨rfl, by rw [hU]; exact hP, va_K.moved hW.alike hK, tW_warm hW hN⟩⟩ rfl rfl hl.1 rfl (lv_room (Nat.le_of_ble_eq_true rfl)) d_T_way_7 ⟨Nat.zero_le _, Nat.zero_le _⟩) hS (fun _ h => h.elim) (fun _ h => h.elim) (fun H locs hP hS => ?_)
      refine lv_iload_n hx hb d_T_way_10 rfl (lv_at hl 3 rfl) ?_
      refine lv_if_ge (tgt := 24) hx hb d_T_way_11 (by decide) (fun hc => ?_) (fun hc => ?_)
      · replace hf := ti_pos hc hf
        exact tn_no hf
      · replace hf := ti_neg hc hf
        obtain rfl := ts_of hf
        obtain ⟨qs, hqs⟩ := hT.2.2.2 (158, "k is below 0") (by decide)
        exact tr_throw (X := xIA) (names := xNs) hx hb hlocks hne h9 hown (hml.trans hl.1.symm) (by decide +kernel) (by decide +kernel) (oa_hold ht hT oa_IA) (ht _ wd_403) (ht _ wd_404) (ht _ wd_48) hqs hS ⟨(Nat.le_of_ble_eq_true rfl), (Nat.le_of_ble_eq_true rfl), (Nat.le_of_ble_eq_true rfl), (Nat.le_of_ble_eq_true rfl)⟩ d_T_way_14 d_T_way_17 d_T_way_18 d_T_way_20 d_T_way_23
abbrev rx_T_least : Room := { frames := 7, cells := 1, slots := 6, locals := 103 }
set_option maxHeartbeats 4000000 in
set_option maxRecDepth 100000 in
theorem xc_T_least (l : Launch) (h9 : l.stackTraces = false) {D : va_G} {ad : Nat → Nat} {ta : Nat → ClassId} (hd : tD 37 ad) {σ : tS} {p0 : Int32} {p1 : Int32} {k : Nat} (hf : mx_T_least p0 p1 σ = some k) : MetX l y_T_least (.code y_T_least b_T_least 3 (some .int) :: tw) rx_T_least (tPX D clS (tyC ta) (cwC ad ta σ) [.ref (ad 0), .int p0, .int p1]) (exc k) := by
  refine MetX.ofW (cc := b_T_least) (maxL := 3) (ret := (some .int)) (by decide) rfl ?_
  intro p e s m args below meth c s₁ B hml hv
  obtain ⟨⟨rfl, hP, hK, hN⟩, hT⟩ := hv
  have hx := B.exec
  have hb := B.bytes
  have hr := B.returns
  have hts := atoms_spec (ws := (.code y_T_least b_T_least 3 (some .int) :: tw)) B.pre
  have ht : ∀ w ∈ tw, w.before [.ref (ad 0), .int p0, .int p1].toArray s = true := fun w h => hts w (List.mem_cons_of_mem _ h)
  have hown : s.vm.findClass R_T = some m.cls := findClass_of_methodNamed B.named
  have hlocks := B.notSynchronized
  have hne := B.noHandlers (hts _ List.mem_cons_self)
  have hS : va_S tNo s.heap s.heap [] := va_S.rf
  have hl := lv_entry ([.ref (ad 0), .int p0, .int p1]) (n := 3) (Nat.le_of_ble_eq_true rfl)
  rw [lg_entry_eq]
  generalize (lg_sl ([.ref (ad 0), .int p0, .int p1]) ++ List.replicate (3 - (lg_sl ([.ref (ad 0), .int p0, .int p1])).length) Slot.unset).toArray = ls at hl ⊢
  replace hl : lv_has ls 3 [(0, .ref (ad 0)), (1, .int p0), (2, .int p1)] := hl
  unfold mx_T_least at hf
  refine lv_aload_n hx hb d_T_least_0 rfl (lv_at hl 0 rfl) ?_
  refine lv_iload_n hx hb d_T_least_1 rfl (lv_at hl 1 rfl) ?_
  rcases tx_of hf with hq | hf
  · exact tr_pass (tx_runV (C := R_T) (As := [.int p0]) (rest := []) ⟨hx, hb, hml, hown, ht⟩ (xc_T_needNode l h9 hd hq) ⟨pay_in ht (tw_G wc_T_needNode), List.mem_cons_self, ht _ wd_34, ⟨(Nat.le_of_ble_eq_true rfl), (Nat.le_of_ble_eq_true rfl), (Nat.le_of_ble_eq_true rfl), (Nat.le_of_ble_eq_true rfl)⟩⟩ (ht _ wd_399) (ht _ wd_401) (ht _ wd_5) (ht _ wc_T_needNode) (by decide +kernel) ⟨tPX_blind, va_recv hK hP (ci := 0) (q0 := 0) rfl rfl, fun U hU hW => ⟨⟨rfl, by rw [hU]; exact hP, va_K.moved hW.alike hK, tW_warm hW hN⟩, tT_go hT hS hU hW⟩⟩ rfl (show (parseMethodDescriptor y_T_needNode.desc).map (fun d => d.parameters.length) = some 1 by decide +kernel) hl.1 rfl (lv_room (Nat.le_of_ble_eq_true rfl)) d_T_least_2) hlocks hne hS
  · obtain ⟨s_1, hq1, hf⟩ := tb1_of hf
    refine tr_callv (va_runV (C := R_T) (As := [.int p0]) (rest := []) ⟨hx, hb, hml, hown, ht⟩ (mc_T_needNode l hd hq1) ⟨(tw_cb (n := 1) ht wc_T_needNode wd_34 wd_399 ⟨rfl, rfl⟩ (by decide +kernel) ⟨(Nat.le_of_ble_eq_true rfl), (Nat.le_of_ble_eq_true rfl)⟩), ht _ wd_401, ht _ wd_5⟩ ⟨tP_blind, va_recv hK hP (ci := 0) (q0 := 0) rfl rfl, fun U hU hW => ⟨rfl, by rw [hU]; exact hP, va_K.moved hW.alike hK, tW_warm hW hN⟩⟩ rfl rfl hl.1 rfl (lv_room (Nat.le_of_ble_eq_true rfl)) d_T_least_2 ⟨Nat.zero_le _, Nat.zero_le _⟩) hS (fun _ h => h.elim) (fun _ h => h.elim) (fun H locs hP hS => ?_)
    refine lv_aload_n hx hb d_T_least_5 rfl (lv_at hl 0 rfl) ?_
    refine lv_iload_n hx hb d_T_least_6 rfl (lv_at hl 2 rfl) ?_
    rcases tx_of hf with hq | hf
    · exact tr_pass (tx_runV (C := R_T) (As := [.int p1]) (rest := []) ⟨hx, hb, hml, hown, ht⟩ (xc_T_needNode l h9 hd hq) ⟨pay_in ht (tw_G wc_T_needNode), List.mem_cons_self, ht _ wd_34, ⟨(Nat.le_of_ble_eq_true rfl), (Nat.le_of_ble_eq_true rfl), (Nat.le_of_ble_eq_true rfl), (Nat.le_of_ble_eq_true rfl)⟩⟩ (ht _ wd_399) (ht _ wd_401) (ht _ wd_5) (ht _ wc_T_needNode) (by decide +kernel) ⟨tPX_blind, va_recv hK hP (ci := 0) (q0 := 0) rfl rfl, fun U hU hW => ⟨⟨rfl, by rw [hU]; exact hP, va_K.moved hW.alike hK, tW_warm hW hN⟩, tT_go hT hS hU hW⟩⟩ rfl (show (parseMethodDescriptor y_T_needNode.desc).map (fun d => d.parameters.length) = some 1 by decide +kernel) hl.1 rfl (lv_room (Nat.le_of_ble_eq_true rfl)) d_T_least_7) hlocks hne hS
    · obtain ⟨s_2, hq2, hf⟩ := tb1_of hf
      refine tr_callv (va_runV (C := R_T) (As := [.int p1]) (rest := []) ⟨hx, hb, hml, hown, ht⟩ (mc_T_needNode l hd hq2) ⟨(tw_cb (n := 1) ht wc_T_needNode wd_34 wd_399 ⟨rfl, rfl⟩ (by decide +kernel) ⟨(Nat.le_of_ble_eq_true rfl), (Nat.le_of_ble_eq_true rfl)⟩), ht _ wd_401, ht _ wd_5⟩ ⟨tP_blind, va_recv hK hP (ci := 0) (q0 := 0) rfl rfl, fun U hU hW => ⟨rfl, by rw [hU]; exact hP, va_K.moved hW.alike hK, tW_warm hW hN⟩⟩ rfl rfl hl.1 rfl (lv_room (Nat.le_of_ble_eq_true rfl)) d_T_least_7 ⟨Nat.zero_le _, Nat.zero_le _⟩) hS (fun _ h => h.elim) (fun _ h => h.elim) (fun H locs hP hS => ?_)
      exact tn_no hf
abbrev rx_T_link : Room := { frames := 7, cells := 1, slots := 6, locals := 103 }
set_option maxHeartbeats 4000000 in
set_option maxRecDepth 100000 in
theorem xc_T_link (l : Launch) (h9 : l.stackTraces = false) {D : va_G} {ad : Nat → Nat} {ta : Nat → ClassId} (hd : tD 37 ad) {σ : tS} {p0 : Int32} {p1 : Int32} {p2 : Int32} {k : Nat} (hf : mx_T_link p0 p1 p2 σ = some k) : MetX l y_T_link (.code y_T_link b_T_link 4 (some .int) :: tw) rx_T_link (tPX D clS (tyC ta) (cwC ad ta σ) [.ref (ad 0), .int p0, .int p1, .int p2]) (exc k) := by
  refine MetX.ofW (cc := b_T_link) (maxL := 4) (ret := (some .int)) (by decide) rfl ?_
  intro p e s m args below meth c s₁ B hml hv
  obtain ⟨⟨rfl, hP, hK, hN⟩, hT⟩ := hv
  have hx := B.exec
  have hb := B.bytes
  have hr := B.returns
  have hts := atoms_spec (ws := (.code y_T_link b_T_link 4 (some .int) :: tw)) B.pre
  have ht : ∀ w ∈ tw, w.before [.ref (ad 0), .int p0, .int p1, .int p2].toArray s = true := fun w h => hts w (List.mem_cons_of_mem _ h)
  have hown : s.vm.findClass R_T = some m.cls := findClass_of_methodNamed B.named
  have hlocks := B.notSynchronized
  have hne := B.noHandlers (hts _ List.mem_cons_self)
  have hS : va_S tNo s.heap s.heap [] := va_S.rf
  have hl := lv_entry ([.ref (ad 0), .int p0, .int p1, .int p2]) (n := 4) (Nat.le_of_ble_eq_true rfl)
  rw [lg_entry_eq]
  generalize (lg_sl ([.ref (ad 0), .int p0, .int p1, .int p2]) ++ List.replicate (4 - (lg_sl ([.ref (ad 0), .int p0, .int p1, .int p2])).length) Slot.unset).toArray = ls at hl ⊢
  replace hl : lv_has ls 4 [(0, .ref (ad 0)), (1, .int p0), (2, .int p1), (3, .int p2)] := hl
  unfold mx_T_link at hf
  refine lv_aload_n hx hb d_T_link_0 rfl (lv_at hl 0 rfl) ?_
  refine lv_iload_n hx hb d_T_link_1 rfl (lv_at hl 1 rfl) ?_
  rcases tx_of hf with hq | hf
  · exact tr_pass (tx_runV (C := R_T) (As := [.int p0]) (rest := []) ⟨hx, hb, hml, hown, ht⟩ (xc_T_needStreet l h9 hd hq) ⟨pay_in ht (tw_G wc_T_needStreet), List.mem_cons_self, ht _ wd_34, ⟨(Nat.le_of_ble_eq_true rfl), (Nat.le_of_ble_eq_true rfl), (Nat.le_of_ble_eq_true rfl), (Nat.le_of_ble_eq_true rfl)⟩⟩ (ht _ wd_450) (ht _ wd_452) (ht _ wd_6) (ht _ wc_T_needStreet) (by decide +kernel) ⟨tPX_blind, va_recv hK hP (ci := 0) (q0 := 0) rfl rfl, fun U hU hW => ⟨⟨rfl, by rw [hU]; exact hP, va_K.moved hW.alike hK, tW_warm hW hN⟩, tT_go hT hS hU hW⟩⟩ rfl (show (parseMethodDescriptor y_T_needStreet.desc).map (fun d => d.parameters.length) = some 1 by decide +kernel) hl.1 rfl (lv_room (Nat.le_of_ble_eq_true rfl)) d_T_link_2) hlocks hne hS
  · obtain ⟨s_1, hq1, hf⟩ := tb1_of hf
    refine tr_callv (va_runV (C := R_T) (As := [.int p0]) (rest := []) ⟨hx, hb, hml, hown, ht⟩ (mc_T_needStreet l hd hq1) ⟨(tw_cb (n := 1) ht wc_T_needStreet wd_34 wd_450 ⟨rfl, rfl⟩ (by decide +kernel) ⟨(Nat.le_of_ble_eq_true rfl), (Nat.le_of_ble_eq_true rfl)⟩), ht _ wd_452, ht _ wd_6⟩ ⟨tP_blind, va_recv hK hP (ci := 0) (q0 := 0) rfl rfl, fun U hU hW => ⟨rfl, by rw [hU]; exact hP, va_K.moved hW.alike hK, tW_warm hW hN⟩⟩ rfl rfl hl.1 rfl (lv_room (Nat.le_of_ble_eq_true rfl)) d_T_link_2 ⟨Nat.zero_le _, Nat.zero_le _⟩) hS (fun _ h => h.elim) (fun _ h => h.elim) (fun H locs hP hS => ?_)
    refine lv_aload_n hx hb d_T_link_5 rfl (lv_at hl 0 rfl) ?_
    refine lv_iload_n hx hb d_T_link_6 rfl (lv_at hl 2 rfl) ?_
    rcases tx_of hf with hq | hf
    · exact tr_pass (tx_runV (C := R_T) (As := [.int p1]) (rest := []) ⟨hx, hb, hml, hown, ht⟩ (xc_T_needZone l h9 hd hq) ⟨pay_in ht (tw_G wc_T_needZone), List.mem_cons_self, ht _ wd_34, ⟨(Nat.le_of_ble_eq_true rfl), (Nat.le_of_ble_eq_true rfl), (Nat.le_of_ble_eq_true rfl), (Nat.le_of_ble_eq_true rfl)⟩⟩ (ht _ wd_469) (ht _ wd_471) (ht _ wd_7) (ht _ wc_T_needZone) (by decide +kernel) ⟨tPX_blind, va_recv hK hP (ci := 0) (q0 := 0) rfl rfl, fun U hU hW => ⟨⟨rfl, by rw [hU]; exact hP, va_K.moved hW.alike hK, tW_warm hW hN⟩, tT_go hT hS hU hW⟩⟩ rfl (show (parseMethodDescriptor y_T_needZone.desc).map (fun d => d.parameters.length) = some 1 by decide +kernel) hl.1 rfl (lv_room (Nat.le_of_ble_eq_true rfl)) d_T_link_7) hlocks hne hS
    · obtain ⟨s_2, hq2, hf⟩ := tb1_of hf
      refine tr_callv (va_runV (C := R_T) (As := [.int p1]) (rest := []) ⟨hx, hb, hml, hown, ht⟩ (mc_T_needZone l hd hq2) ⟨(tw_cb (n := 1) ht wc_T_needZone wd_34 wd_469 ⟨rfl, rfl⟩ (by decide +kernel) ⟨(Nat.le_of_ble_eq_true rfl), (Nat.le_of_ble_eq_true rfl)⟩), ht _ wd_471, ht _ wd_7⟩ ⟨tP_blind, va_recv hK hP (ci := 0) (q0 := 0) rfl rfl, fun U hU hW => ⟨rfl, by rw [hU]; exact hP, va_K.moved hW.alike hK, tW_warm hW hN⟩⟩ rfl rfl hl.1 rfl (lv_room (Nat.le_of_ble_eq_true rfl)) d_T_link_7 ⟨Nat.zero_le _, Nat.zero_le _⟩) hS (fun _ h => h.elim) (fun _ h => h.elim) (fun H locs hP hS => ?_)
      refine lv_aload_n hx hb d_T_link_10 rfl (lv_at hl 0 rfl) ?_
      refine lv_iload_n hx hb d_T_link_11 rfl (lv_at hl 3 rfl) ?_
      rcases tx_of hf with hq | hf
      · exact tr_pass (tx_runV (C := R_T) (As := [.int p2]) (rest := []) ⟨hx, hb, hml, hown, ht⟩ (xc_T_needZone l h9 hd hq) ⟨pay_in ht (tw_G wc_T_needZone), List.mem_cons_self, ht _ wd_34, ⟨(Nat.le_of_ble_eq_true rfl), (Nat.le_of_ble_eq_true rfl), (Nat.le_of_ble_eq_true rfl), (Nat.le_of_ble_eq_true rfl)⟩⟩ (ht _ wd_469) (ht _ wd_471) (ht _ wd_7) (ht _ wc_T_needZone) (by decide +kernel) ⟨tPX_blind, va_recv hK hP (ci := 0) (q0 := 0) rfl rfl, fun U hU hW => ⟨⟨rfl, by rw [hU]; exact hP, va_K.moved hW.alike hK, tW_warm hW hN⟩, tT_go hT hS hU hW⟩⟩ rfl (show (parseMethodDescriptor y_T_needZone.desc).map (fun d => d.parameters.length) = some 1 by decide +kernel) hl.1 rfl (lv_room (Nat.le_of_ble_eq_true rfl)) d_T_link_12) hlocks hne hS
      · obtain ⟨s_3, hq3, hf⟩ := tb1_of hf
        refine tr_callv (va_runV (C := R_T) (As := [.int p2]) (rest := []) ⟨hx, hb, hml, hown, ht⟩ (mc_T_needZone l hd hq3) ⟨(tw_cb (n := 1) ht wc_T_needZone wd_34 wd_469 ⟨rfl, rfl⟩ (by decide +kernel) ⟨(Nat.le_of_ble_eq_true rfl), (Nat.le_of_ble_eq_true rfl)⟩), ht _ wd_471, ht _ wd_7⟩ ⟨tP_blind, va_recv hK hP (ci := 0) (q0 := 0) rfl rfl, fun U hU hW => ⟨rfl, by rw [hU]; exact hP, va_K.moved hW.alike hK, tW_warm hW hN⟩⟩ rfl rfl hl.1 rfl (lv_room (Nat.le_of_ble_eq_true rfl)) d_T_link_12 ⟨Nat.zero_le _, Nat.zero_le _⟩) hS (fun _ h => h.elim) (fun _ h => h.elim) (fun H locs hP hS => ?_)
        exact tn_no hf
abbrev rx_T_count : Room := { frames := 7, cells := 1, slots := 6, locals := 104 }
set_option maxHeartbeats 4000000 in
set_option maxRecDepth 100000 in
theorem xc_T_count (l : Launch) (h9 : l.stackTraces = false) {D : va_G} {ad : Nat → Nat} {ta : Nat → ClassId} (hd : tD 37 ad) {σ : tS} {p0 : Int32} {p1 : Int32} {k : Nat} (hf : mx_T_count p0 p1 σ = some k) : MetX l y_T_count (.code y_T_count b_T_count 4 (some .int) :: tw) rx_T_count (tPX D clS (tyC ta) (cwC ad ta σ) [.ref (ad 0), .int p0, .int p1]) (exc k) := by
  refine MetX.ofW (cc := b_T_count) (maxL := 4) (ret := (some .int)) (by decide) rfl ?_
  intro p e s m args below meth c s₁ B hml hv
  obtain ⟨⟨rfl, hP, hK, hN⟩, hT⟩ := hv
  have hx := B.exec
  have hb := B.bytes
  have hr := B.returns
  have hts := atoms_spec (ws := (.code y_T_count b_T_count 4 (some .int) :: tw)) B.pre
  have ht : ∀ w ∈ tw, w.before [.ref (ad 0), .int p0, .int p1].toArray s = true := fun w h => hts w (List.mem_cons_of_mem _ h)
  have hown : s.vm.findClass R_T = some m.cls := findClass_of_methodNamed B.named
  have hlocks := B.notSynchronized
  have hne := B.noHandlers (hts _ List.mem_cons_self)
  have hS : va_S tNo s.heap s.heap [] := va_S.rf
  have hl := lv_entry ([.ref (ad 0), .int p0, .int p1]) (n := 4) (Nat.le_of_ble_eq_true rfl)
  rw [lg_entry_eq]
  generalize (lg_sl ([.ref (ad 0), .int p0, .int p1]) ++ List.replicate (4 - (lg_sl ([.ref (ad 0), .int p0, .int p1])).length) Slot.unset).toArray = ls at hl ⊢
  replace hl : lv_has ls 4 [(0, .ref (ad 0)), (1, .int p0), (2, .int p1)] := hl
  unfold mx_T_count at hf
  refine lv_aload_n hx hb d_T_count_0 rfl (lv_at hl 0 rfl) ?_
  refine lv_iload_n hx hb d_T_count_1 rfl (lv_at hl 1 rfl) ?_
  rcases tx_of hf with hq | hf
  · exact tr_pass (tx_runV (C := R_T) (As := [.int p0]) (rest := []) ⟨hx, hb, hml, hown, ht⟩ (xc_T_needStreet l h9 hd hq) ⟨pay_in ht (tw_G wc_T_needStreet), List.mem_cons_self, ht _ wd_34, ⟨(Nat.le_of_ble_eq_true rfl), (Nat.le_of_ble_eq_true rfl), (Nat.le_of_ble_eq_true rfl), (Nat.le_of_ble_eq_true rfl)⟩⟩ (ht _ wd_450) (ht _ wd_452) (ht _ wd_6) (ht _ wc_T_needStreet) (by decide +kernel) ⟨tPX_blind, va_recv hK hP (ci := 0) (q0 := 0) rfl rfl, fun U hU hW => ⟨⟨rfl, by rw [hU]; exact hP, va_K.moved hW.alike hK, tW_warm hW hN⟩, tT_go hT hS hU hW⟩⟩ rfl (show (parseMethodDescriptor y_T_needStreet.desc).map (fun d => d.parameters.length) = some 1 by decide +kernel) hl.1 rfl (lv_room (Nat.le_of_ble_eq_true rfl)) d_T_count_2) hlocks hne hS
  · obtain ⟨s_1, hq1, hf⟩ := tb1_of hf
    refine tr_callv (va_runV (C := R_T) (As := [.int p0]) (rest := []) ⟨hx, hb, hml, hown, ht⟩ (mc_T_needStreet l hd hq1) ⟨(tw_cb (n := 1) ht wc_T_needStreet wd_34 wd_450 ⟨rfl, rfl⟩ (by decide +kernel) ⟨(Nat.le_of_ble_eq_true rfl), (Nat.le_of_ble_eq_true rfl)⟩), ht _ wd_452, ht _ wd_6⟩ ⟨tP_blind, va_recv hK hP (ci := 0) (q0 := 0) rfl rfl, fun U hU hW => ⟨rfl, by rw [hU]; exact hP, va_K.moved hW.alike hK, tW_warm hW hN⟩⟩ rfl rfl hl.1 rfl (lv_room (Nat.le_of_ble_eq_true rfl)) d_T_count_2 ⟨Nat.zero_le _, Nat.zero_le _⟩) hS (fun _ h => h.elim) (fun _ h => h.elim) (fun H locs hP hS => ?_)
    refine lv_iload_n hx hb d_T_count_5 rfl (lv_at hl 2 rfl) ?_
    refine lv_iconst (v := ((-1) : Int32)) hx hb d_T_count_6 (by decide) ?_
    refine lv_ldc (v := (1000000 : Int32)) hx hb hown (ht _ wd_437) d_T_count_7 ?_
    rcases tx_of hf with hq | hf
    · exact tr_pass (tx_runS (As := [.int p1, .int ((-1) : Int32), .int (1000000 : Int32)]) (rest := []) ⟨hx, hb, hml, hown, ht⟩ (xc_T_needWithin l h9 hd hq) ⟨pay_in ht (tw_G wc_T_needWithin), List.mem_cons_self, ht _ wd_34, ⟨(Nat.le_of_ble_eq_true rfl), (Nat.le_of_ble_eq_true rfl), (Nat.le_of_ble_eq_true rfl), (Nat.le_of_ble_eq_true rfl)⟩⟩ (ht _ wd_420) (ht _ wd_421) (ht _ wc_T_needWithin) (by decide +kernel) ⟨tPX_blind, fun U hU hW => ⟨⟨rfl, by rw [hU]; exact hP, va_K.moved hW.alike hK, tW_warm hW hN⟩, tT_go hT hS hU hW⟩⟩ rfl (show (parseMethodDescriptor y_T_needWithin.desc).map (fun d => d.parameters.length) = some 3 by decide +kernel) hl.1 rfl (lv_room (Nat.le_of_ble_eq_true rfl)) d_T_count_9) hlocks hne hS
    · obtain ⟨s_2, hq2, hf⟩ := tb1_of hf
      refine tr_callv (va_runS (As := [.int p1, .int ((-1) : Int32), .int (1000000 : Int32)]) (rest := []) ⟨hx, hb, hml, hown, ht⟩ (mc_T_needWithin l hd hq2) ⟨(tw_cb (n := 3) ht wc_T_needWithin wd_34 wd_420 ⟨rfl, rfl⟩ (by decide +kernel) ⟨(Nat.le_of_ble_eq_true rfl), (Nat.le_of_ble_eq_true rfl)⟩), ht _ wd_421⟩ ⟨tP_blind, fun U hU hW => ⟨rfl, by rw [hU]; exact hP, va_K.moved hW.alike hK, tW_warm hW hN⟩⟩ rfl rfl hl.1 rfl (lv_room (Nat.le_of_ble_eq_true rfl)) d_T_count_9 ⟨Nat.zero_le _, Nat.zero_le _⟩) hS (fun _ h => h.elim) (fun _ h => h.elim) (fun H locs hP hS => ?_)
      exact tn_no hf
abbrev rx_T_fit : Room := { frames := 7, cells := 1, slots := 6, locals := 121 }
set_option maxHeartbeats 4000000 in
set_option maxRecDepth 100000 in
theorem xc_T_fit (l : Launch) (h9 : l.stackTraces = false) {D : va_G} {ad : Nat → Nat} {ta : Nat → ClassId} (hd : tD 37 ad) {σ : tS} {p0 : Int32} {k : Nat} (hf : mx_T_fit p0 σ = some k) : MetX l y_T_fit (.code y_T_fit b_T_fit 4 (some .int) :: tw) rx_T_fit (tPX D clS (tyC ta) (cwC ad ta σ) [.ref (ad 0), .int p0]) (exc k) := by
  refine MetX.ofW (cc := b_T_fit) (maxL := 4) (ret := (some .int)) (by decide) rfl ?_
  intro p e s m args below meth c s₁ B hml hv
  obtain ⟨⟨rfl, hP, hK, hN⟩, hT⟩ := hv
  have hx := B.exec
  have hb := B.bytes
  have hr := B.returns
  have hts := atoms_spec (ws := (.code y_T_fit b_T_fit 4 (some .int) :: tw)) B.pre
  have ht : ∀ w ∈ tw, w.before [.ref (ad 0), .int p0].toArray s = true := fun w h => hts w (List.mem_cons_of_mem _ h)
  have hown : s.vm.findClass R_T = some m.cls := findClass_of_methodNamed B.named
  have hlocks := B.notSynchronized
  have hne := B.noHandlers (hts _ List.mem_cons_self)
  have hS : va_S tNo s.heap s.heap [] := va_S.rf
  have hl := lv_entry ([.ref (ad 0), .int p0]) (n := 4) (Nat.le_of_ble_eq_true rfl)
  rw [lg_entry_eq]
  generalize (lg_sl ([.ref (ad 0), .int p0]) ++ List.replicate (4 - (lg_sl ([.ref (ad 0), .int p0])).length) Slot.unset).toArray = ls at hl ⊢
  replace hl : lv_has ls 4 [(0, .ref (ad 0)), (1, .int p0)] := hl
  unfold mx_T_fit at hf
  refine lv_iload_n hx hb d_T_fit_0 rfl (lv_at hl 1 rfl) ?_
  refine lv_iconst (v := (1 : Int32)) hx hb d_T_fit_1 (by decide) ?_
  refine lv_bipush (v := (20 : Int32)) hx hb d_T_fit_2 (by decide) ?_
  rcases tx_of hf with hq | hf
  · exact tr_pass (tx_runS (As := [.int p0, .int (1 : Int32), .int (20 : Int32)]) (rest := []) ⟨hx, hb, hml, hown, ht⟩ (xc_T_needWithin l h9 hd hq) ⟨pay_in ht (tw_G wc_T_needWithin), List.mem_cons_self, ht _ wd_34, ⟨(Nat.le_of_ble_eq_true rfl), (Nat.le_of_ble_eq_true rfl), (Nat.le_of_ble_eq_true rfl), (Nat.le_of_ble_eq_true rfl)⟩⟩ (ht _ wd_420) (ht _ wd_421) (ht _ wc_T_needWithin) (by decide +kernel) ⟨tPX_blind, fun U hU hW => ⟨⟨rfl, by rw [hU]; exact hP, va_K.moved hW.alike hK, tW_warm hW hN⟩, tT_go hT hS hU hW⟩⟩ rfl (show (parseMethodDescriptor y_T_needWithin.desc).map (fun d => d.parameters.length) = some 3 by decide +kernel) hl.1 rfl (lv_room (Nat.le_of_ble_eq_true rfl)) d_T_fit_4) hlocks hne hS
  · obtain ⟨s_1, hq1, hf⟩ := tb1_of hf
    refine tr_callv (va_runS (As := [.int p0, .int (1 : Int32), .int (20 : Int32)]) (rest := []) ⟨hx, hb, hml, hown, ht⟩ (mc_T_needWithin l hd hq1) ⟨(tw_cb (n := 3) ht wc_T_needWithin wd_34 wd_420 ⟨rfl, rfl⟩ (by decide +kernel) ⟨(Nat.le_of_ble_eq_true rfl), (Nat.le_of_ble_eq_true rfl)⟩), ht _ wd_421⟩ ⟨tP_blind, fun U hU hW => ⟨rfl, by rw [hU]; exact hP, va_K.moved hW.alike hK, tW_warm hW hN⟩⟩ rfl rfl hl.1 rfl (lv_room (Nat.le_of_ble_eq_true rfl)) d_T_fit_4 ⟨Nat.zero_le _, Nat.zero_le _⟩) hS (fun _ h => h.elim) (fun _ h => h.elim) (fun H locs hP hS => ?_)
    refine lv_aload_n hx hb d_T_fit_7 rfl (lv_at hl 0 rfl) ?_
    refine va_get (ci := 0) (v := .ref (ad 6)) (C := R_T) (T := F_T) (N := 7) hx hb ht iw_T hown hK hP 0 rfl rfl 6 (by decide) (ht _ wd_251) (fun _ h9 => h9) rfl d_T_fit_8 ?_
    refine va_get (ci := 6) (v := .int (s_1.1 3)) (C := R_A) (T := F_A) (N := 5) hx hb ht iw_A hown hK hP 6 rfl rfl 0 (by decide) (ht _ wd_225) (fun _ h9 => h9) rfl d_T_fit_11 ?_
    refine lv_if_ne (tgt := 27) hx hb d_T_fit_14 (by decide) (fun hc => ?_) (fun hc => ?_)
    · replace hf := ti_neg hc hf
      exact tn_no hf
    · replace hf := ti_pos hc hf
      obtain rfl := ts_of hf
      obtain ⟨qs, hqs⟩ := hT.2.2.2 (195, "nothing was assigned") (by decide)
      exact tr_throw (X := xIS) (names := xNs) hx hb hlocks hne h9 hown (hml.trans hl.1.symm) (by decide +kernel) (by decide +kernel) (oa_hold ht hT oa_IS) (ht _ wd_324) (ht _ wd_325) (ht _ wd_47) hqs hS ⟨(Nat.le_of_ble_eq_true rfl), (Nat.le_of_ble_eq_true rfl), (Nat.le_of_ble_eq_true rfl), (Nat.le_of_ble_eq_true rfl)⟩ d_T_fit_17 d_T_fit_20 d_T_fit_21 d_T_fit_23 d_T_fit_26
