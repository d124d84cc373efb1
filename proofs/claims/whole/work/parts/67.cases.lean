set_option maxHeartbeats 4000000 in
set_option maxRecDepth 100000 in
theorem lc_node {p : Program} {l : Launch} {e : Env} {s : State} {m : MethodId} {below : List Frame} {meth : Method} {c : Code} (h9 : l.stackTraces = false) {b L : Nat} {xs : Nat → Int32} (hL : L ≤ 3072) (C0 : lw_At p s m meth c b L xs) (hN : tW s) (hT : tT s) (hNc : va_Nc xIS xIA s) {D : va_G} {adC adR : Nat → Nat} {taC taR : Nat → ClassId} {o : Nat} {cO : ClassId} (hJ : lJ s adC adR o) (hK : va_K D clS (tyC taC ++ [(cO, .long)]) s) (hKR : va_K D clS (tyR taR) s) {i : Nat} (hi : i + 6 ≤ L) {σ τ τ' : tS} {f : Nat → Int64} {res : Int32 × tS × (Nat → Int64)} {bb : Int32} (hc : lf_node  σ f = some res) (hr : mf_R_node  τ = some (bb, τ')) (hth : mf_R_thrown τ' = some (res.1, τ')) (heq : res.1 = 0 → res.2.2 0 = bb.toInt64) {H : Heap} {locs : List Loc} {cells slots : Nat} (hcs : cells + 1 ≤ 601024 ∧ slots + 6 ≤ 7293034) (hP : va_P D clS (cwC adC taC σ ++ lO o cO f) H) (hR : va_P D clS (cwR adR taR τ) H) (hS : va_S (lB s) s.heap H locs) {ls : Array Slot} (hl : lv_has ls 7 [(0, .ref b), (1, .ref (adC 0)), (2, .ref (adR 0)), (3, .ref o), (4, .int (nI i))]) (kk : ∀ (H : Heap) (locs : List Loc) (ls : Array Slot), va_P D clS (cwC adC taC res.2.1 ++ lO o cO res.2.2) H → va_P D clS (cwR adR taR τ') H → va_S (lB s) s.heap H locs → lv_has ls 7 [(0, .ref b), (1, .ref (adC 0)), (2, .ref (adR 0)), (3, .ref o), (4, .int (nI i))] → W p l e room_1 s m #[Value.ref b] below meth c H locs (cells + 1) (slots + 6) (lw_Z below #[Value.ref b] s) (F0 m 1609 ls [])) : W p l e room_1 s m #[Value.ref b] below meth c H locs cells slots (lw_Z below #[Value.ref b] s) (F0 m 140 ls []) := by
  obtain ⟨hx, hb, hr0, hml, hown, hts, hX, hbl, hlocks, hgv⟩ := id C0
  have ht : ∀ w ∈ tw, w.before #[Value.ref b] s = true := fun w h => hts w (tw_in h)
  have hbA : ¬ lB s b := Nat.not_le.mpr hbl
  refine lv_aload_n hx hb d_law_140 rfl (lv_at hl 1 rfl) ?_
  refine lv_aload_n hx hb d_law_141 rfl (lv_at hl 3 rfl) ?_
  refine tr_call (tr_runSW (As := [.ref (adC 0), .ref o]) (rest := []) ⟨hx, hb, hml, hown, ht⟩ (lm_node l h9 hJ.1 hJ.2.2.1 hc) ⟨rfl, rfl, (Nat.le_of_ble_eq_true rfl), (Nat.le_of_ble_eq_true rfl), pay_in ht (tw_G wl_node), List.mem_cons_self⟩ (ht _ wl_node) (ht _ wd_33) (ht _ wd_316) (ht _ wd_317) (by decide +kernel) (show (parseMethodDescriptor y_L_node.desc).map (fun d => d.parameters.length) = some 2 by decide +kernel) ⟨lP_blind, fun U hU hW => ⟨rfl, by rw [hU]; exact hP, va_K.moved hW.alike hK, tW_warm hW hN, tT_law hT hS hU hW, va_Nc.moved hW.alike hNc⟩⟩ rfl hl.1 rfl (lv_room (Nat.le_of_ble_eq_true rfl)) d_law_142 hcs) hS (lc_in hJ) (lc_in hJ) (fun H locs hP hk hz hS => ?_)
  replace hR := lr_kept hJ hR hk
  refine W.eq (g2 := F0 m 145 ls [.int res.1]) rfl ?_
  refine lv_istore (lv' := [(5, .int res.1), (0, .ref b), (1, .ref (adC 0)), (2, .ref (adR 0)), (3, .ref o), (4, .int (nI i))]) hx hb d_law_145 hl (by decide) rfl (fun ls hl => ?_)
  refine lv_aload_n hx hb d_law_147 rfl (lv_at hl 3 rfl) ?_
  refine tr_call (va_runV (C := R_R) (As := []) (rest := []) ⟨hx, hb, hml, hown, ht⟩ (mc_R_node l hJ.2.1 hr) ⟨(tw_cb (n := 0) ht wc_R_node wd_43 wd_778 ⟨rfl, rfl⟩ (by decide +kernel) ⟨(Nat.le_of_ble_eq_true rfl), (Nat.le_of_ble_eq_true rfl)⟩), ht _ wd_779, ht _ wd_780⟩ ⟨tP_blind, va_recv hKR hR (ci := 8) (q0 := 0) rfl rfl, fun U hU hW => ⟨rfl, by rw [hU]; exact hR, va_K.moved hW.alike hKR, tW_warm hW hN⟩⟩ rfl rfl hl.1 rfl (lv_room (Nat.le_of_ble_eq_true rfl)) d_law_148 hcs) hS (lr_in hJ) (lr_in hJ) (fun H locs hR hk hz hS => ?_)
  replace hP := lc_kept hJ (fun _ h => h) hP hk
  refine W.eq (g2 := F0 m 151 ls [.int bb]) rfl ?_
  refine lv_istore (lv' := [(6, .int bb), (5, .int res.1), (0, .ref b), (1, .ref (adC 0)), (2, .ref (adR 0)), (3, .ref o), (4, .int (nI i))]) hx hb d_law_151 hl (by decide) rfl (fun ls hl => ?_)
  refine lv_aload_n hx hb d_law_153 rfl (lv_at hl 4 rfl) ?_
  refine tr_call (va_runV (C := R_R) (As := []) (rest := []) ⟨hx, hb, hml, hown, ht⟩ (mc_R_thrown l hJ.2.1 hth) ⟨(tw_cb (n := 0) ht wc_R_thrown wd_43 wd_774 ⟨rfl, rfl⟩ (by decide +kernel) ⟨(Nat.le_of_ble_eq_true rfl), (Nat.le_of_ble_eq_true rfl)⟩), ht _ wd_775, ht _ wd_776⟩ ⟨tP_blind, va_recv hKR hR (ci := 8) (q0 := 0) rfl rfl, fun U hU hW => ⟨rfl, by rw [hU]; exact hR, va_K.moved hW.alike hKR, tW_warm hW hN⟩⟩ rfl rfl hl.1 rfl (lv_room (Nat.le_of_ble_eq_true rfl)) d_law_154 hcs) hS (fun _ h => h.elim) (fun _ h => h.elim) (fun H locs hR hk hz hS => ?_)
  replace hP := lc_kept hJ (fun _ h => h.elim) hP hk
  refine W.eq (g2 := F0 m 157 ls [.int res.1]) rfl ?_
  refine lv_iload hx hb d_law_157 (lv_at hl 1 rfl) ?_
  refine lv_icmp_eq (tgt := 164) hx hb d_law_159 (by decide) (fun _ => ?_) (fun h => absurd rfl h)
  refine lv_iload hx hb d_law_164 (lv_at hl 1 rfl) ?_
  refine lv_if_ne (tgt := 181) hx hb d_law_166 (by decide) (fun hk0 => ?_) (fun hk0 => ?_)
  · refine lv_goto (tgt := 1609) hx hb d_law_181 (by decide) ?_
    exact kk _ _ _ hP hR hS (lv_sub hl [2, 3, 4, 5, 6] rfl)
  · refine lv_aload_n hx hb d_law_169 rfl (lv_at hl 5 rfl) ?_
    refine lv_iconst (v := (0 : Int32)) hx hb d_law_170 (by decide) ?_
    refine va_lald (f := res.2.2) hx hb hK hP 37 28 rfl rfl vp_in01 d_law_171 ?_
    refine lv_iload hx hb d_law_172 (lv_at hl 0 rfl) ?_
    refine lv_i2l hx hb d_law_174 rfl ?_
    refine W.lcmp hx hb d_law_175 ?_
    refine lv_if_eq (tgt := 181) hx hb d_law_176 (by decide) (fun _ => ?_) (fun h => absurd ((lg_cmp_eq _ _).mpr (heq hk0)) h)
    refine lv_goto (tgt := 1609) hx hb d_law_181 (by decide) ?_
    exact kk _ _ _ hP hR hS (lv_sub hl [2, 3, 4, 5, 6] rfl)
set_option maxHeartbeats 4000000 in
set_option maxRecDepth 100000 in
theorem lc_zone {p : Program} {l : Launch} {e : Env} {s : State} {m : MethodId} {below : List Frame} {meth : Method} {c : Code} (h9 : l.stackTraces = false) {b L : Nat} {xs : Nat → Int32} (hL : L ≤ 3072) (C0 : lw_At p s m meth c b L xs) (hN : tW s) (hT : tT s) (hNc : va_Nc xIS xIA s) {D : va_G} {adC adR : Nat → Nat} {taC taR : Nat → ClassId} {o : Nat} {cO : ClassId} (hJ : lJ s adC adR o) (hK : va_K D clS (tyC taC ++ [(cO, .long)]) s) (hKR : va_K D clS (tyR taR) s) {i : Nat} (hi : i + 6 ≤ L) {σ τ τ' : tS} {f : Nat → Int64} {res : Int32 × tS × (Nat → Int64)} {bb : Int32} (hc : lf_zone (xs (nI i + (1 : Int32)).toNatClampNeg) (xs (nI i + (2 : Int32)).toNatClampNeg) (xs (nI i + (3 : Int32)).toNatClampNeg) σ f = some res) (hr : mf_R_zone (xs (nI i + (1 : Int32)).toNatClampNeg) (xs (nI i + (2 : Int32)).toNatClampNeg) (xs (nI i + (3 : Int32)).toNatClampNeg) τ = some (bb, τ')) (hth : mf_R_thrown τ' = some (res.1, τ')) (heq : res.1 = 0 → res.2.2 0 = bb.toInt64) {H : Heap} {locs : List Loc} {cells slots : Nat} (hcs : cells + 1 ≤ 601024 ∧ slots + 6 ≤ 7293034) (hP : va_P D clS (cwC adC taC σ ++ lO o cO f) H) (hR : va_P D clS (cwR adR taR τ) H) (hS : va_S (lB s) s.heap H locs) {ls : Array Slot} (hl : lv_has ls 7 [(0, .ref b), (1, .ref (adC 0)), (2, .ref (adR 0)), (3, .ref o), (4, .int (nI i))]) (kk : ∀ (H : Heap) (locs : List Loc) (ls : Array Slot), va_P D clS (cwC adC taC res.2.1 ++ lO o cO res.2.2) H → va_P D clS (cwR adR taR τ') H → va_S (lB s) s.heap H locs → lv_has ls 7 [(0, .ref b), (1, .ref (adC 0)), (2, .ref (adR 0)), (3, .ref o), (4, .int (nI i))] → W p l e room_1 s m #[Value.ref b] below meth c H locs (cells + 1) (slots + 6) (lw_Z below #[Value.ref b] s) (F0 m 1609 ls [])) : W p l e room_1 s m #[Value.ref b] below meth c H locs cells slots (lw_Z below #[Value.ref b] s) (F0 m 184 ls []) := by
  obtain ⟨hx, hb, hr0, hml, hown, hts, hX, hbl, hlocks, hgv⟩ := id C0
  have ht : ∀ w ∈ tw, w.before #[Value.ref b] s = true := fun w h => hts w (tw_in h)
  have hbA : ¬ lB s b := Nat.not_le.mpr hbl
  have hi1 : vp_in (nI i + (1 : Int32)) L := li_in (k := 1) (by decide) (by omega) hL
  have hi2 : vp_in (nI i + (2 : Int32)) L := li_in (k := 2) (by decide) (by omega) hL
  have hi3 : vp_in (nI i + (3 : Int32)) L := li_in (k := 3) (by decide) (by omega) hL
  refine lv_aload_n hx hb d_law_184 rfl (lv_at hl 1 rfl) ?_
  refine lv_aload_n hx hb d_law_185 rfl (lv_at hl 0 rfl) ?_
  refine lv_iload hx hb d_law_186 (lv_at hl 4 rfl) ?_
  refine lv_iconst (v := (1 : Int32)) hx hb d_law_188 (by decide) ?_
  refine lv_iadd hx hb d_law_189 ?_
  refine va_sld hx hb hX hbl hbA hS hi1 d_law_190 ?_
  refine lv_aload_n hx hb d_law_191 rfl (lv_at hl 0 rfl) ?_
  refine lv_iload hx hb d_law_192 (lv_at hl 4 rfl) ?_
  refine lv_iconst (v := (2 : Int32)) hx hb d_law_194 (by decide) ?_
  refine lv_iadd hx hb d_law_195 ?_
  refine va_sld hx hb hX hbl hbA hS hi2 d_law_196 ?_
  refine lv_aload_n hx hb d_law_197 rfl (lv_at hl 0 rfl) ?_
  refine lv_iload hx hb d_law_198 (lv_at hl 4 rfl) ?_
  refine lv_iconst (v := (3 : Int32)) hx hb d_law_200 (by decide) ?_
  refine lv_iadd hx hb d_law_201 ?_
  refine va_sld hx hb hX hbl hbA hS hi3 d_law_202 ?_
  refine lv_aload_n hx hb d_law_203 rfl (lv_at hl 3 rfl) ?_
  refine tr_call (tr_runSW (As := [.ref (adC 0), .int (xs (nI i + (1 : Int32)).toNatClampNeg), .int (xs (nI i + (2 : Int32)).toNatClampNeg), .int (xs (nI i + (3 : Int32)).toNatClampNeg), .ref o]) (rest := []) ⟨hx, hb, hml, hown, ht⟩ (lm_zone l h9 hJ.1 hJ.2.2.1 hc) ⟨rfl, rfl, (Nat.le_of_ble_eq_true rfl), (Nat.le_of_ble_eq_true rfl), pay_in ht (tw_G wl_zone), List.mem_cons_self⟩ (ht _ wl_zone) (ht _ wd_33) (ht _ wd_391) (ht _ wd_392) (by decide +kernel) (show (parseMethodDescriptor y_L_zone.desc).map (fun d => d.parameters.length) = some 5 by decide +kernel) ⟨lP_blind, fun U hU hW => ⟨rfl, by rw [hU]; exact hP, va_K.moved hW.alike hK, tW_warm hW hN, tT_law hT hS hU hW, va_Nc.moved hW.alike hNc⟩⟩ rfl hl.1 rfl (lv_room (Nat.le_of_ble_eq_true rfl)) d_law_204 hcs) hS (lc_in hJ) (lc_in hJ) (fun H locs hP hk hz hS => ?_)
  replace hR := lr_kept hJ hR hk
  refine W.eq (g2 := F0 m 207 ls [.int res.1]) rfl ?_
  refine lv_istore (lv' := [(5, .int res.1), (0, .ref b), (1, .ref (adC 0)), (2, .ref (adR 0)), (3, .ref o), (4, .int (nI i))]) hx hb d_law_207 hl (by decide) rfl (fun ls hl => ?_)
  refine lv_aload_n hx hb d_law_209 rfl (lv_at hl 3 rfl) ?_
  refine lv_aload_n hx hb d_law_210 rfl (lv_at hl 1 rfl) ?_
  refine lv_iload hx hb d_law_211 (lv_at hl 5 rfl) ?_
  refine lv_iconst (v := (1 : Int32)) hx hb d_law_213 (by decide) ?_
  refine lv_iadd hx hb d_law_214 ?_
  refine va_sld hx hb hX hbl hbA hS hi1 d_law_215 ?_
  refine lv_aload_n hx hb d_law_216 rfl (lv_at hl 1 rfl) ?_
  refine lv_iload hx hb d_law_217 (lv_at hl 5 rfl) ?_
  refine lv_iconst (v := (2 : Int32)) hx hb d_law_219 (by decide) ?_
  refine lv_iadd hx hb d_law_220 ?_
  refine va_sld hx hb hX hbl hbA hS hi2 d_law_221 ?_
  refine lv_aload_n hx hb d_law_222 rfl (lv_at hl 1 rfl) ?_
  refine lv_iload hx hb d_law_223 (lv_at hl 5 rfl) ?_
  refine lv_iconst (v := (3 : Int32)) hx hb d_law_225 (by decide) ?_
  refine lv_iadd hx hb d_law_226 ?_
  refine va_sld hx hb hX hbl hbA hS hi3 d_law_227 ?_
  refine tr_call (va_runV (C := R_R) (As := [.int (xs (nI i + (1 : Int32)).toNatClampNeg), .int (xs (nI i + (2 : Int32)).toNatClampNeg), .int (xs (nI i + (3 : Int32)).toNatClampNeg)]) (rest := []) ⟨hx, hb, hml, hown, ht⟩ (mc_R_zone l hJ.2.1 hr) ⟨(tw_cb (n := 3) ht wc_R_zone wd_43 wd_782 ⟨rfl, rfl⟩ (by decide +kernel) ⟨(Nat.le_of_ble_eq_true rfl), (Nat.le_of_ble_eq_true rfl)⟩), ht _ wd_783, ht _ wd_784⟩ ⟨tP_blind, va_recv hKR hR (ci := 8) (q0 := 0) rfl rfl, fun U hU hW => ⟨rfl, by rw [hU]; exact hR, va_K.moved hW.alike hKR, tW_warm hW hN⟩⟩ rfl rfl hl.1 rfl (lv_room (Nat.le_of_ble_eq_true rfl)) d_law_228 hcs) hS (lr_in hJ) (lr_in hJ) (fun H locs hR hk hz hS => ?_)
  replace hP := lc_kept hJ (fun _ h => h) hP hk
  refine W.eq (g2 := F0 m 231 ls [.int bb]) rfl ?_
  refine lv_istore (lv' := [(6, .int bb), (5, .int res.1), (0, .ref b), (1, .ref (adC 0)), (2, .ref (adR 0)), (3, .ref o), (4, .int (nI i))]) hx hb d_law_231 hl (by decide) rfl (fun ls hl => ?_)
  refine lv_aload_n hx hb d_law_233 rfl (lv_at hl 4 rfl) ?_
  refine tr_call (va_runV (C := R_R) (As := []) (rest := []) ⟨hx, hb, hml, hown, ht⟩ (mc_R_thrown l hJ.2.1 hth) ⟨(tw_cb (n := 0) ht wc_R_thrown wd_43 wd_774 ⟨rfl, rfl⟩ (by decide +kernel) ⟨(Nat.le_of_ble_eq_true rfl), (Nat.le_of_ble_eq_true rfl)⟩), ht _ wd_775, ht _ wd_776⟩ ⟨tP_blind, va_recv hKR hR (ci := 8) (q0 := 0) rfl rfl, fun U hU hW => ⟨rfl, by rw [hU]; exact hR, va_K.moved hW.alike hKR, tW_warm hW hN⟩⟩ rfl rfl hl.1 rfl (lv_room (Nat.le_of_ble_eq_true rfl)) d_law_234 hcs) hS (fun _ h => h.elim) (fun _ h => h.elim) (fun H locs hR hk hz hS => ?_)
  replace hP := lc_kept hJ (fun _ h => h.elim) hP hk
  refine W.eq (g2 := F0 m 237 ls [.int res.1]) rfl ?_
  refine lv_iload hx hb d_law_237 (lv_at hl 1 rfl) ?_
  refine lv_icmp_eq (tgt := 244) hx hb d_law_239 (by decide) (fun _ => ?_) (fun h => absurd rfl h)
  refine lv_iload hx hb d_law_244 (lv_at hl 1 rfl) ?_
  refine lv_if_ne (tgt := 261) hx hb d_law_246 (by decide) (fun hk0 => ?_) (fun hk0 => ?_)
  · refine lv_goto (tgt := 1609) hx hb d_law_261 (by decide) ?_
    exact kk _ _ _ hP hR hS (lv_sub hl [2, 3, 4, 5, 6] rfl)
  · refine lv_aload_n hx hb d_law_249 rfl (lv_at hl 5 rfl) ?_
    refine lv_iconst (v := (0 : Int32)) hx hb d_law_250 (by decide) ?_
    refine va_lald (f := res.2.2) hx hb hK hP 37 28 rfl rfl vp_in01 d_law_251 ?_
    refine lv_iload hx hb d_law_252 (lv_at hl 0 rfl) ?_
    refine lv_i2l hx hb d_law_254 rfl ?_
    refine W.lcmp hx hb d_law_255 ?_
    refine lv_if_eq (tgt := 261) hx hb d_law_256 (by decide) (fun _ => ?_) (fun h => absurd ((lg_cmp_eq _ _).mpr (heq hk0)) h)
    refine lv_goto (tgt := 1609) hx hb d_law_261 (by decide) ?_
    exact kk _ _ _ hP hR hS (lv_sub hl [2, 3, 4, 5, 6] rfl)
set_option maxHeartbeats 4000000 in
set_option maxRecDepth 100000 in
theorem lc_street {p : Program} {l : Launch} {e : Env} {s : State} {m : MethodId} {below : List Frame} {meth : Method} {c : Code} (h9 : l.stackTraces = false) {b L : Nat} {xs : Nat → Int32} (hL : L ≤ 3072) (C0 : lw_At p s m meth c b L xs) (hN : tW s) (hT : tT s) (hNc : va_Nc xIS xIA s) {D : va_G} {adC adR : Nat → Nat} {taC taR : Nat → ClassId} {o : Nat} {cO : ClassId} (hJ : lJ s adC adR o) (hK : va_K D clS (tyC taC ++ [(cO, .long)]) s) (hKR : va_K D clS (tyR taR) s) {i : Nat} (hi : i + 6 ≤ L) {σ τ τ' : tS} {f : Nat → Int64} {res : Int32 × tS × (Nat → Int64)} {bb : Int32} (hc : lf_street (xs (nI i + (1 : Int32)).toNatClampNeg) (xs (nI i + (2 : Int32)).toNatClampNeg) (xs (nI i + (3 : Int32)).toNatClampNeg) (xs (nI i + (4 : Int32)).toNatClampNeg) (xs (nI i + (5 : Int32)).toNatClampNeg) σ f = some res) (hr : mf_R_street (xs (nI i + (1 : Int32)).toNatClampNeg) (xs (nI i + (2 : Int32)).toNatClampNeg) (xs (nI i + (3 : Int32)).toNatClampNeg) (xs (nI i + (4 : Int32)).toNatClampNeg) (xs (nI i + (5 : Int32)).toNatClampNeg) τ = some (bb, τ')) (hth : mf_R_thrown τ' = some (res.1, τ')) (heq : res.1 = 0 → res.2.2 0 = bb.toInt64) {H : Heap} {locs : List Loc} {cells slots : Nat} (hcs : cells + 1 ≤ 601024 ∧ slots + 6 ≤ 7293034) (hP : va_P D clS (cwC adC taC σ ++ lO o cO f) H) (hR : va_P D clS (cwR adR taR τ) H) (hS : va_S (lB s) s.heap H locs) {ls : Array Slot} (hl : lv_has ls 7 [(0, .ref b), (1, .ref (adC 0)), (2, .ref (adR 0)), (3, .ref o), (4, .int (nI i))]) (kk : ∀ (H : Heap) (locs : List Loc) (ls : Array Slot), va_P D clS (cwC adC taC res.2.1 ++ lO o cO res.2.2) H → va_P D clS (cwR adR taR τ') H → va_S (lB s) s.heap H locs → lv_has ls 7 [(0, .ref b), (1, .ref (adC 0)), (2, .ref (adR 0)), (3, .ref o), (4, .int (nI i))] → W p l e room_1 s m #[Value.ref b] below meth c H locs (cells + 1) (slots + 6) (lw_Z below #[Value.ref b] s) (F0 m 1609 ls [])) : W p l e room_1 s m #[Value.ref b] below meth c H locs cells slots (lw_Z below #[Value.ref b] s) (F0 m 264 ls []) := by
  obtain ⟨hx, hb, hr0, hml, hown, hts, hX, hbl, hlocks, hgv⟩ := id C0
  have ht : ∀ w ∈ tw, w.before #[Value.ref b] s = true := fun w h => hts w (tw_in h)
  have hbA : ¬ lB s b := Nat.not_le.mpr hbl
  have hi1 : vp_in (nI i + (1 : Int32)) L := li_in (k := 1) (by decide) (by omega) hL
  have hi2 : vp_in (nI i + (2 : Int32)) L := li_in (k := 2) (by decide) (by omega) hL
  have hi3 : vp_in (nI i + (3 : Int32)) L := li_in (k := 3) (by decide) (by omega) hL
  have hi4 : vp_in (nI i + (4 : Int32)) L := li_in (k := 4) (by decide) (by omega) hL
  have hi5 : vp_in (nI i + (5 : Int32)) L := li_in (k := 5) (by decide) (by omega) hL
  refine lv_aload_n hx hb d_law_264 rfl (lv_at hl 1 rfl) ?_
  refine lv_aload_n hx hb d_law_265 rfl (lv_at hl 0 rfl) ?_
  refine lv_iload hx hb d_law_266 (lv_at hl 4 rfl) ?_
  refine lv_iconst (v := (1 : Int32)) hx hb d_law_268 (by decide) ?_
  refine lv_iadd hx hb d_law_269 ?_
  refine va_sld hx hb hX hbl hbA hS hi1 d_law_270 ?_
  refine lv_aload_n hx hb d_law_271 rfl (lv_at hl 0 rfl) ?_
  refine lv_iload hx hb d_law_272 (lv_at hl 4 rfl) ?_
  refine lv_iconst (v := (2 : Int32)) hx hb d_law_274 (by decide) ?_
  refine lv_iadd hx hb d_law_275 ?_
  refine va_sld hx hb hX hbl hbA hS hi2 d_law_276 ?_
  refine lv_aload_n hx hb d_law_277 rfl (lv_at hl 0 rfl) ?_
  refine lv_iload hx hb d_law_278 (lv_at hl 4 rfl) ?_
  refine lv_iconst (v := (3 : Int32)) hx hb d_law_280 (by decide) ?_
  refine lv_iadd hx hb d_law_281 ?_
  refine va_sld hx hb hX hbl hbA hS hi3 d_law_282 ?_
  refine lv_aload_n hx hb d_law_283 rfl (lv_at hl 0 rfl) ?_
  refine lv_iload hx hb d_law_284 (lv_at hl 4 rfl) ?_
  refine lv_iconst (v := (4 : Int32)) hx hb d_law_286 (by decide) ?_
  refine lv_iadd hx hb d_law_287 ?_
  refine va_sld hx hb hX hbl hbA hS hi4 d_law_288 ?_
  refine lv_aload_n hx hb d_law_289 rfl (lv_at hl 0 rfl) ?_
  refine lv_iload hx hb d_law_290 (lv_at hl 4 rfl) ?_
  refine lv_iconst (v := (5 : Int32)) hx hb d_law_292 (by decide) ?_
  refine lv_iadd hx hb d_law_293 ?_
  refine va_sld hx hb hX hbl hbA hS hi5 d_law_294 ?_
  refine lv_aload_n hx hb d_law_295 rfl (lv_at hl 3 rfl) ?_
  refine tr_call (tr_runSW (As := [.ref (adC 0), .int (xs (nI i + (1 : Int32)).toNatClampNeg), .int (xs (nI i + (2 : Int32)).toNatClampNeg), .int (xs (nI i + (3 : Int32)).toNatClampNeg), .int (xs (nI i + (4 : Int32)).toNatClampNeg), .int (xs (nI i + (5 : Int32)).toNatClampNeg), .ref o]) (rest := []) ⟨hx, hb, hml, hown, ht⟩ (lm_street l h9 hJ.1 hJ.2.2.1 hc) ⟨rfl, rfl, (Nat.le_of_ble_eq_true rfl), (Nat.le_of_ble_eq_true rfl), pay_in ht (tw_G wl_street), List.mem_cons_self⟩ (ht _ wl_street) (ht _ wd_33) (ht _ wd_429) (ht _ wd_430) (by decide +kernel) (show (parseMethodDescriptor y_L_street.desc).map (fun d => d.parameters.length) = some 7 by decide +kernel) ⟨lP_blind, fun U hU hW => ⟨rfl, by rw [hU]; exact hP, va_K.moved hW.alike hK, tW_warm hW hN, tT_law hT hS hU hW, va_Nc.moved hW.alike hNc⟩⟩ rfl hl.1 rfl (lv_room (Nat.le_of_ble_eq_true rfl)) d_law_296 hcs) hS (lc_in hJ) (lc_in hJ) (fun H locs hP hk hz hS => ?_)
  replace hR := lr_kept hJ hR hk
  refine W.eq (g2 := F0 m 299 ls [.int res.1]) rfl ?_
  refine lv_istore (lv' := [(5, .int res.1), (0, .ref b), (1, .ref (adC 0)), (2, .ref (adR 0)), (3, .ref o), (4, .int (nI i))]) hx hb d_law_299 hl (by decide) rfl (fun ls hl => ?_)
  refine lv_aload_n hx hb d_law_301 rfl (lv_at hl 3 rfl) ?_
  refine lv_aload_n hx hb d_law_302 rfl (lv_at hl 1 rfl) ?_
  refine lv_iload hx hb d_law_303 (lv_at hl 5 rfl) ?_
  refine lv_iconst (v := (1 : Int32)) hx hb d_law_305 (by decide) ?_
  refine lv_iadd hx hb d_law_306 ?_
  refine va_sld hx hb hX hbl hbA hS hi1 d_law_307 ?_
  refine lv_aload_n hx hb d_law_308 rfl (lv_at hl 1 rfl) ?_
  refine lv_iload hx hb d_law_309 (lv_at hl 5 rfl) ?_
  refine lv_iconst (v := (2 : Int32)) hx hb d_law_311 (by decide) ?_
  refine lv_iadd hx hb d_law_312 ?_
  refine va_sld hx hb hX hbl hbA hS hi2 d_law_313 ?_
  refine lv_aload_n hx hb d_law_314 rfl (lv_at hl 1 rfl) ?_
  refine lv_iload hx hb d_law_315 (lv_at hl 5 rfl) ?_
  refine lv_iconst (v := (3 : Int32)) hx hb d_law_317 (by decide) ?_
  refine lv_iadd hx hb d_law_318 ?_
  refine va_sld hx hb hX hbl hbA hS hi3 d_law_319 ?_
  refine lv_aload_n hx hb d_law_320 rfl (lv_at hl 1 rfl) ?_
  refine lv_iload hx hb d_law_321 (lv_at hl 5 rfl) ?_
  refine lv_iconst (v := (4 : Int32)) hx hb d_law_323 (by decide) ?_
  refine lv_iadd hx hb d_law_324 ?_
  refine va_sld hx hb hX hbl hbA hS hi4 d_law_325 ?_
  refine lv_aload_n hx hb d_law_326 rfl (lv_at hl 1 rfl) ?_
  refine lv_iload hx hb d_law_327 (lv_at hl 5 rfl) ?_
  refine lv_iconst (v := (5 : Int32)) hx hb d_law_329 (by decide) ?_
  refine lv_iadd hx hb d_law_330 ?_
  refine va_sld hx hb hX hbl hbA hS hi5 d_law_331 ?_
  refine tr_call (va_runV (C := R_R) (As := [.int (xs (nI i + (1 : Int32)).toNatClampNeg), .int (xs (nI i + (2 : Int32)).toNatClampNeg), .int (xs (nI i + (3 : Int32)).toNatClampNeg), .int (xs (nI i + (4 : Int32)).toNatClampNeg), .int (xs (nI i + (5 : Int32)).toNatClampNeg)]) (rest := []) ⟨hx, hb, hml, hown, ht⟩ (mc_R_street l hJ.2.1 hr) ⟨(tw_cb (n := 5) ht wc_R_street wd_43 wd_794 ⟨rfl, rfl⟩ (by decide +kernel) ⟨(Nat.le_of_ble_eq_true rfl), (Nat.le_of_ble_eq_true rfl)⟩), ht _ wd_795, ht _ wd_796⟩ ⟨tP_blind, va_recv hKR hR (ci := 8) (q0 := 0) rfl rfl, fun U hU hW => ⟨rfl, by rw [hU]; exact hR, va_K.moved hW.alike hKR, tW_warm hW hN⟩⟩ rfl rfl hl.1 rfl (lv_room (Nat.le_of_ble_eq_true rfl)) d_law_332 hcs) hS (lr_in hJ) (lr_in hJ) (fun H locs hR hk hz hS => ?_)
  replace hP := lc_kept hJ (fun _ h => h) hP hk
  refine W.eq (g2 := F0 m 335 ls [.int bb]) rfl ?_
  refine lv_istore (lv' := [(6, .int bb), (5, .int res.1), (0, .ref b), (1, .ref (adC 0)), (2, .ref (adR 0)), (3, .ref o), (4, .int (nI i))]) hx hb d_law_335 hl (by decide) rfl (fun ls hl => ?_)
  refine lv_aload_n hx hb d_law_337 rfl (lv_at hl 4 rfl) ?_
  refine tr_call (va_runV (C := R_R) (As := []) (rest := []) ⟨hx, hb, hml, hown, ht⟩ (mc_R_thrown l hJ.2.1 hth) ⟨(tw_cb (n := 0) ht wc_R_thrown wd_43 wd_774 ⟨rfl, rfl⟩ (by decide +kernel) ⟨(Nat.le_of_ble_eq_true rfl), (Nat.le_of_ble_eq_true rfl)⟩), ht _ wd_775, ht _ wd_776⟩ ⟨tP_blind, va_recv hKR hR (ci := 8) (q0 := 0) rfl rfl, fun U hU hW => ⟨rfl, by rw [hU]; exact hR, va_K.moved hW.alike hKR, tW_warm hW hN⟩⟩ rfl rfl hl.1 rfl (lv_room (Nat.le_of_ble_eq_true rfl)) d_law_338 hcs) hS (fun _ h => h.elim) (fun _ h => h.elim) (fun H locs hR hk hz hS => ?_)
  replace hP := lc_kept hJ (fun _ h => h.elim) hP hk
  refine W.eq (g2 := F0 m 341 ls [.int res.1]) rfl ?_
  refine lv_iload hx hb d_law_341 (lv_at hl 1 rfl) ?_
  refine lv_icmp_eq (tgt := 348) hx hb d_law_343 (by decide) (fun _ => ?_) (fun h => absurd rfl h)
  refine lv_iload hx hb d_law_348 (lv_at hl 1 rfl) ?_
  refine lv_if_ne (tgt := 365) hx hb d_law_350 (by decide) (fun hk0 => ?_) (fun hk0 => ?_)
  · refine lv_goto (tgt := 1609) hx hb d_law_365 (by decide) ?_
    exact kk _ _ _ hP hR hS (lv_sub hl [2, 3, 4, 5, 6] rfl)
  · refine lv_aload_n hx hb d_law_353 rfl (lv_at hl 5 rfl) ?_
    refine lv_iconst (v := (0 : Int32)) hx hb d_law_354 (by decide) ?_
    refine va_lald (f := res.2.2) hx hb hK hP 37 28 rfl rfl vp_in01 d_law_355 ?_
    refine lv_iload hx hb d_law_356 (lv_at hl 0 rfl) ?_
    refine lv_i2l hx hb d_law_358 rfl ?_
    refine W.lcmp hx hb d_law_359 ?_
    refine lv_if_eq (tgt := 365) hx hb d_law_360 (by decide) (fun _ => ?_) (fun h => absurd ((lg_cmp_eq _ _).mpr (heq hk0)) h)
    refine lv_goto (tgt := 1609) hx hb d_law_365 (by decide) ?_
    exact kk _ _ _ hP hR hS (lv_sub hl [2, 3, 4, 5, 6] rfl)
set_option maxHeartbeats 4000000 in
set_option maxRecDepth 100000 in
theorem lc_toll {p : Program} {l : Launch} {e : Env} {s : State} {m : MethodId} {below : List Frame} {meth : Method} {c : Code} (h9 : l.stackTraces = false) {b L : Nat} {xs : Nat → Int32} (hL : L ≤ 3072) (C0 : lw_At p s m meth c b L xs) (hN : tW s) (hT : tT s) (hNc : va_Nc xIS xIA s) {D : va_G} {adC adR : Nat → Nat} {taC taR : Nat → ClassId} {o : Nat} {cO : ClassId} (hJ : lJ s adC adR o) (hK : va_K D clS (tyC taC ++ [(cO, .long)]) s) (hKR : va_K D clS (tyR taR) s) {i : Nat} (hi : i + 6 ≤ L) {σ τ τ' : tS} {f : Nat → Int64} {res : Int32 × tS × (Nat → Int64)} {bb : Int32} (hc : lf_toll (xs (nI i + (1 : Int32)).toNatClampNeg) (xs (nI i + (2 : Int32)).toNatClampNeg) σ f = some res) (hr : mf_R_toll (xs (nI i + (1 : Int32)).toNatClampNeg) (xs (nI i + (2 : Int32)).toNatClampNeg) τ = some (bb, τ')) (hth : mf_R_thrown τ' = some (res.1, τ')) (heq : res.1 = 0 → res.2.2 0 = bb.toInt64) {H : Heap} {locs : List Loc} {cells slots : Nat} (hcs : cells + 1 ≤ 601024 ∧ slots + 6 ≤ 7293034) (hP : va_P D clS (cwC adC taC σ ++ lO o cO f) H) (hR : va_P D clS (cwR adR taR τ) H) (hS : va_S (lB s) s.heap H locs) {ls : Array Slot} (hl : lv_has ls 7 [(0, .ref b), (1, .ref (adC 0)), (2, .ref (adR 0)), (3, .ref o), (4, .int (nI i))]) (kk : ∀ (H : Heap) (locs : List Loc) (ls : Array Slot), va_P D clS (cwC adC taC res.2.1 ++ lO o cO res.2.2) H → va_P D clS (cwR adR taR τ') H → va_S (lB s) s.heap H locs → lv_has ls 7 [(0, .ref b), (1, .ref (adC 0)), (2, .ref (adR 0)), (3, .ref o), (4, .int (nI i))] → W p l e room_1 s m #[Value.ref b] below meth c H locs (cells + 1) (slots + 6) (lw_Z below #[Value.ref b] s) (F0 m 1609 ls [])) : W p l e room_1 s m #[Value.ref b] below meth c H locs cells slots (lw_Z below #[Value.ref b] s) (F0 m 368 ls []) := by
  obtain ⟨hx, hb, hr0, hml, hown, hts, hX, hbl, hlocks, hgv⟩ := id C0
  have ht : ∀ w ∈ tw, w.before #[Value.ref b] s = true := fun w h => hts w (tw_in h)
  have hbA : ¬ lB s b := Nat.not_le.mpr hbl
  have hi1 : vp_in (nI i + (1 : Int32)) L := li_in (k := 1) (by decide) (by omega) hL
  have hi2 : vp_in (nI i + (2 : Int32)) L := li_in (k := 2) (by decide) (by omega) hL
  refine lv_aload_n hx hb d_law_368 rfl (lv_at hl 1 rfl) ?_
  refine lv_aload_n hx hb d_law_369 rfl (lv_at hl 0 rfl) ?_
  refine lv_iload hx hb d_law_370 (lv_at hl 4 rfl) ?_
  refine lv_iconst (v := (1 : Int32)) hx hb d_law_372 (by decide) ?_
  refine lv_iadd hx hb d_law_373 ?_
  refine va_sld hx hb hX hbl hbA hS hi1 d_law_374 ?_
  refine lv_aload_n hx hb d_law_375 rfl (lv_at hl 0 rfl) ?_
  refine lv_iload hx hb d_law_376 (lv_at hl 4 rfl) ?_
  refine lv_iconst (v := (2 : Int32)) hx hb d_law_378 (by decide) ?_
  refine lv_iadd hx hb d_law_379 ?_
  refine va_sld hx hb hX hbl hbA hS hi2 d_law_380 ?_
  refine lv_aload_n hx hb d_law_381 rfl (lv_at hl 3 rfl) ?_
  refine tr_call (tr_runSW (As := [.ref (adC 0), .int (xs (nI i + (1 : Int32)).toNatClampNeg), .int (xs (nI i + (2 : Int32)).toNatClampNeg), .ref o]) (rest := []) ⟨hx, hb, hml, hown, ht⟩ (lm_toll l h9 hJ.1 hJ.2.2.1 hc) ⟨rfl, rfl, (Nat.le_of_ble_eq_true rfl), (Nat.le_of_ble_eq_true rfl), pay_in ht (tw_G wl_toll), List.mem_cons_self⟩ (ht _ wl_toll) (ht _ wd_33) (ht _ wd_443) (ht _ wd_444) (by decide +kernel) (show (parseMethodDescriptor y_L_toll.desc).map (fun d => d.parameters.length) = some 4 by decide +kernel) ⟨lP_blind, fun U hU hW => ⟨rfl, by rw [hU]; exact hP, va_K.moved hW.alike hK, tW_warm hW hN, tT_law hT hS hU hW, va_Nc.moved hW.alike hNc⟩⟩ rfl hl.1 rfl (lv_room (Nat.le_of_ble_eq_true rfl)) d_law_382 hcs) hS (lc_in hJ) (lc_in hJ) (fun H locs hP hk hz hS => ?_)
  replace hR := lr_kept hJ hR hk
  refine W.eq (g2 := F0 m 385 ls [.int res.1]) rfl ?_
  refine lv_istore (lv' := [(5, .int res.1), (0, .ref b), (1, .ref (adC 0)), (2, .ref (adR 0)), (3, .ref o), (4, .int (nI i))]) hx hb d_law_385 hl (by decide) rfl (fun ls hl => ?_)
  refine lv_aload_n hx hb d_law_387 rfl (lv_at hl 3 rfl) ?_
  refine lv_aload_n hx hb d_law_388 rfl (lv_at hl 1 rfl) ?_
  refine lv_iload hx hb d_law_389 (lv_at hl 5 rfl) ?_
  refine lv_iconst (v := (1 : Int32)) hx hb d_law_391 (by decide) ?_
  refine lv_iadd hx hb d_law_392 ?_
  refine va_sld hx hb hX hbl hbA hS hi1 d_law_393 ?_
  refine lv_aload_n hx hb d_law_394 rfl (lv_at hl 1 rfl) ?_
  refine lv_iload hx hb d_law_395 (lv_at hl 5 rfl) ?_
  refine lv_iconst (v := (2 : Int32)) hx hb d_law_397 (by decide) ?_
  refine lv_iadd hx hb d_law_398 ?_
  refine va_sld hx hb hX hbl hbA hS hi2 d_law_399 ?_
  refine tr_call (va_runV (C := R_R) (As := [.int (xs (nI i + (1 : Int32)).toNatClampNeg), .int (xs (nI i + (2 : Int32)).toNatClampNeg)]) (rest := []) ⟨hx, hb, hml, hown, ht⟩ (mc_R_toll l hJ.2.1 hr) ⟨(tw_cb (n := 2) ht wc_R_toll wd_43 wd_799 ⟨rfl, rfl⟩ (by decide +kernel) ⟨(Nat.le_of_ble_eq_true rfl), (Nat.le_of_ble_eq_true rfl)⟩), ht _ wd_800, ht _ wd_801⟩ ⟨tP_blind, va_recv hKR hR (ci := 8) (q0 := 0) rfl rfl, fun U hU hW => ⟨rfl, by rw [hU]; exact hR, va_K.moved hW.alike hKR, tW_warm hW hN⟩⟩ rfl rfl hl.1 rfl (lv_room (Nat.le_of_ble_eq_true rfl)) d_law_400 hcs) hS (lr_in hJ) (lr_in hJ) (fun H locs hR hk hz hS => ?_)
  replace hP := lc_kept hJ (fun _ h => h) hP hk
  refine W.eq (g2 := F0 m 403 ls [.int bb]) rfl ?_
  refine lv_istore (lv' := [(6, .int bb), (5, .int res.1), (0, .ref b), (1, .ref (adC 0)), (2, .ref (adR 0)), (3, .ref o), (4, .int (nI i))]) hx hb d_law_403 hl (by decide) rfl (fun ls hl => ?_)
  refine lv_aload_n hx hb d_law_405 rfl (lv_at hl 4 rfl) ?_
  refine tr_call (va_runV (C := R_R) (As := []) (rest := []) ⟨hx, hb, hml, hown, ht⟩ (mc_R_thrown l hJ.2.1 hth) ⟨(tw_cb (n := 0) ht wc_R_thrown wd_43 wd_774 ⟨rfl, rfl⟩ (by decide +kernel) ⟨(Nat.le_of_ble_eq_true rfl), (Nat.le_of_ble_eq_true rfl)⟩), ht _ wd_775, ht _ wd_776⟩ ⟨tP_blind, va_recv hKR hR (ci := 8) (q0 := 0) rfl rfl, fun U hU hW => ⟨rfl, by rw [hU]; exact hR, va_K.moved hW.alike hKR, tW_warm hW hN⟩⟩ rfl rfl hl.1 rfl (lv_room (Nat.le_of_ble_eq_true rfl)) d_law_406 hcs) hS (fun _ h => h.elim) (fun _ h => h.elim) (fun H locs hR hk hz hS => ?_)
  replace hP := lc_kept hJ (fun _ h => h.elim) hP hk
  refine W.eq (g2 := F0 m 409 ls [.int res.1]) rfl ?_
  refine lv_iload hx hb d_law_409 (lv_at hl 1 rfl) ?_
  refine lv_icmp_eq (tgt := 416) hx hb d_law_411 (by decide) (fun _ => ?_) (fun h => absurd rfl h)
  refine lv_iload hx hb d_law_416 (lv_at hl 1 rfl) ?_
  refine lv_if_ne (tgt := 433) hx hb d_law_418 (by decide) (fun hk0 => ?_) (fun hk0 => ?_)
  · refine lv_goto (tgt := 1609) hx hb d_law_433 (by decide) ?_
    exact kk _ _ _ hP hR hS (lv_sub hl [2, 3, 4, 5, 6] rfl)
  · refine lv_aload_n hx hb d_law_421 rfl (lv_at hl 5 rfl) ?_
    refine lv_iconst (v := (0 : Int32)) hx hb d_law_422 (by decide) ?_
    refine va_lald (f := res.2.2) hx hb hK hP 37 28 rfl rfl vp_in01 d_law_423 ?_
    refine lv_iload hx hb d_law_424 (lv_at hl 0 rfl) ?_
    refine lv_i2l hx hb d_law_426 rfl ?_
    refine W.lcmp hx hb d_law_427 ?_
    refine lv_if_eq (tgt := 433) hx hb d_law_428 (by decide) (fun _ => ?_) (fun h => absurd ((lg_cmp_eq _ _).mpr (heq hk0)) h)
    refine lv_goto (tgt := 1609) hx hb d_law_433 (by decide) ?_
    exact kk _ _ _ hP hR hS (lv_sub hl [2, 3, 4, 5, 6] rfl)
set_option maxHeartbeats 4000000 in
set_option maxRecDepth 100000 in
theorem lc_open {p : Program} {l : Launch} {e : Env} {s : State} {m : MethodId} {below : List Frame} {meth : Method} {c : Code} (h9 : l.stackTraces = false) {b L : Nat} {xs : Nat → Int32} (hL : L ≤ 3072) (C0 : lw_At p s m meth c b L xs) (hN : tW s) (hT : tT s) (hNc : va_Nc xIS xIA s) {D : va_G} {adC adR : Nat → Nat} {taC taR : Nat → ClassId} {o : Nat} {cO : ClassId} (hJ : lJ s adC adR o) (hK : va_K D clS (tyC taC ++ [(cO, .long)]) s) (hKR : va_K D clS (tyR taR) s) {i : Nat} (hi : i + 6 ≤ L) {σ τ τ' : tS} {f : Nat → Int64} {p1 : Int32} (hp1 : (if (xs (nI i + (2 : Int32)).toNatClampNeg) = 0 then (0 : Int32) else 1) = p1) {res : Int32 × tS × (Nat → Int64)} {bb : Int32} (hc : lf_open (xs (nI i + (1 : Int32)).toNatClampNeg) p1 σ f = some res) (hr : mf_R_open (xs (nI i + (1 : Int32)).toNatClampNeg) p1 τ = some (bb, τ')) (hth : mf_R_thrown τ' = some (res.1, τ')) (heq : res.1 = 0 → res.2.2 0 = (if bb = 0 then 0 else 1)) {H : Heap} {locs : List Loc} {cells slots : Nat} (hcs : cells + 1 ≤ 601024 ∧ slots + 6 ≤ 7293034) (hP : va_P D clS (cwC adC taC σ ++ lO o cO f) H) (hR : va_P D clS (cwR adR taR τ) H) (hS : va_S (lB s) s.heap H locs) {ls : Array Slot} (hl : lv_has ls 7 [(0, .ref b), (1, .ref (adC 0)), (2, .ref (adR 0)), (3, .ref o), (4, .int (nI i))]) (kk : ∀ (H : Heap) (locs : List Loc) (ls : Array Slot), va_P D clS (cwC adC taC res.2.1 ++ lO o cO res.2.2) H → va_P D clS (cwR adR taR τ') H → va_S (lB s) s.heap H locs → lv_has ls 7 [(0, .ref b), (1, .ref (adC 0)), (2, .ref (adR 0)), (3, .ref o), (4, .int (nI i))] → W p l e room_1 s m #[Value.ref b] below meth c H locs (cells + 1) (slots + 6) (lw_Z below #[Value.ref b] s) (F0 m 1609 ls [])) : W p l e room_1 s m #[Value.ref b] below meth c H locs cells slots (lw_Z below #[Value.ref b] s) (F0 m 436 ls []) := by
  obtain ⟨hx, hb, hr0, hml, hown, hts, hX, hbl, hlocks, hgv⟩ := id C0
  have ht : ∀ w ∈ tw, w.before #[Value.ref b] s = true := fun w h => hts w (tw_in h)
  have hbA : ¬ lB s b := Nat.not_le.mpr hbl
  have hi1 : vp_in (nI i + (1 : Int32)) L := li_in (k := 1) (by decide) (by omega) hL
  have hi2 : vp_in (nI i + (2 : Int32)) L := li_in (k := 2) (by decide) (by omega) hL
  by_cases hf0 : (xs (nI i + (2 : Int32)).toNatClampNeg) = 0
  · rw [if_pos hf0] at hp1
    subst hp1
    refine lv_aload_n hx hb d_law_436 rfl (lv_at hl 1 rfl) ?_
    refine lv_aload_n hx hb d_law_437 rfl (lv_at hl 0 rfl) ?_
    refine lv_iload hx hb d_law_438 (lv_at hl 4 rfl) ?_
    refine lv_iconst (v := (1 : Int32)) hx hb d_law_440 (by decide) ?_
    refine lv_iadd hx hb d_law_441 ?_
    refine va_sld hx hb hX hbl hbA hS hi1 d_law_442 ?_
    refine lv_aload_n hx hb d_law_443 rfl (lv_at hl 0 rfl) ?_
    refine lv_iload hx hb d_law_444 (lv_at hl 4 rfl) ?_
    refine lv_iconst (v := (2 : Int32)) hx hb d_law_446 (by decide) ?_
    refine lv_iadd hx hb d_law_447 ?_
    refine va_sld hx hb hX hbl hbA hS hi2 d_law_448 ?_
    refine lv_if_eq (tgt := 456) hx hb d_law_449 (by decide) (fun _ => ?_) (fun h => absurd hf0 h)
    refine lv_iconst (v := (0 : Int32)) hx hb d_law_456 (by decide) ?_
    refine lv_aload_n hx hb d_law_457 rfl (lv_at hl 3 rfl) ?_
    refine tr_call (tr_runSW (As := [.ref (adC 0), .int (xs (nI i + (1 : Int32)).toNatClampNeg), .int (0 : Int32), .ref o]) (rest := []) ⟨hx, hb, hml, hown, ht⟩ (lm_open l h9 hJ.1 hJ.2.2.1 hc) ⟨rfl, rfl, (Nat.le_of_ble_eq_true rfl), (Nat.le_of_ble_eq_true rfl), pay_in ht (tw_G wl_open), List.mem_cons_self⟩ (ht _ wl_open) (ht _ wd_33) (ht _ wd_455) (ht _ wd_456) (by decide +kernel) (show (parseMethodDescriptor y_L_open.desc).map (fun d => d.parameters.length) = some 4 by decide +kernel) ⟨lP_blind, fun U hU hW => ⟨rfl, by rw [hU]; exact hP, va_K.moved hW.alike hK, tW_warm hW hN, tT_law hT hS hU hW, va_Nc.moved hW.alike hNc⟩⟩ rfl hl.1 rfl (lv_room (Nat.le_of_ble_eq_true rfl)) d_law_458 hcs) hS (lc_in hJ) (lc_in hJ) (fun H locs hP hk hz hS => ?_)
    replace hR := lr_kept hJ hR hk
    refine W.eq (g2 := F0 m 461 ls [.int res.1]) rfl ?_
    refine lv_istore (lv' := [(5, .int res.1), (0, .ref b), (1, .ref (adC 0)), (2, .ref (adR 0)), (3, .ref o), (4, .int (nI i))]) hx hb d_law_461 hl (by decide) rfl (fun ls hl => ?_)
    refine lv_aload_n hx hb d_law_463 rfl (lv_at hl 3 rfl) ?_
    refine lv_aload_n hx hb d_law_464 rfl (lv_at hl 1 rfl) ?_
    refine lv_iload hx hb d_law_465 (lv_at hl 5 rfl) ?_
    refine lv_iconst (v := (1 : Int32)) hx hb d_law_467 (by decide) ?_
    refine lv_iadd hx hb d_law_468 ?_
    refine va_sld hx hb hX hbl hbA hS hi1 d_law_469 ?_
    refine lv_aload_n hx hb d_law_470 rfl (lv_at hl 1 rfl) ?_
    refine lv_iload hx hb d_law_471 (lv_at hl 5 rfl) ?_
    refine lv_iconst (v := (2 : Int32)) hx hb d_law_473 (by decide) ?_
    refine lv_iadd hx hb d_law_474 ?_
    refine va_sld hx hb hX hbl hbA hS hi2 d_law_475 ?_
    refine lv_if_eq (tgt := 483) hx hb d_law_476 (by decide) (fun _ => ?_) (fun h => absurd hf0 h)
    refine lv_iconst (v := (0 : Int32)) hx hb d_law_483 (by decide) ?_
    refine tr_call (va_runV (C := R_R) (As := [.int (xs (nI i + (1 : Int32)).toNatClampNeg), .int (0 : Int32)]) (rest := []) ⟨hx, hb, hml, hown, ht⟩ (mc_R_open l hJ.2.1 hr) ⟨(tw_cb (n := 2) ht wc_R_open wd_43 wd_807 ⟨rfl, rfl⟩ (by decide +kernel) ⟨(Nat.le_of_ble_eq_true rfl), (Nat.le_of_ble_eq_true rfl)⟩), ht _ wd_808, ht _ wd_809⟩ ⟨tP_blind, va_recv hKR hR (ci := 8) (q0 := 0) rfl rfl, fun U hU hW => ⟨rfl, by rw [hU]; exact hR, va_K.moved hW.alike hKR, tW_warm hW hN⟩⟩ rfl rfl hl.1 rfl (lv_room (Nat.le_of_ble_eq_true rfl)) d_law_484 hcs) hS (lr_in hJ) (lr_in hJ) (fun H locs hR hk hz hS => ?_)
    replace hP := lc_kept hJ (fun _ h => h) hP hk
    refine W.eq (g2 := F0 m 487 ls [.int bb]) rfl ?_
    refine lv_istore (lv' := [(6, .int bb), (5, .int res.1), (0, .ref b), (1, .ref (adC 0)), (2, .ref (adR 0)), (3, .ref o), (4, .int (nI i))]) hx hb d_law_487 hl (by decide) rfl (fun ls hl => ?_)
    refine lv_aload_n hx hb d_law_489 rfl (lv_at hl 4 rfl) ?_
    refine tr_call (va_runV (C := R_R) (As := []) (rest := []) ⟨hx, hb, hml, hown, ht⟩ (mc_R_thrown l hJ.2.1 hth) ⟨(tw_cb (n := 0) ht wc_R_thrown wd_43 wd_774 ⟨rfl, rfl⟩ (by decide +kernel) ⟨(Nat.le_of_ble_eq_true rfl), (Nat.le_of_ble_eq_true rfl)⟩), ht _ wd_775, ht _ wd_776⟩ ⟨tP_blind, va_recv hKR hR (ci := 8) (q0 := 0) rfl rfl, fun U hU hW => ⟨rfl, by rw [hU]; exact hR, va_K.moved hW.alike hKR, tW_warm hW hN⟩⟩ rfl rfl hl.1 rfl (lv_room (Nat.le_of_ble_eq_true rfl)) d_law_490 hcs) hS (fun _ h => h.elim) (fun _ h => h.elim) (fun H locs hR hk hz hS => ?_)
    replace hP := lc_kept hJ (fun _ h => h.elim) hP hk
    refine W.eq (g2 := F0 m 493 ls [.int res.1]) rfl ?_
    refine lv_iload hx hb d_law_493 (lv_at hl 1 rfl) ?_
    refine lv_icmp_eq (tgt := 500) hx hb d_law_495 (by decide) (fun _ => ?_) (fun h => absurd rfl h)
    refine lv_iload hx hb d_law_500 (lv_at hl 1 rfl) ?_
    refine lv_if_ne (tgt := 524) hx hb d_law_502 (by decide) (fun hk0 => ?_) (fun hk0 => ?_)
    · refine lv_goto (tgt := 1609) hx hb d_law_524 (by decide) ?_
      exact kk _ _ _ hP hR hS (lv_sub hl [2, 3, 4, 5, 6] rfl)
    · refine lv_aload_n hx hb d_law_505 rfl (lv_at hl 5 rfl) ?_
      refine lv_iconst (v := (0 : Int32)) hx hb d_law_506 (by decide) ?_
      refine va_lald (f := res.2.2) hx hb hK hP 37 28 rfl rfl vp_in01 d_law_507 ?_
      refine lv_iload hx hb d_law_508 (lv_at hl 0 rfl) ?_
      refine lv_if_eq (tgt := 517) hx hb d_law_510 (by decide) (fun hz0 => ?_) (fun hz0 => ?_)
      · refine lv_lconst (v := (0 : Int64)) hx hb d_law_517 (by decide) ?_
        refine W.lcmp hx hb d_law_518 ?_
        refine lv_if_eq (tgt := 524) hx hb d_law_519 (by decide) (fun _ => ?_) (fun h => absurd ((lg_cmp_eq _ _).mpr ((heq hk0).trans (if_pos hz0))) h)
        refine lv_goto (tgt := 1609) hx hb d_law_524 (by decide) ?_
        exact kk _ _ _ hP hR hS (lv_sub hl [2, 3, 4, 5, 6] rfl)
      · refine lv_lconst (v := (1 : Int64)) hx hb d_law_513 (by decide) ?_
        refine lv_goto (tgt := 518) hx hb d_law_514 (by decide) ?_
        refine W.lcmp hx hb d_law_518 ?_
        refine lv_if_eq (tgt := 524) hx hb d_law_519 (by decide) (fun _ => ?_) (fun h => absurd ((lg_cmp_eq _ _).mpr ((heq hk0).trans (if_neg hz0))) h)
        refine lv_goto (tgt := 1609) hx hb d_law_524 (by decide) ?_
        exact kk _ _ _ hP hR hS (lv_sub hl [2, 3, 4, 5, 6] rfl)
  · rw [if_neg hf0] at hp1
    subst hp1
    refine lv_aload_n hx hb d_law_436 rfl (lv_at hl 1 rfl) ?_
    refine lv_aload_n hx hb d_law_437 rfl (lv_at hl 0 rfl) ?_
    refine lv_iload hx hb d_law_438 (lv_at hl 4 rfl) ?_
    refine lv_iconst (v := (1 : Int32)) hx hb d_law_440 (by decide) ?_
    refine lv_iadd hx hb d_law_441 ?_
    refine va_sld hx hb hX hbl hbA hS hi1 d_law_442 ?_
    refine lv_aload_n hx hb d_law_443 rfl (lv_at hl 0 rfl) ?_
    refine lv_iload hx hb d_law_444 (lv_at hl 4 rfl) ?_
    refine lv_iconst (v := (2 : Int32)) hx hb d_law_446 (by decide) ?_
    refine lv_iadd hx hb d_law_447 ?_
    refine va_sld hx hb hX hbl hbA hS hi2 d_law_448 ?_
    refine lv_if_eq (tgt := 456) hx hb d_law_449 (by decide) (fun h => absurd h hf0) (fun _ => ?_)
    refine lv_iconst (v := (1 : Int32)) hx hb d_law_452 (by decide) ?_
    refine lv_goto (tgt := 457) hx hb d_law_453 (by decide) ?_
    refine lv_aload_n hx hb d_law_457 rfl (lv_at hl 3 rfl) ?_
    refine tr_call (tr_runSW (As := [.ref (adC 0), .int (xs (nI i + (1 : Int32)).toNatClampNeg), .int (1 : Int32), .ref o]) (rest := []) ⟨hx, hb, hml, hown, ht⟩ (lm_open l h9 hJ.1 hJ.2.2.1 hc) ⟨rfl, rfl, (Nat.le_of_ble_eq_true rfl), (Nat.le_of_ble_eq_true rfl), pay_in ht (tw_G wl_open), List.mem_cons_self⟩ (ht _ wl_open) (ht _ wd_33) (ht _ wd_455) (ht _ wd_456) (by decide +kernel) (show (parseMethodDescriptor y_L_open.desc).map (fun d => d.parameters.length) = some 4 by decide +kernel) ⟨lP_blind, fun U hU hW => ⟨rfl, by rw [hU]; exact hP, va_K.moved hW.alike hK, tW_warm hW hN, tT_law hT hS hU hW, va_Nc.moved hW.alike hNc⟩⟩ rfl hl.1 rfl (lv_room (Nat.le_of_ble_eq_true rfl)) d_law_458 hcs) hS (lc_in hJ) (lc_in hJ) (fun H locs hP hk hz hS => ?_)
    replace hR := lr_kept hJ hR hk
    refine W.eq (g2 := F0 m 461 ls [.int res.1]) rfl ?_
    refine lv_istore (lv' := [(5, .int res.1), (0, .ref b), (1, .ref (adC 0)), (2, .ref (adR 0)), (3, .ref o), (4, .int (nI i))]) hx hb d_law_461 hl (by decide) rfl (fun ls hl => ?_)
    refine lv_aload_n hx hb d_law_463 rfl (lv_at hl 3 rfl) ?_
    refine lv_aload_n hx hb d_law_464 rfl (lv_at hl 1 rfl) ?_
    refine lv_iload hx hb d_law_465 (lv_at hl 5 rfl) ?_
    refine lv_iconst (v := (1 : Int32)) hx hb d_law_467 (by decide) ?_
    refine lv_iadd hx hb d_law_468 ?_
    refine va_sld hx hb hX hbl hbA hS hi1 d_law_469 ?_
    refine lv_aload_n hx hb d_law_470 rfl (lv_at hl 1 rfl) ?_
    refine lv_iload hx hb d_law_471 (lv_at hl 5 rfl) ?_
    refine lv_iconst (v := (2 : Int32)) hx hb d_law_473 (by decide) ?_
    refine lv_iadd hx hb d_law_474 ?_
    refine va_sld hx hb hX hbl hbA hS hi2 d_law_475 ?_
    refine lv_if_eq (tgt := 483) hx hb d_law_476 (by decide) (fun h => absurd h hf0) (fun _ => ?_)
    refine lv_iconst (v := (1 : Int32)) hx hb d_law_479 (by decide) ?_
    refine lv_goto (tgt := 484) hx hb d_law_480 (by decide) ?_
    refine tr_call (va_runV (C := R_R) (As := [.int (xs (nI i + (1 : Int32)).toNatClampNeg), .int (1 : Int32)]) (rest := []) ⟨hx, hb, hml, hown, ht⟩ (mc_R_open l hJ.2.1 hr) ⟨(tw_cb (n := 2) ht wc_R_open wd_43 wd_807 ⟨rfl, rfl⟩ (by decide +kernel) ⟨(Nat.le_of_ble_eq_true rfl), (Nat.le_of_ble_eq_true rfl)⟩), ht _ wd_808, ht _ wd_809⟩ ⟨tP_blind, va_recv hKR hR (ci := 8) (q0 := 0) rfl rfl, fun U hU hW => ⟨rfl, by rw [hU]; exact hR, va_K.moved hW.alike hKR, tW_warm hW hN⟩⟩ rfl rfl hl.1 rfl (lv_room (Nat.le_of_ble_eq_true rfl)) d_law_484 hcs) hS (lr_in hJ) (lr_in hJ) (fun H locs hR hk hz hS => ?_)
    replace hP := lc_kept hJ (fun _ h => h) hP hk
    refine W.eq (g2 := F0 m 487 ls [.int bb]) rfl ?_
    refine lv_istore (lv' := [(6, .int bb), (5, .int res.1), (0, .ref b), (1, .ref (adC 0)), (2, .ref (adR 0)), (3, .ref o), (4, .int (nI i))]) hx hb d_law_487 hl (by decide) rfl (fun ls hl => ?_)
    refine lv_aload_n hx hb d_law_489 rfl (lv_at hl 4 rfl) ?_
    refine tr_call (va_runV (C := R_R) (As := []) (rest := []) ⟨hx, hb, hml, hown, ht⟩ (mc_R_thrown l hJ.2.1 hth) ⟨(tw_cb (n := 0) ht wc_R_thrown wd_43 wd_774 ⟨rfl, rfl⟩ (by decide +kernel) ⟨(Nat.le_of_ble_eq_true rfl), (Nat.le_of_ble_eq_true rfl)⟩), ht _ wd_775, ht _ wd_776⟩ ⟨tP_blind, va_recv hKR hR (ci := 8) (q0 := 0) rfl rfl, fun U hU hW => ⟨rfl, by rw [hU]; exact hR, va_K.moved hW.alike hKR, tW_warm hW hN⟩⟩ rfl rfl hl.1 rfl (lv_room (Nat.le_of_ble_eq_true rfl)) d_law_490 hcs) hS (fun _ h => h.elim) (fun _ h => h.elim) (fun H locs hR hk hz hS => ?_)
    replace hP := lc_kept hJ (fun _ h => h.elim) hP hk
    refine W.eq (g2 := F0 m 493 ls [.int res.1]) rfl ?_
    refine lv_iload hx hb d_law_493 (lv_at hl 1 rfl) ?_
    refine lv_icmp_eq (tgt := 500) hx hb d_law_495 (by decide) (fun _ => ?_) (fun h => absurd rfl h)
    refine lv_iload hx hb d_law_500 (lv_at hl 1 rfl) ?_
    refine lv_if_ne (tgt := 524) hx hb d_law_502 (by decide) (fun hk0 => ?_) (fun hk0 => ?_)
    · refine lv_goto (tgt := 1609) hx hb d_law_524 (by decide) ?_
      exact kk _ _ _ hP hR hS (lv_sub hl [2, 3, 4, 5, 6] rfl)
    · refine lv_aload_n hx hb d_law_505 rfl (lv_at hl 5 rfl) ?_
      refine lv_iconst (v := (0 : Int32)) hx hb d_law_506 (by decide) ?_
      refine va_lald (f := res.2.2) hx hb hK hP 37 28 rfl rfl vp_in01 d_law_507 ?_
      refine lv_iload hx hb d_law_508 (lv_at hl 0 rfl) ?_
      refine lv_if_eq (tgt := 517) hx hb d_law_510 (by decide) (fun hz0 => ?_) (fun hz0 => ?_)
      · refine lv_lconst (v := (0 : Int64)) hx hb d_law_517 (by decide) ?_
        refine W.lcmp hx hb d_law_518 ?_
        refine lv_if_eq (tgt := 524) hx hb d_law_519 (by decide) (fun _ => ?_) (fun h => absurd ((lg_cmp_eq _ _).mpr ((heq hk0).trans (if_pos hz0))) h)
        refine lv_goto (tgt := 1609) hx hb d_law_524 (by decide) ?_
        exact kk _ _ _ hP hR hS (lv_sub hl [2, 3, 4, 5, 6] rfl)
      · refine lv_lconst (v := (1 : Int64)) hx hb d_law_513 (by decide) ?_
        refine lv_goto (tgt := 518) hx hb d_law_514 (by decide) ?_
        refine W.lcmp hx hb d_law_518 ?_
        refine lv_if_eq (tgt := 524) hx hb d_law_519 (by decide) (fun _ => ?_) (fun h => absurd ((lg_cmp_eq _ _).mpr ((heq hk0).trans (if_neg hz0))) h)
        refine lv_goto (tgt := 1609) hx hb d_law_524 (by decide) ?_
        exact kk _ _ _ hP hR hS (lv_sub hl [2, 3, 4, 5, 6] rfl)
set_option maxHeartbeats 4000000 in
set_option maxRecDepth 100000 in
theorem lc_weight {p : Program} {l : Launch} {e : Env} {s : State} {m : MethodId} {below : List Frame} {meth : Method} {c : Code} (h9 : l.stackTraces = false) {b L : Nat} {xs : Nat → Int32} (hL : L ≤ 3072) (C0 : lw_At p s m meth c b L xs) (hN : tW s) (hT : tT s) (hNc : va_Nc xIS xIA s) {D : va_G} {adC adR : Nat → Nat} {taC taR : Nat → ClassId} {o : Nat} {cO : ClassId} (hJ : lJ s adC adR o) (hK : va_K D clS (tyC taC ++ [(cO, .long)]) s) (hKR : va_K D clS (tyR taR) s) {i : Nat} (hi : i + 6 ≤ L) {σ τ τ' : tS} {f : Nat → Int64} {res : Int32 × tS × (Nat → Int64)} {bb : Int32} (hc : lf_weight (xs (nI i + (1 : Int32)).toNatClampNeg) (xs (nI i + (2 : Int32)).toNatClampNeg) (xs (nI i + (3 : Int32)).toNatClampNeg) σ f = some res) (hr : mf_R_weight (xs (nI i + (1 : Int32)).toNatClampNeg) (xs (nI i + (2 : Int32)).toNatClampNeg) (xs (nI i + (3 : Int32)).toNatClampNeg) τ = some (bb, τ')) (hth : mf_R_thrown τ' = some (res.1, τ')) (heq : res.1 = 0 → res.2.2 0 = bb.toInt64) {H : Heap} {locs : List Loc} {cells slots : Nat} (hcs : cells + 1 ≤ 601024 ∧ slots + 6 ≤ 7293034) (hP : va_P D clS (cwC adC taC σ ++ lO o cO f) H) (hR : va_P D clS (cwR adR taR τ) H) (hS : va_S (lB s) s.heap H locs) {ls : Array Slot} (hl : lv_has ls 7 [(0, .ref b), (1, .ref (adC 0)), (2, .ref (adR 0)), (3, .ref o), (4, .int (nI i))]) (kk : ∀ (H : Heap) (locs : List Loc) (ls : Array Slot), va_P D clS (cwC adC taC res.2.1 ++ lO o cO res.2.2) H → va_P D clS (cwR adR taR τ') H → va_S (lB s) s.heap H locs → lv_has ls 7 [(0, .ref b), (1, .ref (adC 0)), (2, .ref (adR 0)), (3, .ref o), (4, .int (nI i))] → W p l e room_1 s m #[Value.ref b] below meth c H locs (cells + 1) (slots + 6) (lw_Z below #[Value.ref b] s) (F0 m 1609 ls [])) : W p l e room_1 s m #[Value.ref b] below meth c H locs cells slots (lw_Z below #[Value.ref b] s) (F0 m 527 ls []) := by
  obtain ⟨hx, hb, hr0, hml, hown, hts, hX, hbl, hlocks, hgv⟩ := id C0
  have ht : ∀ w ∈ tw, w.before #[Value.ref b] s = true := fun w h => hts w (tw_in h)
  have hbA : ¬ lB s b := Nat.not_le.mpr hbl
  have hi1 : vp_in (nI i + (1 : Int32)) L := li_in (k := 1) (by decide) (by omega) hL
  have hi2 : vp_in (nI i + (2 : Int32)) L := li_in (k := 2) (by decide) (by omega) hL
  have hi3 : vp_in (nI i + (3 : Int32)) L := li_in (k := 3) (by decide) (by omega) hL
  refine lv_aload_n hx hb d_law_527 rfl (lv_at hl 1 rfl) ?_
  refine lv_aload_n hx hb d_law_528 rfl (lv_at hl 0 rfl) ?_
  refine lv_iload hx hb d_law_529 (lv_at hl 4 rfl) ?_
  refine lv_iconst (v := (1 : Int32)) hx hb d_law_531 (by decide) ?_
  refine lv_iadd hx hb d_law_532 ?_
  refine va_sld hx hb hX hbl hbA hS hi1 d_law_533 ?_
  refine lv_aload_n hx hb d_law_534 rfl (lv_at hl 0 rfl) ?_
  refine lv_iload hx hb d_law_535 (lv_at hl 4 rfl) ?_
  refine lv_iconst (v := (2 : Int32)) hx hb d_law_537 (by decide) ?_
  refine lv_iadd hx hb d_law_538 ?_
  refine va_sld hx hb hX hbl hbA hS hi2 d_law_539 ?_
  refine lv_aload_n hx hb d_law_540 rfl (lv_at hl 0 rfl) ?_
  refine lv_iload hx hb d_law_541 (lv_at hl 4 rfl) ?_
  refine lv_iconst (v := (3 : Int32)) hx hb d_law_543 (by decide) ?_
  refine lv_iadd hx hb d_law_544 ?_
  refine va_sld hx hb hX hbl hbA hS hi3 d_law_545 ?_
  refine lv_aload_n hx hb d_law_546 rfl (lv_at hl 3 rfl) ?_
  refine tr_call (tr_runSW (As := [.ref (adC 0), .int (xs (nI i + (1 : Int32)).toNatClampNeg), .int (xs (nI i + (2 : Int32)).toNatClampNeg), .int (xs (nI i + (3 : Int32)).toNatClampNeg), .ref o]) (rest := []) ⟨hx, hb, hml, hown, ht⟩ (lm_weight l h9 hJ.1 hJ.2.2.1 hc) ⟨rfl, rfl, (Nat.le_of_ble_eq_true rfl), (Nat.le_of_ble_eq_true rfl), pay_in ht (tw_G wl_weight), List.mem_cons_self⟩ (ht _ wl_weight) (ht _ wd_33) (ht _ wd_462) (ht _ wd_463) (by decide +kernel) (show (parseMethodDescriptor y_L_weight.desc).map (fun d => d.parameters.length) = some 5 by decide +kernel) ⟨lP_blind, fun U hU hW => ⟨rfl, by rw [hU]; exact hP, va_K.moved hW.alike hK, tW_warm hW hN, tT_law hT hS hU hW, va_Nc.moved hW.alike hNc⟩⟩ rfl hl.1 rfl (lv_room (Nat.le_of_ble_eq_true rfl)) d_law_547 hcs) hS (lc_in hJ) (lc_in hJ) (fun H locs hP hk hz hS => ?_)
  replace hR := lr_kept hJ hR hk
  refine W.eq (g2 := F0 m 550 ls [.int res.1]) rfl ?_
  refine lv_istore (lv' := [(5, .int res.1), (0, .ref b), (1, .ref (adC 0)), (2, .ref (adR 0)), (3, .ref o), (4, .int (nI i))]) hx hb d_law_550 hl (by decide) rfl (fun ls hl => ?_)
  refine lv_aload_n hx hb d_law_552 rfl (lv_at hl 3 rfl) ?_
  refine lv_aload_n hx hb d_law_553 rfl (lv_at hl 1 rfl) ?_
  refine lv_iload hx hb d_law_554 (lv_at hl 5 rfl) ?_
  refine lv_iconst (v := (1 : Int32)) hx hb d_law_556 (by decide) ?_
  refine lv_iadd hx hb d_law_557 ?_
  refine va_sld hx hb hX hbl hbA hS hi1 d_law_558 ?_
  refine lv_aload_n hx hb d_law_559 rfl (lv_at hl 1 rfl) ?_
  refine lv_iload hx hb d_law_560 (lv_at hl 5 rfl) ?_
  refine lv_iconst (v := (2 : Int32)) hx hb d_law_562 (by decide) ?_
  refine lv_iadd hx hb d_law_563 ?_
  refine va_sld hx hb hX hbl hbA hS hi2 d_law_564 ?_
  refine lv_aload_n hx hb d_law_565 rfl (lv_at hl 1 rfl) ?_
  refine lv_iload hx hb d_law_566 (lv_at hl 5 rfl) ?_
  refine lv_iconst (v := (3 : Int32)) hx hb d_law_568 (by decide) ?_
  refine lv_iadd hx hb d_law_569 ?_
  refine va_sld hx hb hX hbl hbA hS hi3 d_law_570 ?_
  refine tr_call (va_runV (C := R_R) (As := [.int (xs (nI i + (1 : Int32)).toNatClampNeg), .int (xs (nI i + (2 : Int32)).toNatClampNeg), .int (xs (nI i + (3 : Int32)).toNatClampNeg)]) (rest := []) ⟨hx, hb, hml, hown, ht⟩ (mc_R_weight l hJ.2.1 hr) ⟨(tw_cb (n := 3) ht wc_R_weight wd_43 wd_811 ⟨rfl, rfl⟩ (by decide +kernel) ⟨(Nat.le_of_ble_eq_true rfl), (Nat.le_of_ble_eq_true rfl)⟩), ht _ wd_812, ht _ wd_813⟩ ⟨tP_blind, va_recv hKR hR (ci := 8) (q0 := 0) rfl rfl, fun U hU hW => ⟨rfl, by rw [hU]; exact hR, va_K.moved hW.alike hKR, tW_warm hW hN⟩⟩ rfl rfl hl.1 rfl (lv_room (Nat.le_of_ble_eq_true rfl)) d_law_571 hcs) hS (lr_in hJ) (lr_in hJ) (fun H locs hR hk hz hS => ?_)
  replace hP := lc_kept hJ (fun _ h => h) hP hk
  refine W.eq (g2 := F0 m 574 ls [.int bb]) rfl ?_
  refine lv_istore (lv' := [(6, .int bb), (5, .int res.1), (0, .ref b), (1, .ref (adC 0)), (2, .ref (adR 0)), (3, .ref o), (4, .int (nI i))]) hx hb d_law_574 hl (by decide) rfl (fun ls hl => ?_)
  refine lv_aload_n hx hb d_law_576 rfl (lv_at hl 4 rfl) ?_
  refine tr_call (va_runV (C := R_R) (As := []) (rest := []) ⟨hx, hb, hml, hown, ht⟩ (mc_R_thrown l hJ.2.1 hth) ⟨(tw_cb (n := 0) ht wc_R_thrown wd_43 wd_774 ⟨rfl, rfl⟩ (by decide +kernel) ⟨(Nat.le_of_ble_eq_true rfl), (Nat.le_of_ble_eq_true rfl)⟩), ht _ wd_775, ht _ wd_776⟩ ⟨tP_blind, va_recv hKR hR (ci := 8) (q0 := 0) rfl rfl, fun U hU hW => ⟨rfl, by rw [hU]; exact hR, va_K.moved hW.alike hKR, tW_warm hW hN⟩⟩ rfl rfl hl.1 rfl (lv_room (Nat.le_of_ble_eq_true rfl)) d_law_577 hcs) hS (fun _ h => h.elim) (fun _ h => h.elim) (fun H locs hR hk hz hS => ?_)
  replace hP := lc_kept hJ (fun _ h => h.elim) hP hk
  refine W.eq (g2 := F0 m 580 ls [.int res.1]) rfl ?_
  refine lv_iload hx hb d_law_580 (lv_at hl 1 rfl) ?_
  refine lv_icmp_eq (tgt := 587) hx hb d_law_582 (by decide) (fun _ => ?_) (fun h => absurd rfl h)
  refine lv_iload hx hb d_law_587 (lv_at hl 1 rfl) ?_
  refine lv_if_ne (tgt := 604) hx hb d_law_589 (by decide) (fun hk0 => ?_) (fun hk0 => ?_)
  · refine lv_goto (tgt := 1609) hx hb d_law_604 (by decide) ?_
    exact kk _ _ _ hP hR hS (lv_sub hl [2, 3, 4, 5, 6] rfl)
  · refine lv_aload_n hx hb d_law_592 rfl (lv_at hl 5 rfl) ?_
    refine lv_iconst (v := (0 : Int32)) hx hb d_law_593 (by decide) ?_
    refine va_lald (f := res.2.2) hx hb hK hP 37 28 rfl rfl vp_in01 d_law_594 ?_
    refine lv_iload hx hb d_law_595 (lv_at hl 0 rfl) ?_
    refine lv_i2l hx hb d_law_597 rfl ?_
    refine W.lcmp hx hb d_law_598 ?_
    refine lv_if_eq (tgt := 604) hx hb d_law_599 (by decide) (fun _ => ?_) (fun h => absurd ((lg_cmp_eq _ _).mpr (heq hk0)) h)
    refine lv_goto (tgt := 1609) hx hb d_law_604 (by decide) ?_
    exact kk _ _ _ hP hR hS (lv_sub hl [2, 3, 4, 5, 6] rfl)
set_option maxHeartbeats 4000000 in
set_option maxRecDepth 100000 in
theorem lc_size {p : Program} {l : Launch} {e : Env} {s : State} {m : MethodId} {below : List Frame} {meth : Method} {c : Code} (h9 : l.stackTraces = false) {b L : Nat} {xs : Nat → Int32} (hL : L ≤ 3072) (C0 : lw_At p s m meth c b L xs) (hN : tW s) (hT : tT s) (hNc : va_Nc xIS xIA s) {D : va_G} {adC adR : Nat → Nat} {taC taR : Nat → ClassId} {o : Nat} {cO : ClassId} (hJ : lJ s adC adR o) (hK : va_K D clS (tyC taC ++ [(cO, .long)]) s) (hKR : va_K D clS (tyR taR) s) {i : Nat} (hi : i + 6 ≤ L) {σ τ τ' : tS} {f : Nat → Int64} {res : Int32 × tS × (Nat → Int64)} {bb : Int32} (hc : lf_size (xs (nI i + (1 : Int32)).toNatClampNeg) (xs (nI i + (2 : Int32)).toNatClampNeg) (xs (nI i + (3 : Int32)).toNatClampNeg) σ f = some res) (hr : mf_R_size (xs (nI i + (1 : Int32)).toNatClampNeg) (xs (nI i + (2 : Int32)).toNatClampNeg) (xs (nI i + (3 : Int32)).toNatClampNeg) τ = some (bb, τ')) (hth : mf_R_thrown τ' = some (res.1, τ')) (heq : res.1 = 0 → res.2.2 0 = bb.toInt64) {H : Heap} {locs : List Loc} {cells slots : Nat} (hcs : cells + 1 ≤ 601024 ∧ slots + 6 ≤ 7293034) (hP : va_P D clS (cwC adC taC σ ++ lO o cO f) H) (hR : va_P D clS (cwR adR taR τ) H) (hS : va_S (lB s) s.heap H locs) {ls : Array Slot} (hl : lv_has ls 7 [(0, .ref b), (1, .ref (adC 0)), (2, .ref (adR 0)), (3, .ref o), (4, .int (nI i))]) (kk : ∀ (H : Heap) (locs : List Loc) (ls : Array Slot), va_P D clS (cwC adC taC res.2.1 ++ lO o cO res.2.2) H → va_P D clS (cwR adR taR τ') H → va_S (lB s) s.heap H locs → lv_has ls 7 [(0, .ref b), (1, .ref (adC 0)), (2, .ref (adR 0)), (3, .ref o), (4, .int (nI i))] → W p l e room_1 s m #[Value.ref b] below meth c H locs (cells + 1) (slots + 6) (lw_Z below #[Value.ref b] s) (F0 m 1609 ls [])) : W p l e room_1 s m #[Value.ref b] below meth c H locs cells slots (lw_Z below #[Value.ref b] s) (F0 m 607 ls []) := by
  obtain ⟨hx, hb, hr0, hml, hown, hts, hX, hbl, hlocks, hgv⟩ := id C0
  have ht : ∀ w ∈ tw, w.before #[Value.ref b] s = true := fun w h => hts w (tw_in h)
  have hbA : ¬ lB s b := Nat.not_le.mpr hbl
  have hi1 : vp_in (nI i + (1 : Int32)) L := li_in (k := 1) (by decide) (by omega) hL
  have hi2 : vp_in (nI i + (2 : Int32)) L := li_in (k := 2) (by decide) (by omega) hL
  have hi3 : vp_in (nI i + (3 : Int32)) L := li_in (k := 3) (by decide) (by omega) hL
  refine lv_aload_n hx hb d_law_607 rfl (lv_at hl 1 rfl) ?_
  refine lv_aload_n hx hb d_law_608 rfl (lv_at hl 0 rfl) ?_
  refine lv_iload hx hb d_law_609 (lv_at hl 4 rfl) ?_
  refine lv_iconst (v := (1 : Int32)) hx hb d_law_611 (by decide) ?_
  refine lv_iadd hx hb d_law_612 ?_
  refine va_sld hx hb hX hbl hbA hS hi1 d_law_613 ?_
  refine lv_aload_n hx hb d_law_614 rfl (lv_at hl 0 rfl) ?_
  refine lv_iload hx hb d_law_615 (lv_at hl 4 rfl) ?_
  refine lv_iconst (v := (2 : Int32)) hx hb d_law_617 (by decide) ?_
  refine lv_iadd hx hb d_law_618 ?_
  refine va_sld hx hb hX hbl hbA hS hi2 d_law_619 ?_
  refine lv_aload_n hx hb d_law_620 rfl (lv_at hl 0 rfl) ?_
  refine lv_iload hx hb d_law_621 (lv_at hl 4 rfl) ?_
  refine lv_iconst (v := (3 : Int32)) hx hb d_law_623 (by decide) ?_
  refine lv_iadd hx hb d_law_624 ?_
  refine va_sld hx hb hX hbl hbA hS hi3 d_law_625 ?_
  refine lv_aload_n hx hb d_law_626 rfl (lv_at hl 3 rfl) ?_
  refine tr_call (tr_runSW (As := [.ref (adC 0), .int (xs (nI i + (1 : Int32)).toNatClampNeg), .int (xs (nI i + (2 : Int32)).toNatClampNeg), .int (xs (nI i + (3 : Int32)).toNatClampNeg), .ref o]) (rest := []) ⟨hx, hb, hml, hown, ht⟩ (lm_size l h9 hJ.1 hJ.2.2.1 hc) ⟨rfl, rfl, (Nat.le_of_ble_eq_true rfl), (Nat.le_of_ble_eq_true rfl), pay_in ht (tw_G wl_size), List.mem_cons_self⟩ (ht _ wl_size) (ht _ wd_33) (ht _ wd_474) (ht _ wd_475) (by decide +kernel) (show (parseMethodDescriptor y_L_size.desc).map (fun d => d.parameters.length) = some 5 by decide +kernel) ⟨lP_blind, fun U hU hW => ⟨rfl, by rw [hU]; exact hP, va_K.moved hW.alike hK, tW_warm hW hN, tT_law hT hS hU hW, va_Nc.moved hW.alike hNc⟩⟩ rfl hl.1 rfl (lv_room (Nat.le_of_ble_eq_true rfl)) d_law_627 hcs) hS (lc_in hJ) (lc_in hJ) (fun H locs hP hk hz hS => ?_)
  replace hR := lr_kept hJ hR hk
  refine W.eq (g2 := F0 m 630 ls [.int res.1]) rfl ?_
  refine lv_istore (lv' := [(5, .int res.1), (0, .ref b), (1, .ref (adC 0)), (2, .ref (adR 0)), (3, .ref o), (4, .int (nI i))]) hx hb d_law_630 hl (by decide) rfl (fun ls hl => ?_)
  refine lv_aload_n hx hb d_law_632 rfl (lv_at hl 3 rfl) ?_
  refine lv_aload_n hx hb d_law_633 rfl (lv_at hl 1 rfl) ?_
  refine lv_iload hx hb d_law_634 (lv_at hl 5 rfl) ?_
  refine lv_iconst (v := (1 : Int32)) hx hb d_law_636 (by decide) ?_
  refine lv_iadd hx hb d_law_637 ?_
  refine va_sld hx hb hX hbl hbA hS hi1 d_law_638 ?_
  refine lv_aload_n hx hb d_law_639 rfl (lv_at hl 1 rfl) ?_
  refine lv_iload hx hb d_law_640 (lv_at hl 5 rfl) ?_
  refine lv_iconst (v := (2 : Int32)) hx hb d_law_642 (by decide) ?_
  refine lv_iadd hx hb d_law_643 ?_
  refine va_sld hx hb hX hbl hbA hS hi2 d_law_644 ?_
  refine lv_aload_n hx hb d_law_645 rfl (lv_at hl 1 rfl) ?_
  refine lv_iload hx hb d_law_646 (lv_at hl 5 rfl) ?_
  refine lv_iconst (v := (3 : Int32)) hx hb d_law_648 (by decide) ?_
  refine lv_iadd hx hb d_law_649 ?_
  refine va_sld hx hb hX hbl hbA hS hi3 d_law_650 ?_
  refine tr_call (va_runV (C := R_R) (As := [.int (xs (nI i + (1 : Int32)).toNatClampNeg), .int (xs (nI i + (2 : Int32)).toNatClampNeg), .int (xs (nI i + (3 : Int32)).toNatClampNeg)]) (rest := []) ⟨hx, hb, hml, hown, ht⟩ (mc_R_size l hJ.2.1 hr) ⟨(tw_cb (n := 3) ht wc_R_size wd_43 wd_823 ⟨rfl, rfl⟩ (by decide +kernel) ⟨(Nat.le_of_ble_eq_true rfl), (Nat.le_of_ble_eq_true rfl)⟩), ht _ wd_824, ht _ wd_825⟩ ⟨tP_blind, va_recv hKR hR (ci := 8) (q0 := 0) rfl rfl, fun U hU hW => ⟨rfl, by rw [hU]; exact hR, va_K.moved hW.alike hKR, tW_warm hW hN⟩⟩ rfl rfl hl.1 rfl (lv_room (Nat.le_of_ble_eq_true rfl)) d_law_651 hcs) hS (lr_in hJ) (lr_in hJ) (fun H locs hR hk hz hS => ?_)
  replace hP := lc_kept hJ (fun _ h => h) hP hk
  refine W.eq (g2 := F0 m 654 ls [.int bb]) rfl ?_
  refine lv_istore (lv' := [(6, .int bb), (5, .int res.1), (0, .ref b), (1, .ref (adC 0)), (2, .ref (adR 0)), (3, .ref o), (4, .int (nI i))]) hx hb d_law_654 hl (by decide) rfl (fun ls hl => ?_)
  refine lv_aload_n hx hb d_law_656 rfl (lv_at hl 4 rfl) ?_
  refine tr_call (va_runV (C := R_R) (As := []) (rest := []) ⟨hx, hb, hml, hown, ht⟩ (mc_R_thrown l hJ.2.1 hth) ⟨(tw_cb (n := 0) ht wc_R_thrown wd_43 wd_774 ⟨rfl, rfl⟩ (by decide +kernel) ⟨(Nat.le_of_ble_eq_true rfl), (Nat.le_of_ble_eq_true rfl)⟩), ht _ wd_775, ht _ wd_776⟩ ⟨tP_blind, va_recv hKR hR (ci := 8) (q0 := 0) rfl rfl, fun U hU hW => ⟨rfl, by rw [hU]; exact hR, va_K.moved hW.alike hKR, tW_warm hW hN⟩⟩ rfl rfl hl.1 rfl (lv_room (Nat.le_of_ble_eq_true rfl)) d_law_657 hcs) hS (fun _ h => h.elim) (fun _ h => h.elim) (fun H locs hR hk hz hS => ?_)
  replace hP := lc_kept hJ (fun _ h => h.elim) hP hk
  refine W.eq (g2 := F0 m 660 ls [.int res.1]) rfl ?_
  refine lv_iload hx hb d_law_660 (lv_at hl 1 rfl) ?_
  refine lv_icmp_eq (tgt := 667) hx hb d_law_662 (by decide) (fun _ => ?_) (fun h => absurd rfl h)
  refine lv_iload hx hb d_law_667 (lv_at hl 1 rfl) ?_
  refine lv_if_ne (tgt := 684) hx hb d_law_669 (by decide) (fun hk0 => ?_) (fun hk0 => ?_)
  · refine lv_goto (tgt := 1609) hx hb d_law_684 (by decide) ?_
    exact kk _ _ _ hP hR hS (lv_sub hl [2, 3, 4, 5, 6] rfl)
  · refine lv_aload_n hx hb d_law_672 rfl (lv_at hl 5 rfl) ?_
    refine lv_iconst (v := (0 : Int32)) hx hb d_law_673 (by decide) ?_
    refine va_lald (f := res.2.2) hx hb hK hP 37 28 rfl rfl vp_in01 d_law_674 ?_
    refine lv_iload hx hb d_law_675 (lv_at hl 0 rfl) ?_
    refine lv_i2l hx hb d_law_677 rfl ?_
    refine W.lcmp hx hb d_law_678 ?_
    refine lv_if_eq (tgt := 684) hx hb d_law_679 (by decide) (fun _ => ?_) (fun h => absurd ((lg_cmp_eq _ _).mpr (heq hk0)) h)
    refine lv_goto (tgt := 1609) hx hb d_law_684 (by decide) ?_
    exact kk _ _ _ hP hR hS (lv_sub hl [2, 3, 4, 5, 6] rfl)
set_option maxHeartbeats 4000000 in
set_option maxRecDepth 100000 in
theorem lc_rounds {p : Program} {l : Launch} {e : Env} {s : State} {m : MethodId} {below : List Frame} {meth : Method} {c : Code} (h9 : l.stackTraces = false) {b L : Nat} {xs : Nat → Int32} (hL : L ≤ 3072) (C0 : lw_At p s m meth c b L xs) (hN : tW s) (hT : tT s) (hNc : va_Nc xIS xIA s) {D : va_G} {adC adR : Nat → Nat} {taC taR : Nat → ClassId} {o : Nat} {cO : ClassId} (hJ : lJ s adC adR o) (hK : va_K D clS (tyC taC ++ [(cO, .long)]) s) (hKR : va_K D clS (tyR taR) s) {i : Nat} (hi : i + 6 ≤ L) {σ τ τ' : tS} {f : Nat → Int64} {res : Int32 × tS × (Nat → Int64)} {bb : Int32} (hc : lf_rounds (xs (nI i + (1 : Int32)).toNatClampNeg) (xs (nI i + (2 : Int32)).toNatClampNeg) σ f = some res) (hr : mf_R_rounds (xs (nI i + (1 : Int32)).toNatClampNeg) (xs (nI i + (2 : Int32)).toNatClampNeg) τ = some (bb, τ')) (hth : mf_R_thrown τ' = some (res.1, τ')) (heq : res.1 = 0 → res.2.2 0 = bb.toInt64) {H : Heap} {locs : List Loc} {cells slots : Nat} (hcs : cells + 1 ≤ 601024 ∧ slots + 6 ≤ 7293034) (hP : va_P D clS (cwC adC taC σ ++ lO o cO f) H) (hR : va_P D clS (cwR adR taR τ) H) (hS : va_S (lB s) s.heap H locs) {ls : Array Slot} (hl : lv_has ls 7 [(0, .ref b), (1, .ref (adC 0)), (2, .ref (adR 0)), (3, .ref o), (4, .int (nI i))]) (kk : ∀ (H : Heap) (locs : List Loc) (ls : Array Slot), va_P D clS (cwC adC taC res.2.1 ++ lO o cO res.2.2) H → va_P D clS (cwR adR taR τ') H → va_S (lB s) s.heap H locs → lv_has ls 7 [(0, .ref b), (1, .ref (adC 0)), (2, .ref (adR 0)), (3, .ref o), (4, .int (nI i))] → W p l e room_1 s m #[Value.ref b] below meth c H locs (cells + 1) (slots + 6) (lw_Z below #[Value.ref b] s) (F0 m 1609 ls [])) : W p l e room_1 s m #[Value.ref b] below meth c H locs cells slots (lw_Z below #[Value.ref b] s) (F0 m 687 ls []) := by
  obtain ⟨hx, hb, hr0, hml, hown, hts, hX, hbl, hlocks, hgv⟩ := id C0
  have ht : ∀ w ∈ tw, w.before #[Value.ref b] s = true := fun w h => hts w (tw_in h)
  have hbA : ¬ lB s b := Nat.not_le.mpr hbl
  have hi1 : vp_in (nI i + (1 : Int32)) L := li_in (k := 1) (by decide) (by omega) hL
  have hi2 : vp_in (nI i + (2 : Int32)) L := li_in (k := 2) (by decide) (by omega) hL
  refine lv_aload_n hx hb d_law_687 rfl (lv_at hl 1 rfl) ?_
  refine lv_aload_n hx hb d_law_688 rfl (lv_at hl 0 rfl) ?_
  refine lv_iload hx hb d_law_689 (lv_at hl 4 rfl) ?_
  refine lv_iconst (v := (1 : Int32)) hx hb d_law_691 (by decide) ?_
  refine lv_iadd hx hb d_law_692 ?_
  refine va_sld hx hb hX hbl hbA hS hi1 d_law_693 ?_
  refine lv_aload_n hx hb d_law_694 rfl (lv_at hl 0 rfl) ?_
  refine lv_iload hx hb d_law_695 (lv_at hl 4 rfl) ?_
  refine lv_iconst (v := (2 : Int32)) hx hb d_law_697 (by decide) ?_
  refine lv_iadd hx hb d_law_698 ?_
  refine va_sld hx hb hX hbl hbA hS hi2 d_law_699 ?_
  refine lv_aload_n hx hb d_law_700 rfl (lv_at hl 3 rfl) ?_
  refine tr_call (tr_runSW (As := [.ref (adC 0), .int (xs (nI i + (1 : Int32)).toNatClampNeg), .int (xs (nI i + (2 : Int32)).toNatClampNeg), .ref o]) (rest := []) ⟨hx, hb, hml, hown, ht⟩ (lm_rounds l h9 hJ.1 hJ.2.2.1 hc) ⟨rfl, rfl, (Nat.le_of_ble_eq_true rfl), (Nat.le_of_ble_eq_true rfl), pay_in ht (tw_G wl_rounds), List.mem_cons_self⟩ (ht _ wl_rounds) (ht _ wd_33) (ht _ wd_481) (ht _ wd_482) (by decide +kernel) (show (parseMethodDescriptor y_L_rounds.desc).map (fun d => d.parameters.length) = some 4 by decide +kernel) ⟨lP_blind, fun U hU hW => ⟨rfl, by rw [hU]; exact hP, va_K.moved hW.alike hK, tW_warm hW hN, tT_law hT hS hU hW, va_Nc.moved hW.alike hNc⟩⟩ rfl hl.1 rfl (lv_room (Nat.le_of_ble_eq_true rfl)) d_law_701 hcs) hS (lc_in hJ) (lc_in hJ) (fun H locs hP hk hz hS => ?_)
  replace hR := lr_kept hJ hR hk
  refine W.eq (g2 := F0 m 704 ls [.int res.1]) rfl ?_
  refine lv_istore (lv' := [(5, .int res.1), (0, .ref b), (1, .ref (adC 0)), (2, .ref (adR 0)), (3, .ref o), (4, .int (nI i))]) hx hb d_law_704 hl (by decide) rfl (fun ls hl => ?_)
  refine lv_aload_n hx hb d_law_706 rfl (lv_at hl 3 rfl) ?_
  refine lv_aload_n hx hb d_law_707 rfl (lv_at hl 1 rfl) ?_
  refine lv_iload hx hb d_law_708 (lv_at hl 5 rfl) ?_
  refine lv_iconst (v := (1 : Int32)) hx hb d_law_710 (by decide) ?_
  refine lv_iadd hx hb d_law_711 ?_
  refine va_sld hx hb hX hbl hbA hS hi1 d_law_712 ?_
  refine lv_aload_n hx hb d_law_713 rfl (lv_at hl 1 rfl) ?_
  refine lv_iload hx hb d_law_714 (lv_at hl 5 rfl) ?_
  refine lv_iconst (v := (2 : Int32)) hx hb d_law_716 (by decide) ?_
  refine lv_iadd hx hb d_law_717 ?_
  refine va_sld hx hb hX hbl hbA hS hi2 d_law_718 ?_
  refine tr_call (va_runV (C := R_R) (As := [.int (xs (nI i + (1 : Int32)).toNatClampNeg), .int (xs (nI i + (2 : Int32)).toNatClampNeg)]) (rest := []) ⟨hx, hb, hml, hown, ht⟩ (mc_R_rounds l hJ.2.1 hr) ⟨(tw_cb (n := 2) ht wc_R_rounds wd_43 wd_827 ⟨rfl, rfl⟩ (by decide +kernel) ⟨(Nat.le_of_ble_eq_true rfl), (Nat.le_of_ble_eq_true rfl)⟩), ht _ wd_828, ht _ wd_829⟩ ⟨tP_blind, va_recv hKR hR (ci := 8) (q0 := 0) rfl rfl, fun U hU hW => ⟨rfl, by rw [hU]; exact hR, va_K.moved hW.alike hKR, tW_warm hW hN⟩⟩ rfl rfl hl.1 rfl (lv_room (Nat.le_of_ble_eq_true rfl)) d_law_719 hcs) hS (lr_in hJ) (lr_in hJ) (fun H locs hR hk hz hS => ?_)
  replace hP := lc_kept hJ (fun _ h => h) hP hk
  refine W.eq (g2 := F0 m 722 ls [.int bb]) rfl ?_
  refine lv_istore (lv' := [(6, .int bb), (5, .int res.1), (0, .ref b), (1, .ref (adC 0)), (2, .ref (adR 0)), (3, .ref o), (4, .int (nI i))]) hx hb d_law_722 hl (by decide) rfl (fun ls hl => ?_)
  refine lv_aload_n hx hb d_law_724 rfl (lv_at hl 4 rfl) ?_
  refine tr_call (va_runV (C := R_R) (As := []) (rest := []) ⟨hx, hb, hml, hown, ht⟩ (mc_R_thrown l hJ.2.1 hth) ⟨(tw_cb (n := 0) ht wc_R_thrown wd_43 wd_774 ⟨rfl, rfl⟩ (by decide +kernel) ⟨(Nat.le_of_ble_eq_true rfl), (Nat.le_of_ble_eq_true rfl)⟩), ht _ wd_775, ht _ wd_776⟩ ⟨tP_blind, va_recv hKR hR (ci := 8) (q0 := 0) rfl rfl, fun U hU hW => ⟨rfl, by rw [hU]; exact hR, va_K.moved hW.alike hKR, tW_warm hW hN⟩⟩ rfl rfl hl.1 rfl (lv_room (Nat.le_of_ble_eq_true rfl)) d_law_725 hcs) hS (fun _ h => h.elim) (fun _ h => h.elim) (fun H locs hR hk hz hS => ?_)
  replace hP := lc_kept hJ (fun _ h => h.elim) hP hk
  refine W.eq (g2 := F0 m 728 ls [.int res.1]) rfl ?_
  refine lv_iload hx hb d_law_728 (lv_at hl 1 rfl) ?_
  refine lv_icmp_eq (tgt := 735) hx hb d_law_730 (by decide) (fun _ => ?_) (fun h => absurd rfl h)
  refine lv_iload hx hb d_law_735 (lv_at hl 1 rfl) ?_
  refine lv_if_ne (tgt := 752) hx hb d_law_737 (by decide) (fun hk0 => ?_) (fun hk0 => ?_)
  · refine lv_goto (tgt := 1609) hx hb d_law_752 (by decide) ?_
    exact kk _ _ _ hP hR hS (lv_sub hl [2, 3, 4, 5, 6] rfl)
  · refine lv_aload_n hx hb d_law_740 rfl (lv_at hl 5 rfl) ?_
    refine lv_iconst (v := (0 : Int32)) hx hb d_law_741 (by decide) ?_
    refine va_lald (f := res.2.2) hx hb hK hP 37 28 rfl rfl vp_in01 d_law_742 ?_
    refine lv_iload hx hb d_law_743 (lv_at hl 0 rfl) ?_
    refine lv_i2l hx hb d_law_745 rfl ?_
    refine W.lcmp hx hb d_law_746 ?_
    refine lv_if_eq (tgt := 752) hx hb d_law_747 (by decide) (fun _ => ?_) (fun h => absurd ((lg_cmp_eq _ _).mpr (heq hk0)) h)
    refine lv_goto (tgt := 1609) hx hb d_law_752 (by decide) ?_
    exact kk _ _ _ hP hR hS (lv_sub hl [2, 3, 4, 5, 6] rfl)
set_option maxHeartbeats 4000000 in
set_option maxRecDepth 100000 in
theorem lc_trips {p : Program} {l : Launch} {e : Env} {s : State} {m : MethodId} {below : List Frame} {meth : Method} {c : Code} (h9 : l.stackTraces = false) {b L : Nat} {xs : Nat → Int32} (hL : L ≤ 3072) (C0 : lw_At p s m meth c b L xs) (hN : tW s) (hT : tT s) (hNc : va_Nc xIS xIA s) {D : va_G} {adC adR : Nat → Nat} {taC taR : Nat → ClassId} {o : Nat} {cO : ClassId} (hJ : lJ s adC adR o) (hK : va_K D clS (tyC taC ++ [(cO, .long)]) s) (hKR : va_K D clS (tyR taR) s) {i : Nat} (hi : i + 6 ≤ L) {σ τ τ' : tS} {f : Nat → Int64} {res : Int32 × tS × (Nat → Int64)} {bb : Int32} (hc : lf_trips (xs (nI i + (1 : Int32)).toNatClampNeg) (xs (nI i + (2 : Int32)).toNatClampNeg) σ f = some res) (hr : mf_R_trips (xs (nI i + (1 : Int32)).toNatClampNeg) (xs (nI i + (2 : Int32)).toNatClampNeg) τ = some (bb, τ')) (hth : mf_R_thrown τ' = some (res.1, τ')) (heq : res.1 = 0 → res.2.2 0 = bb.toInt64) {H : Heap} {locs : List Loc} {cells slots : Nat} (hcs : cells + 1 ≤ 601024 ∧ slots + 6 ≤ 7293034) (hP : va_P D clS (cwC adC taC σ ++ lO o cO f) H) (hR : va_P D clS (cwR adR taR τ) H) (hS : va_S (lB s) s.heap H locs) {ls : Array Slot} (hl : lv_has ls 7 [(0, .ref b), (1, .ref (adC 0)), (2, .ref (adR 0)), (3, .ref o), (4, .int (nI i))]) (kk : ∀ (H : Heap) (locs : List Loc) (ls : Array Slot), va_P D clS (cwC adC taC res.2.1 ++ lO o cO res.2.2) H → va_P D clS (cwR adR taR τ') H → va_S (lB s) s.heap H locs → lv_has ls 7 [(0, .ref b), (1, .ref (adC 0)), (2, .ref (adR 0)), (3, .ref o), (4, .int (nI i))] → W p l e room_1 s m #[Value.ref b] below meth c H locs (cells + 1) (slots + 6) (lw_Z below #[Value.ref b] s) (F0 m 1609 ls [])) : W p l e room_1 s m #[Value.ref b] below meth c H locs cells slots (lw_Z below #[Value.ref b] s) (F0 m 755 ls []) := by
  obtain ⟨hx, hb, hr0, hml, hown, hts, hX, hbl, hlocks, hgv⟩ := id C0
  have ht : ∀ w ∈ tw, w.before #[Value.ref b] s = true := fun w h => hts w (tw_in h)
  have hbA : ¬ lB s b := Nat.not_le.mpr hbl
  have hi1 : vp_in (nI i + (1 : Int32)) L := li_in (k := 1) (by decide) (by omega) hL
  have hi2 : vp_in (nI i + (2 : Int32)) L := li_in (k := 2) (by decide) (by omega) hL
  refine lv_aload_n hx hb d_law_755 rfl (lv_at hl 1 rfl) ?_
  refine lv_aload_n hx hb d_law_756 rfl (lv_at hl 0 rfl) ?_
  refine lv_iload hx hb d_law_757 (lv_at hl 4 rfl) ?_
  refine lv_iconst (v := (1 : Int32)) hx hb d_law_759 (by decide) ?_
  refine lv_iadd hx hb d_law_760 ?_
  refine va_sld hx hb hX hbl hbA hS hi1 d_law_761 ?_
  refine lv_aload_n hx hb d_law_762 rfl (lv_at hl 0 rfl) ?_
  refine lv_iload hx hb d_law_763 (lv_at hl 4 rfl) ?_
  refine lv_iconst (v := (2 : Int32)) hx hb d_law_765 (by decide) ?_
  refine lv_iadd hx hb d_law_766 ?_
  refine va_sld hx hb hX hbl hbA hS hi2 d_law_767 ?_
  refine lv_aload_n hx hb d_law_768 rfl (lv_at hl 3 rfl) ?_
  refine tr_call (tr_runSW (As := [.ref (adC 0), .int (xs (nI i + (1 : Int32)).toNatClampNeg), .int (xs (nI i + (2 : Int32)).toNatClampNeg), .ref o]) (rest := []) ⟨hx, hb, hml, hown, ht⟩ (lm_trips l h9 hJ.1 hJ.2.2.1 hc) ⟨rfl, rfl, (Nat.le_of_ble_eq_true rfl), (Nat.le_of_ble_eq_true rfl), pay_in ht (tw_G wl_trips), List.mem_cons_self⟩ (ht _ wl_trips) (ht _ wd_33) (ht _ wd_527) (ht _ wd_528) (by decide +kernel) (show (parseMethodDescriptor y_L_trips.desc).map (fun d => d.parameters.length) = some 4 by decide +kernel) ⟨lP_blind, fun U hU hW => ⟨rfl, by rw [hU]; exact hP, va_K.moved hW.alike hK, tW_warm hW hN, tT_law hT hS hU hW, va_Nc.moved hW.alike hNc⟩⟩ rfl hl.1 rfl (lv_room (Nat.le_of_ble_eq_true rfl)) d_law_769 hcs) hS (lc_in hJ) (lc_in hJ) (fun H locs hP hk hz hS => ?_)
  replace hR := lr_kept hJ hR hk
  refine W.eq (g2 := F0 m 772 ls [.int res.1]) rfl ?_
  refine lv_istore (lv' := [(5, .int res.1), (0, .ref b), (1, .ref (adC 0)), (2, .ref (adR 0)), (3, .ref o), (4, .int (nI i))]) hx hb d_law_772 hl (by decide) rfl (fun ls hl => ?_)
  refine lv_aload_n hx hb d_law_774 rfl (lv_at hl 3 rfl) ?_
  refine lv_aload_n hx hb d_law_775 rfl (lv_at hl 1 rfl) ?_
  refine lv_iload hx hb d_law_776 (lv_at hl 5 rfl) ?_
  refine lv_iconst (v := (1 : Int32)) hx hb d_law_778 (by decide) ?_
  refine lv_iadd hx hb d_law_779 ?_
  refine va_sld hx hb hX hbl hbA hS hi1 d_law_780 ?_
  refine lv_aload_n hx hb d_law_781 rfl (lv_at hl 1 rfl) ?_
  refine lv_iload hx hb d_law_782 (lv_at hl 5 rfl) ?_
  refine lv_iconst (v := (2 : Int32)) hx hb d_law_784 (by decide) ?_
  refine lv_iadd hx hb d_law_785 ?_
  refine va_sld hx hb hX hbl hbA hS hi2 d_law_786 ?_
  refine tr_call (va_runV (C := R_R) (As := [.int (xs (nI i + (1 : Int32)).toNatClampNeg), .int (xs (nI i + (2 : Int32)).toNatClampNeg)]) (rest := []) ⟨hx, hb, hml, hown, ht⟩ (mc_R_trips l hJ.2.1 hr) ⟨(tw_cb (n := 2) ht wc_R_trips wd_43 wd_849 ⟨rfl, rfl⟩ (by decide +kernel) ⟨(Nat.le_of_ble_eq_true rfl), (Nat.le_of_ble_eq_true rfl)⟩), ht _ wd_850, ht _ wd_851⟩ ⟨tP_blind, va_recv hKR hR (ci := 8) (q0 := 0) rfl rfl, fun U hU hW => ⟨rfl, by rw [hU]; exact hR, va_K.moved hW.alike hKR, tW_warm hW hN⟩⟩ rfl rfl hl.1 rfl (lv_room (Nat.le_of_ble_eq_true rfl)) d_law_787 hcs) hS (lr_in hJ) (lr_in hJ) (fun H locs hR hk hz hS => ?_)
  replace hP := lc_kept hJ (fun _ h => h) hP hk
  refine W.eq (g2 := F0 m 790 ls [.int bb]) rfl ?_
  refine lv_istore (lv' := [(6, .int bb), (5, .int res.1), (0, .ref b), (1, .ref (adC 0)), (2, .ref (adR 0)), (3, .ref o), (4, .int (nI i))]) hx hb d_law_790 hl (by decide) rfl (fun ls hl => ?_)
  refine lv_aload_n hx hb d_law_792 rfl (lv_at hl 4 rfl) ?_
  refine tr_call (va_runV (C := R_R) (As := []) (rest := []) ⟨hx, hb, hml, hown, ht⟩ (mc_R_thrown l hJ.2.1 hth) ⟨(tw_cb (n := 0) ht wc_R_thrown wd_43 wd_774 ⟨rfl, rfl⟩ (by decide +kernel) ⟨(Nat.le_of_ble_eq_true rfl), (Nat.le_of_ble_eq_true rfl)⟩), ht _ wd_775, ht _ wd_776⟩ ⟨tP_blind, va_recv hKR hR (ci := 8) (q0 := 0) rfl rfl, fun U hU hW => ⟨rfl, by rw [hU]; exact hR, va_K.moved hW.alike hKR, tW_warm hW hN⟩⟩ rfl rfl hl.1 rfl (lv_room (Nat.le_of_ble_eq_true rfl)) d_law_793 hcs) hS (fun _ h => h.elim) (fun _ h => h.elim) (fun H locs hR hk hz hS => ?_)
  replace hP := lc_kept hJ (fun _ h => h.elim) hP hk
  refine W.eq (g2 := F0 m 796 ls [.int res.1]) rfl ?_
  refine lv_iload hx hb d_law_796 (lv_at hl 1 rfl) ?_
  refine lv_icmp_eq (tgt := 803) hx hb d_law_798 (by decide) (fun _ => ?_) (fun h => absurd rfl h)
  refine lv_iload hx hb d_law_803 (lv_at hl 1 rfl) ?_
  refine lv_if_ne (tgt := 820) hx hb d_law_805 (by decide) (fun hk0 => ?_) (fun hk0 => ?_)
  · refine lv_goto (tgt := 1609) hx hb d_law_820 (by decide) ?_
    exact kk _ _ _ hP hR hS (lv_sub hl [2, 3, 4, 5, 6] rfl)
  · refine lv_aload_n hx hb d_law_808 rfl (lv_at hl 5 rfl) ?_
    refine lv_iconst (v := (0 : Int32)) hx hb d_law_809 (by decide) ?_
    refine va_lald (f := res.2.2) hx hb hK hP 37 28 rfl rfl vp_in01 d_law_810 ?_
    refine lv_iload hx hb d_law_811 (lv_at hl 0 rfl) ?_
    refine lv_i2l hx hb d_law_813 rfl ?_
    refine W.lcmp hx hb d_law_814 ?_
    refine lv_if_eq (tgt := 820) hx hb d_law_815 (by decide) (fun _ => ?_) (fun h => absurd ((lg_cmp_eq _ _).mpr (heq hk0)) h)
    refine lv_goto (tgt := 1609) hx hb d_law_820 (by decide) ?_
    exact kk _ _ _ hP hR hS (lv_sub hl [2, 3, 4, 5, 6] rfl)
set_option maxHeartbeats 4000000 in
set_option maxRecDepth 100000 in
theorem lc_sum {p : Program} {l : Launch} {e : Env} {s : State} {m : MethodId} {below : List Frame} {meth : Method} {c : Code} (h9 : l.stackTraces = false) {b L : Nat} {xs : Nat → Int32} (hL : L ≤ 3072) (C0 : lw_At p s m meth c b L xs) (hN : tW s) (hT : tT s) (hNc : va_Nc xIS xIA s) {D : va_G} {adC adR : Nat → Nat} {taC taR : Nat → ClassId} {o : Nat} {cO : ClassId} (hJ : lJ s adC adR o) (hK : va_K D clS (tyC taC ++ [(cO, .long)]) s) (hKR : va_K D clS (tyR taR) s) {i : Nat} (hi : i + 6 ≤ L) {σ τ τ' : tS} {f : Nat → Int64} {res : Int32 × tS × (Nat → Int64)} {bb : Int32} (hc : lf_sum (xs (nI i + (1 : Int32)).toNatClampNeg) (xs (nI i + (2 : Int32)).toNatClampNeg) σ f = some res) (hr : mf_R_sum (xs (nI i + (1 : Int32)).toNatClampNeg) (xs (nI i + (2 : Int32)).toNatClampNeg) τ = some (bb, τ')) (hth : mf_R_thrown τ' = some (res.1, τ')) (heq : res.1 = 0 → res.2.2 0 = bb.toInt64) {H : Heap} {locs : List Loc} {cells slots : Nat} (hcs : cells + 1 ≤ 601024 ∧ slots + 6 ≤ 7293034) (hP : va_P D clS (cwC adC taC σ ++ lO o cO f) H) (hR : va_P D clS (cwR adR taR τ) H) (hS : va_S (lB s) s.heap H locs) {ls : Array Slot} (hl : lv_has ls 7 [(0, .ref b), (1, .ref (adC 0)), (2, .ref (adR 0)), (3, .ref o), (4, .int (nI i))]) (kk : ∀ (H : Heap) (locs : List Loc) (ls : Array Slot), va_P D clS (cwC adC taC res.2.1 ++ lO o cO res.2.2) H → va_P D clS (cwR adR taR τ') H → va_S (lB s) s.heap H locs → lv_has ls 7 [(0, .ref b), (1, .ref (adC 0)), (2, .ref (adR 0)), (3, .ref o), (4, .int (nI i))] → W p l e room_1 s m #[Value.ref b] below meth c H locs (cells + 1) (slots + 6) (lw_Z below #[Value.ref b] s) (F0 m 1609 ls [])) : W p l e room_1 s m #[Value.ref b] below meth c H locs cells slots (lw_Z below #[Value.ref b] s) (F0 m 823 ls []) := by
  obtain ⟨hx, hb, hr0, hml, hown, hts, hX, hbl, hlocks, hgv⟩ := id C0
  have ht : ∀ w ∈ tw, w.before #[Value.ref b] s = true := fun w h => hts w (tw_in h)
  have hbA : ¬ lB s b := Nat.not_le.mpr hbl
  have hi1 : vp_in (nI i + (1 : Int32)) L := li_in (k := 1) (by decide) (by omega) hL
  have hi2 : vp_in (nI i + (2 : Int32)) L := li_in (k := 2) (by decide) (by omega) hL
  refine lv_aload_n hx hb d_law_823 rfl (lv_at hl 1 rfl) ?_
  refine lv_aload_n hx hb d_law_824 rfl (lv_at hl 0 rfl) ?_
  refine lv_iload hx hb d_law_825 (lv_at hl 4 rfl) ?_
  refine lv_iconst (v := (1 : Int32)) hx hb d_law_827 (by decide) ?_
  refine lv_iadd hx hb d_law_828 ?_
  refine va_sld hx hb hX hbl hbA hS hi1 d_law_829 ?_
  refine lv_aload_n hx hb d_law_830 rfl (lv_at hl 0 rfl) ?_
  refine lv_iload hx hb d_law_831 (lv_at hl 4 rfl) ?_
  refine lv_iconst (v := (2 : Int32)) hx hb d_law_833 (by decide) ?_
  refine lv_iadd hx hb d_law_834 ?_
  refine va_sld hx hb hX hbl hbA hS hi2 d_law_835 ?_
  refine lv_aload_n hx hb d_law_836 rfl (lv_at hl 3 rfl) ?_
  refine tr_call (tr_runSW (As := [.ref (adC 0), .int (xs (nI i + (1 : Int32)).toNatClampNeg), .int (xs (nI i + (2 : Int32)).toNatClampNeg), .ref o]) (rest := []) ⟨hx, hb, hml, hown, ht⟩ (lm_sum l h9 hJ.1 hJ.2.2.1 hc) ⟨rfl, rfl, (Nat.le_of_ble_eq_true rfl), (Nat.le_of_ble_eq_true rfl), pay_in ht (tw_G wl_sum), List.mem_cons_self⟩ (ht _ wl_sum) (ht _ wd_33) (ht _ wd_534) (ht _ wd_535) (by decide +kernel) (show (parseMethodDescriptor y_L_sum.desc).map (fun d => d.parameters.length) = some 4 by decide +kernel) ⟨lP_blind, fun U hU hW => ⟨rfl, by rw [hU]; exact hP, va_K.moved hW.alike hK, tW_warm hW hN, tT_law hT hS hU hW, va_Nc.moved hW.alike hNc⟩⟩ rfl hl.1 rfl (lv_room (Nat.le_of_ble_eq_true rfl)) d_law_837 hcs) hS (lc_in hJ) (lc_in hJ) (fun H locs hP hk hz hS => ?_)
  replace hR := lr_kept hJ hR hk
  refine W.eq (g2 := F0 m 840 ls [.int res.1]) rfl ?_
  refine lv_istore (lv' := [(5, .int res.1), (0, .ref b), (1, .ref (adC 0)), (2, .ref (adR 0)), (3, .ref o), (4, .int (nI i))]) hx hb d_law_840 hl (by decide) rfl (fun ls hl => ?_)
  refine lv_aload_n hx hb d_law_842 rfl (lv_at hl 3 rfl) ?_
  refine lv_aload_n hx hb d_law_843 rfl (lv_at hl 1 rfl) ?_
  refine lv_iload hx hb d_law_844 (lv_at hl 5 rfl) ?_
  refine lv_iconst (v := (1 : Int32)) hx hb d_law_846 (by decide) ?_
  refine lv_iadd hx hb d_law_847 ?_
  refine va_sld hx hb hX hbl hbA hS hi1 d_law_848 ?_
  refine lv_aload_n hx hb d_law_849 rfl (lv_at hl 1 rfl) ?_
  refine lv_iload hx hb d_law_850 (lv_at hl 5 rfl) ?_
  refine lv_iconst (v := (2 : Int32)) hx hb d_law_852 (by decide) ?_
  refine lv_iadd hx hb d_law_853 ?_
  refine va_sld hx hb hX hbl hbA hS hi2 d_law_854 ?_
  refine tr_call (va_runV (C := R_R) (As := [.int (xs (nI i + (1 : Int32)).toNatClampNeg), .int (xs (nI i + (2 : Int32)).toNatClampNeg)]) (rest := []) ⟨hx, hb, hml, hown, ht⟩ (mc_R_sum l hJ.2.1 hr) ⟨(tw_cb (n := 2) ht wc_R_sum wd_43 wd_853 ⟨rfl, rfl⟩ (by decide +kernel) ⟨(Nat.le_of_ble_eq_true rfl), (Nat.le_of_ble_eq_true rfl)⟩), ht _ wd_854, ht _ wd_855⟩ ⟨tP_blind, va_recv hKR hR (ci := 8) (q0 := 0) rfl rfl, fun U hU hW => ⟨rfl, by rw [hU]; exact hR, va_K.moved hW.alike hKR, tW_warm hW hN⟩⟩ rfl rfl hl.1 rfl (lv_room (Nat.le_of_ble_eq_true rfl)) d_law_855 hcs) hS (lr_in hJ) (lr_in hJ) (fun H locs hR hk hz hS => ?_)
  replace hP := lc_kept hJ (fun _ h => h) hP hk
  refine W.eq (g2 := F0 m 858 ls [.int bb]) rfl ?_
  refine lv_istore (lv' := [(6, .int bb), (5, .int res.1), (0, .ref b), (1, .ref (adC 0)), (2, .ref (adR 0)), (3, .ref o), (4, .int (nI i))]) hx hb d_law_858 hl (by decide) rfl (fun ls hl => ?_)
  refine lv_aload_n hx hb d_law_860 rfl (lv_at hl 4 rfl) ?_
  refine tr_call (va_runV (C := R_R) (As := []) (rest := []) ⟨hx, hb, hml, hown, ht⟩ (mc_R_thrown l hJ.2.1 hth) ⟨(tw_cb (n := 0) ht wc_R_thrown wd_43 wd_774 ⟨rfl, rfl⟩ (by decide +kernel) ⟨(Nat.le_of_ble_eq_true rfl), (Nat.le_of_ble_eq_true rfl)⟩), ht _ wd_775, ht _ wd_776⟩ ⟨tP_blind, va_recv hKR hR (ci := 8) (q0 := 0) rfl rfl, fun U hU hW => ⟨rfl, by rw [hU]; exact hR, va_K.moved hW.alike hKR, tW_warm hW hN⟩⟩ rfl rfl hl.1 rfl (lv_room (Nat.le_of_ble_eq_true rfl)) d_law_861 hcs) hS (fun _ h => h.elim) (fun _ h => h.elim) (fun H locs hR hk hz hS => ?_)
  replace hP := lc_kept hJ (fun _ h => h.elim) hP hk
  refine W.eq (g2 := F0 m 864 ls [.int res.1]) rfl ?_
  refine lv_iload hx hb d_law_864 (lv_at hl 1 rfl) ?_
  refine lv_icmp_eq (tgt := 871) hx hb d_law_866 (by decide) (fun _ => ?_) (fun h => absurd rfl h)
  refine lv_iload hx hb d_law_871 (lv_at hl 1 rfl) ?_
  refine lv_if_ne (tgt := 888) hx hb d_law_873 (by decide) (fun hk0 => ?_) (fun hk0 => ?_)
  · refine lv_goto (tgt := 1609) hx hb d_law_888 (by decide) ?_
    exact kk _ _ _ hP hR hS (lv_sub hl [2, 3, 4, 5, 6] rfl)
  · refine lv_aload_n hx hb d_law_876 rfl (lv_at hl 5 rfl) ?_
    refine lv_iconst (v := (0 : Int32)) hx hb d_law_877 (by decide) ?_
    refine va_lald (f := res.2.2) hx hb hK hP 37 28 rfl rfl vp_in01 d_law_878 ?_
    refine lv_iload hx hb d_law_879 (lv_at hl 0 rfl) ?_
    refine lv_i2l hx hb d_law_881 rfl ?_
    refine W.lcmp hx hb d_law_882 ?_
    refine lv_if_eq (tgt := 888) hx hb d_law_883 (by decide) (fun _ => ?_) (fun h => absurd ((lg_cmp_eq _ _).mpr (heq hk0)) h)
    refine lv_goto (tgt := 1609) hx hb d_law_888 (by decide) ?_
    exact kk _ _ _ hP hR hS (lv_sub hl [2, 3, 4, 5, 6] rfl)
set_option maxHeartbeats 4000000 in
set_option maxRecDepth 100000 in
theorem lc_factor {p : Program} {l : Launch} {e : Env} {s : State} {m : MethodId} {below : List Frame} {meth : Method} {c : Code} (h9 : l.stackTraces = false) {b L : Nat} {xs : Nat → Int32} (hL : L ≤ 3072) (C0 : lw_At p s m meth c b L xs) (hN : tW s) (hT : tT s) (hNc : va_Nc xIS xIA s) {D : va_G} {adC adR : Nat → Nat} {taC taR : Nat → ClassId} {o : Nat} {cO : ClassId} (hJ : lJ s adC adR o) (hK : va_K D clS (tyC taC ++ [(cO, .long)]) s) (hKR : va_K D clS (tyR taR) s) {i : Nat} (hi : i + 6 ≤ L) {σ τ τ' : tS} {f : Nat → Int64} {res : Int32 × tS × (Nat → Int64)} {bb : Int32} (hc : lf_factor (xs (nI i + (1 : Int32)).toNatClampNeg) σ f = some res) (hr : mf_R_factor (xs (nI i + (1 : Int32)).toNatClampNeg) τ = some (bb, τ')) (hth : mf_R_thrown τ' = some (res.1, τ')) (heq : res.1 = 0 → res.2.2 0 = bb.toInt64) {H : Heap} {locs : List Loc} {cells slots : Nat} (hcs : cells + 1 ≤ 601024 ∧ slots + 6 ≤ 7293034) (hP : va_P D clS (cwC adC taC σ ++ lO o cO f) H) (hR : va_P D clS (cwR adR taR τ) H) (hS : va_S (lB s) s.heap H locs) {ls : Array Slot} (hl : lv_has ls 7 [(0, .ref b), (1, .ref (adC 0)), (2, .ref (adR 0)), (3, .ref o), (4, .int (nI i))]) (kk : ∀ (H : Heap) (locs : List Loc) (ls : Array Slot), va_P D clS (cwC adC taC res.2.1 ++ lO o cO res.2.2) H → va_P D clS (cwR adR taR τ') H → va_S (lB s) s.heap H locs → lv_has ls 7 [(0, .ref b), (1, .ref (adC 0)), (2, .ref (adR 0)), (3, .ref o), (4, .int (nI i))] → W p l e room_1 s m #[Value.ref b] below meth c H locs (cells + 1) (slots + 6) (lw_Z below #[Value.ref b] s) (F0 m 1609 ls [])) : W p l e room_1 s m #[Value.ref b] below meth c H locs cells slots (lw_Z below #[Value.ref b] s) (F0 m 891 ls []) := by
  obtain ⟨hx, hb, hr0, hml, hown, hts, hX, hbl, hlocks, hgv⟩ := id C0
  have ht : ∀ w ∈ tw, w.before #[Value.ref b] s = true := fun w h => hts w (tw_in h)
  have hbA : ¬ lB s b := Nat.not_le.mpr hbl
  have hi1 : vp_in (nI i + (1 : Int32)) L := li_in (k := 1) (by decide) (by omega) hL
  refine lv_aload_n hx hb d_law_891 rfl (lv_at hl 1 rfl) ?_
  refine lv_aload_n hx hb d_law_892 rfl (lv_at hl 0 rfl) ?_
  refine lv_iload hx hb d_law_893 (lv_at hl 4 rfl) ?_
  refine lv_iconst (v := (1 : Int32)) hx hb d_law_895 (by decide) ?_
  refine lv_iadd hx hb d_law_896 ?_
  refine va_sld hx hb hX hbl hbA hS hi1 d_law_897 ?_
  refine lv_aload_n hx hb d_law_898 rfl (lv_at hl 3 rfl) ?_
  refine tr_call (tr_runSW (As := [.ref (adC 0), .int (xs (nI i + (1 : Int32)).toNatClampNeg), .ref o]) (rest := []) ⟨hx, hb, hml, hown, ht⟩ (lm_factor l h9 hJ.1 hJ.2.2.1 hc) ⟨rfl, rfl, (Nat.le_of_ble_eq_true rfl), (Nat.le_of_ble_eq_true rfl), pay_in ht (tw_G wl_factor), List.mem_cons_self⟩ (ht _ wl_factor) (ht _ wd_33) (ht _ wd_546) (ht _ wd_547) (by decide +kernel) (show (parseMethodDescriptor y_L_factor.desc).map (fun d => d.parameters.length) = some 3 by decide +kernel) ⟨lP_blind, fun U hU hW => ⟨rfl, by rw [hU]; exact hP, va_K.moved hW.alike hK, tW_warm hW hN, tT_law hT hS hU hW, va_Nc.moved hW.alike hNc⟩⟩ rfl hl.1 rfl (lv_room (Nat.le_of_ble_eq_true rfl)) d_law_899 hcs) hS (lc_in hJ) (lc_in hJ) (fun H locs hP hk hz hS => ?_)
  replace hR := lr_kept hJ hR hk
  refine W.eq (g2 := F0 m 902 ls [.int res.1]) rfl ?_
  refine lv_istore (lv' := [(5, .int res.1), (0, .ref b), (1, .ref (adC 0)), (2, .ref (adR 0)), (3, .ref o), (4, .int (nI i))]) hx hb d_law_902 hl (by decide) rfl (fun ls hl => ?_)
  refine lv_aload_n hx hb d_law_904 rfl (lv_at hl 3 rfl) ?_
  refine lv_aload_n hx hb d_law_905 rfl (lv_at hl 1 rfl) ?_
  refine lv_iload hx hb d_law_906 (lv_at hl 5 rfl) ?_
  refine lv_iconst (v := (1 : Int32)) hx hb d_law_908 (by decide) ?_
  refine lv_iadd hx hb d_law_909 ?_
  refine va_sld hx hb hX hbl hbA hS hi1 d_law_910 ?_
  refine tr_call (va_runV (C := R_R) (As := [.int (xs (nI i + (1 : Int32)).toNatClampNeg)]) (rest := []) ⟨hx, hb, hml, hown, ht⟩ (mc_R_factor l hJ.2.1 hr) ⟨(tw_cb (n := 1) ht wc_R_factor wd_43 wd_857 ⟨rfl, rfl⟩ (by decide +kernel) ⟨(Nat.le_of_ble_eq_true rfl), (Nat.le_of_ble_eq_true rfl)⟩), ht _ wd_858, ht _ wd_859⟩ ⟨tP_blind, va_recv hKR hR (ci := 8) (q0 := 0) rfl rfl, fun U hU hW => ⟨rfl, by rw [hU]; exact hR, va_K.moved hW.alike hKR, tW_warm hW hN⟩⟩ rfl rfl hl.1 rfl (lv_room (Nat.le_of_ble_eq_true rfl)) d_law_911 hcs) hS (lr_in hJ) (lr_in hJ) (fun H locs hR hk hz hS => ?_)
  replace hP := lc_kept hJ (fun _ h => h) hP hk
  refine W.eq (g2 := F0 m 914 ls [.int bb]) rfl ?_
  refine lv_istore (lv' := [(6, .int bb), (5, .int res.1), (0, .ref b), (1, .ref (adC 0)), (2, .ref (adR 0)), (3, .ref o), (4, .int (nI i))]) hx hb d_law_914 hl (by decide) rfl (fun ls hl => ?_)
  refine lv_aload_n hx hb d_law_916 rfl (lv_at hl 4 rfl) ?_
  refine tr_call (va_runV (C := R_R) (As := []) (rest := []) ⟨hx, hb, hml, hown, ht⟩ (mc_R_thrown l hJ.2.1 hth) ⟨(tw_cb (n := 0) ht wc_R_thrown wd_43 wd_774 ⟨rfl, rfl⟩ (by decide +kernel) ⟨(Nat.le_of_ble_eq_true rfl), (Nat.le_of_ble_eq_true rfl)⟩), ht _ wd_775, ht _ wd_776⟩ ⟨tP_blind, va_recv hKR hR (ci := 8) (q0 := 0) rfl rfl, fun U hU hW => ⟨rfl, by rw [hU]; exact hR, va_K.moved hW.alike hKR, tW_warm hW hN⟩⟩ rfl rfl hl.1 rfl (lv_room (Nat.le_of_ble_eq_true rfl)) d_law_917 hcs) hS (fun _ h => h.elim) (fun _ h => h.elim) (fun H locs hR hk hz hS => ?_)
  replace hP := lc_kept hJ (fun _ h => h.elim) hP hk
  refine W.eq (g2 := F0 m 920 ls [.int res.1]) rfl ?_
  refine lv_iload hx hb d_law_920 (lv_at hl 1 rfl) ?_
  refine lv_icmp_eq (tgt := 927) hx hb d_law_922 (by decide) (fun _ => ?_) (fun h => absurd rfl h)
  refine lv_iload hx hb d_law_927 (lv_at hl 1 rfl) ?_
  refine lv_if_ne (tgt := 944) hx hb d_law_929 (by decide) (fun hk0 => ?_) (fun hk0 => ?_)
  · refine lv_goto (tgt := 1609) hx hb d_law_944 (by decide) ?_
    exact kk _ _ _ hP hR hS (lv_sub hl [2, 3, 4, 5, 6] rfl)
  · refine lv_aload_n hx hb d_law_932 rfl (lv_at hl 5 rfl) ?_
    refine lv_iconst (v := (0 : Int32)) hx hb d_law_933 (by decide) ?_
    refine va_lald (f := res.2.2) hx hb hK hP 37 28 rfl rfl vp_in01 d_law_934 ?_
    refine lv_iload hx hb d_law_935 (lv_at hl 0 rfl) ?_
    refine lv_i2l hx hb d_law_937 rfl ?_
    refine W.lcmp hx hb d_law_938 ?_
    refine lv_if_eq (tgt := 944) hx hb d_law_939 (by decide) (fun _ => ?_) (fun h => absurd ((lg_cmp_eq _ _).mpr (heq hk0)) h)
    refine lv_goto (tgt := 1609) hx hb d_law_944 (by decide) ?_
    exact kk _ _ _ hP hR hS (lv_sub hl [2, 3, 4, 5, 6] rfl)
set_option maxHeartbeats 4000000 in
set_option maxRecDepth 100000 in
theorem lc_pull {p : Program} {l : Launch} {e : Env} {s : State} {m : MethodId} {below : List Frame} {meth : Method} {c : Code} (h9 : l.stackTraces = false) {b L : Nat} {xs : Nat → Int32} (hL : L ≤ 3072) (C0 : lw_At p s m meth c b L xs) (hN : tW s) (hT : tT s) (hNc : va_Nc xIS xIA s) {D : va_G} {adC adR : Nat → Nat} {taC taR : Nat → ClassId} {o : Nat} {cO : ClassId} (hJ : lJ s adC adR o) (hK : va_K D clS (tyC taC ++ [(cO, .long)]) s) (hKR : va_K D clS (tyR taR) s) {i : Nat} (hi : i + 6 ≤ L) {σ τ τ' : tS} {f : Nat → Int64} {res : Int32 × tS × (Nat → Int64)} {bb : Int32} (hc : lf_pull (xs (nI i + (1 : Int32)).toNatClampNeg) (xs (nI i + (2 : Int32)).toNatClampNeg) (xs (nI i + (3 : Int32)).toNatClampNeg) (xs (nI i + (4 : Int32)).toNatClampNeg) σ f = some res) (hr : mf_R_pull (xs (nI i + (1 : Int32)).toNatClampNeg) (xs (nI i + (2 : Int32)).toNatClampNeg) (xs (nI i + (3 : Int32)).toNatClampNeg) (xs (nI i + (4 : Int32)).toNatClampNeg) τ = some (bb, τ')) (hth : mf_R_thrown τ' = some (res.1, τ')) (heq : res.1 = 0 → res.2.2 0 = bb.toInt64) {H : Heap} {locs : List Loc} {cells slots : Nat} (hcs : cells + 1 ≤ 601024 ∧ slots + 6 ≤ 7293034) (hP : va_P D clS (cwC adC taC σ ++ lO o cO f) H) (hR : va_P D clS (cwR adR taR τ) H) (hS : va_S (lB s) s.heap H locs) {ls : Array Slot} (hl : lv_has ls 7 [(0, .ref b), (1, .ref (adC 0)), (2, .ref (adR 0)), (3, .ref o), (4, .int (nI i))]) (kk : ∀ (H : Heap) (locs : List Loc) (ls : Array Slot), va_P D clS (cwC adC taC res.2.1 ++ lO o cO res.2.2) H → va_P D clS (cwR adR taR τ') H → va_S (lB s) s.heap H locs → lv_has ls 7 [(0, .ref b), (1, .ref (adC 0)), (2, .ref (adR 0)), (3, .ref o), (4, .int (nI i))] → W p l e room_1 s m #[Value.ref b] below meth c H locs (cells + 1) (slots + 6) (lw_Z below #[Value.ref b] s) (F0 m 1609 ls [])) : W p l e room_1 s m #[Value.ref b] below meth c H locs cells slots (lw_Z below #[Value.ref b] s) (F0 m 947 ls []) := by
  obtain ⟨hx, hb, hr0, hml, hown, hts, hX, hbl, hlocks, hgv⟩ := id C0
  have ht : ∀ w ∈ tw, w.before #[Value.ref b] s = true := fun w h => hts w (tw_in h)
  have hbA : ¬ lB s b := Nat.not_le.mpr hbl
  have hi1 : vp_in (nI i + (1 : Int32)) L := li_in (k := 1) (by decide) (by omega) hL
  have hi2 : vp_in (nI i + (2 : Int32)) L := li_in (k := 2) (by decide) (by omega) hL
  have hi3 : vp_in (nI i + (3 : Int32)) L := li_in (k := 3) (by decide) (by omega) hL
  have hi4 : vp_in (nI i + (4 : Int32)) L := li_in (k := 4) (by decide) (by omega) hL
  refine lv_aload_n hx hb d_law_947 rfl (lv_at hl 1 rfl) ?_
  refine lv_aload_n hx hb d_law_948 rfl (lv_at hl 0 rfl) ?_
  refine lv_iload hx hb d_law_949 (lv_at hl 4 rfl) ?_
  refine lv_iconst (v := (1 : Int32)) hx hb d_law_951 (by decide) ?_
  refine lv_iadd hx hb d_law_952 ?_
  refine va_sld hx hb hX hbl hbA hS hi1 d_law_953 ?_
  refine lv_aload_n hx hb d_law_954 rfl (lv_at hl 0 rfl) ?_
  refine lv_iload hx hb d_law_955 (lv_at hl 4 rfl) ?_
  refine lv_iconst (v := (2 : Int32)) hx hb d_law_957 (by decide) ?_
  refine lv_iadd hx hb d_law_958 ?_
  refine va_sld hx hb hX hbl hbA hS hi2 d_law_959 ?_
  refine lv_aload_n hx hb d_law_960 rfl (lv_at hl 0 rfl) ?_
  refine lv_iload hx hb d_law_961 (lv_at hl 4 rfl) ?_
  refine lv_iconst (v := (3 : Int32)) hx hb d_law_963 (by decide) ?_
  refine lv_iadd hx hb d_law_964 ?_
  refine va_sld hx hb hX hbl hbA hS hi3 d_law_965 ?_
  refine lv_aload_n hx hb d_law_966 rfl (lv_at hl 0 rfl) ?_
  refine lv_iload hx hb d_law_967 (lv_at hl 4 rfl) ?_
  refine lv_iconst (v := (4 : Int32)) hx hb d_law_969 (by decide) ?_
  refine lv_iadd hx hb d_law_970 ?_
  refine va_sld hx hb hX hbl hbA hS hi4 d_law_971 ?_
  refine lv_aload_n hx hb d_law_972 rfl (lv_at hl 3 rfl) ?_
  refine tr_call (tr_runSW (As := [.ref (adC 0), .int (xs (nI i + (1 : Int32)).toNatClampNeg), .int (xs (nI i + (2 : Int32)).toNatClampNeg), .int (xs (nI i + (3 : Int32)).toNatClampNeg), .int (xs (nI i + (4 : Int32)).toNatClampNeg), .ref o]) (rest := []) ⟨hx, hb, hml, hown, ht⟩ (lm_pull l h9 hJ.1 hJ.2.2.1 hc) ⟨rfl, rfl, (Nat.le_of_ble_eq_true rfl), (Nat.le_of_ble_eq_true rfl), pay_in ht (tw_G wl_pull), List.mem_cons_self⟩ (ht _ wl_pull) (ht _ wd_33) (ht _ wd_553) (ht _ wd_554) (by decide +kernel) (show (parseMethodDescriptor y_L_pull.desc).map (fun d => d.parameters.length) = some 6 by decide +kernel) ⟨lP_blind, fun U hU hW => ⟨rfl, by rw [hU]; exact hP, va_K.moved hW.alike hK, tW_warm hW hN, tT_law hT hS hU hW, va_Nc.moved hW.alike hNc⟩⟩ rfl hl.1 rfl (lv_room (Nat.le_of_ble_eq_true rfl)) d_law_973 hcs) hS (lc_in hJ) (lc_in hJ) (fun H locs hP hk hz hS => ?_)
  replace hR := lr_kept hJ hR hk
  refine W.eq (g2 := F0 m 976 ls [.int res.1]) rfl ?_
  refine lv_istore (lv' := [(5, .int res.1), (0, .ref b), (1, .ref (adC 0)), (2, .ref (adR 0)), (3, .ref o), (4, .int (nI i))]) hx hb d_law_976 hl (by decide) rfl (fun ls hl => ?_)
  refine lv_aload_n hx hb d_law_978 rfl (lv_at hl 3 rfl) ?_
  refine lv_aload_n hx hb d_law_979 rfl (lv_at hl 1 rfl) ?_
  refine lv_iload hx hb d_law_980 (lv_at hl 5 rfl) ?_
  refine lv_iconst (v := (1 : Int32)) hx hb d_law_982 (by decide) ?_
  refine lv_iadd hx hb d_law_983 ?_
  refine va_sld hx hb hX hbl hbA hS hi1 d_law_984 ?_
  refine lv_aload_n hx hb d_law_985 rfl (lv_at hl 1 rfl) ?_
  refine lv_iload hx hb d_law_986 (lv_at hl 5 rfl) ?_
  refine lv_iconst (v := (2 : Int32)) hx hb d_law_988 (by decide) ?_
  refine lv_iadd hx hb d_law_989 ?_
  refine va_sld hx hb hX hbl hbA hS hi2 d_law_990 ?_
  refine lv_aload_n hx hb d_law_991 rfl (lv_at hl 1 rfl) ?_
  refine lv_iload hx hb d_law_992 (lv_at hl 5 rfl) ?_
  refine lv_iconst (v := (3 : Int32)) hx hb d_law_994 (by decide) ?_
  refine lv_iadd hx hb d_law_995 ?_
  refine va_sld hx hb hX hbl hbA hS hi3 d_law_996 ?_
  refine lv_aload_n hx hb d_law_997 rfl (lv_at hl 1 rfl) ?_
  refine lv_iload hx hb d_law_998 (lv_at hl 5 rfl) ?_
  refine lv_iconst (v := (4 : Int32)) hx hb d_law_1000 (by decide) ?_
  refine lv_iadd hx hb d_law_1001 ?_
  refine va_sld hx hb hX hbl hbA hS hi4 d_law_1002 ?_
  refine tr_call (va_runV (C := R_R) (As := [.int (xs (nI i + (1 : Int32)).toNatClampNeg), .int (xs (nI i + (2 : Int32)).toNatClampNeg), .int (xs (nI i + (3 : Int32)).toNatClampNeg), .int (xs (nI i + (4 : Int32)).toNatClampNeg)]) (rest := []) ⟨hx, hb, hml, hown, ht⟩ (mc_R_pull l hJ.2.1 hr) ⟨(tw_cb (n := 4) ht wc_R_pull wd_43 wd_861 ⟨rfl, rfl⟩ (by decide +kernel) ⟨(Nat.le_of_ble_eq_true rfl), (Nat.le_of_ble_eq_true rfl)⟩), ht _ wd_862, ht _ wd_863⟩ ⟨tP_blind, va_recv hKR hR (ci := 8) (q0 := 0) rfl rfl, fun U hU hW => ⟨rfl, by rw [hU]; exact hR, va_K.moved hW.alike hKR, tW_warm hW hN⟩⟩ rfl rfl hl.1 rfl (lv_room (Nat.le_of_ble_eq_true rfl)) d_law_1003 hcs) hS (lr_in hJ) (lr_in hJ) (fun H locs hR hk hz hS => ?_)
  replace hP := lc_kept hJ (fun _ h => h) hP hk
  refine W.eq (g2 := F0 m 1006 ls [.int bb]) rfl ?_
  refine lv_istore (lv' := [(6, .int bb), (5, .int res.1), (0, .ref b), (1, .ref (adC 0)), (2, .ref (adR 0)), (3, .ref o), (4, .int (nI i))]) hx hb d_law_1006 hl (by decide) rfl (fun ls hl => ?_)
  refine lv_aload_n hx hb d_law_1008 rfl (lv_at hl 4 rfl) ?_
  refine tr_call (va_runV (C := R_R) (As := []) (rest := []) ⟨hx, hb, hml, hown, ht⟩ (mc_R_thrown l hJ.2.1 hth) ⟨(tw_cb (n := 0) ht wc_R_thrown wd_43 wd_774 ⟨rfl, rfl⟩ (by decide +kernel) ⟨(Nat.le_of_ble_eq_true rfl), (Nat.le_of_ble_eq_true rfl)⟩), ht _ wd_775, ht _ wd_776⟩ ⟨tP_blind, va_recv hKR hR (ci := 8) (q0 := 0) rfl rfl, fun U hU hW => ⟨rfl, by rw [hU]; exact hR, va_K.moved hW.alike hKR, tW_warm hW hN⟩⟩ rfl rfl hl.1 rfl (lv_room (Nat.le_of_ble_eq_true rfl)) d_law_1009 hcs) hS (fun _ h => h.elim) (fun _ h => h.elim) (fun H locs hR hk hz hS => ?_)
  replace hP := lc_kept hJ (fun _ h => h.elim) hP hk
  refine W.eq (g2 := F0 m 1012 ls [.int res.1]) rfl ?_
  refine lv_iload hx hb d_law_1012 (lv_at hl 1 rfl) ?_
  refine lv_icmp_eq (tgt := 1019) hx hb d_law_1014 (by decide) (fun _ => ?_) (fun h => absurd rfl h)
  refine lv_iload hx hb d_law_1019 (lv_at hl 1 rfl) ?_
  refine lv_if_ne (tgt := 1036) hx hb d_law_1021 (by decide) (fun hk0 => ?_) (fun hk0 => ?_)
  · refine lv_goto (tgt := 1609) hx hb d_law_1036 (by decide) ?_
    exact kk _ _ _ hP hR hS (lv_sub hl [2, 3, 4, 5, 6] rfl)
  · refine lv_aload_n hx hb d_law_1024 rfl (lv_at hl 5 rfl) ?_
    refine lv_iconst (v := (0 : Int32)) hx hb d_law_1025 (by decide) ?_
    refine va_lald (f := res.2.2) hx hb hK hP 37 28 rfl rfl vp_in01 d_law_1026 ?_
    refine lv_iload hx hb d_law_1027 (lv_at hl 0 rfl) ?_
    refine lv_i2l hx hb d_law_1029 rfl ?_
    refine W.lcmp hx hb d_law_1030 ?_
    refine lv_if_eq (tgt := 1036) hx hb d_law_1031 (by decide) (fun _ => ?_) (fun h => absurd ((lg_cmp_eq _ _).mpr (heq hk0)) h)
    refine lv_goto (tgt := 1609) hx hb d_law_1036 (by decide) ?_
    exact kk _ _ _ hP hR hS (lv_sub hl [2, 3, 4, 5, 6] rfl)
set_option maxHeartbeats 4000000 in
set_option maxRecDepth 100000 in
theorem lc_chosen {p : Program} {l : Launch} {e : Env} {s : State} {m : MethodId} {below : List Frame} {meth : Method} {c : Code} (h9 : l.stackTraces = false) {b L : Nat} {xs : Nat → Int32} (hL : L ≤ 3072) (C0 : lw_At p s m meth c b L xs) (hN : tW s) (hT : tT s) (hNc : va_Nc xIS xIA s) {D : va_G} {adC adR : Nat → Nat} {taC taR : Nat → ClassId} {o : Nat} {cO : ClassId} (hJ : lJ s adC adR o) (hK : va_K D clS (tyC taC ++ [(cO, .long)]) s) (hKR : va_K D clS (tyR taR) s) {i : Nat} (hi : i + 6 ≤ L) {σ τ τ' : tS} {f : Nat → Int64} {res : Int32 × tS × (Nat → Int64)} {bb : Int32} (hc : lf_chosen (xs (nI i + (1 : Int32)).toNatClampNeg) (xs (nI i + (2 : Int32)).toNatClampNeg) (xs (nI i + (3 : Int32)).toNatClampNeg) σ f = some res) (hr : mf_R_chosen (xs (nI i + (1 : Int32)).toNatClampNeg) (xs (nI i + (2 : Int32)).toNatClampNeg) (xs (nI i + (3 : Int32)).toNatClampNeg) τ = some (bb, τ')) (hth : mf_R_thrown τ' = some (res.1, τ')) (heq : res.1 = 0 → res.2.2 0 = bb.toInt64) {H : Heap} {locs : List Loc} {cells slots : Nat} (hcs : cells + 1 ≤ 601024 ∧ slots + 6 ≤ 7293034) (hP : va_P D clS (cwC adC taC σ ++ lO o cO f) H) (hR : va_P D clS (cwR adR taR τ) H) (hS : va_S (lB s) s.heap H locs) {ls : Array Slot} (hl : lv_has ls 7 [(0, .ref b), (1, .ref (adC 0)), (2, .ref (adR 0)), (3, .ref o), (4, .int (nI i))]) (kk : ∀ (H : Heap) (locs : List Loc) (ls : Array Slot), va_P D clS (cwC adC taC res.2.1 ++ lO o cO res.2.2) H → va_P D clS (cwR adR taR τ') H → va_S (lB s) s.heap H locs → lv_has ls 7 [(0, .ref b), (1, .ref (adC 0)), (2, .ref (adR 0)), (3, .ref o), (4, .int (nI i))] → W p l e room_1 s m #[Value.ref b] below meth c H locs (cells + 1) (slots + 6) (lw_Z below #[Value.ref b] s) (F0 m 1609 ls [])) : W p l e room_1 s m #[Value.ref b] below meth c H locs cells slots (lw_Z below #[Value.ref b] s) (F0 m 1039 ls []) := by
  obtain ⟨hx, hb, hr0, hml, hown, hts, hX, hbl, hlocks, hgv⟩ := id C0
  have ht : ∀ w ∈ tw, w.before #[Value.ref b] s = true := fun w h => hts w (tw_in h)
  have hbA : ¬ lB s b := Nat.not_le.mpr hbl
  have hi1 : vp_in (nI i + (1 : Int32)) L := li_in (k := 1) (by decide) (by omega) hL
  have hi2 : vp_in (nI i + (2 : Int32)) L := li_in (k := 2) (by decide) (by omega) hL
  have hi3 : vp_in (nI i + (3 : Int32)) L := li_in (k := 3) (by decide) (by omega) hL
  refine lv_aload_n hx hb d_law_1039 rfl (lv_at hl 1 rfl) ?_
  refine lv_aload_n hx hb d_law_1040 rfl (lv_at hl 0 rfl) ?_
  refine lv_iload hx hb d_law_1041 (lv_at hl 4 rfl) ?_
  refine lv_iconst (v := (1 : Int32)) hx hb d_law_1043 (by decide) ?_
  refine lv_iadd hx hb d_law_1044 ?_
  refine va_sld hx hb hX hbl hbA hS hi1 d_law_1045 ?_
  refine lv_aload_n hx hb d_law_1046 rfl (lv_at hl 0 rfl) ?_
  refine lv_iload hx hb d_law_1047 (lv_at hl 4 rfl) ?_
  refine lv_iconst (v := (2 : Int32)) hx hb d_law_1049 (by decide) ?_
  refine lv_iadd hx hb d_law_1050 ?_
  refine va_sld hx hb hX hbl hbA hS hi2 d_law_1051 ?_
  refine lv_aload_n hx hb d_law_1052 rfl (lv_at hl 0 rfl) ?_
  refine lv_iload hx hb d_law_1053 (lv_at hl 4 rfl) ?_
  refine lv_iconst (v := (3 : Int32)) hx hb d_law_1055 (by decide) ?_
  refine lv_iadd hx hb d_law_1056 ?_
  refine va_sld hx hb hX hbl hbA hS hi3 d_law_1057 ?_
  refine lv_aload_n hx hb d_law_1058 rfl (lv_at hl 3 rfl) ?_
  refine tr_call (tr_runSW (As := [.ref (adC 0), .int (xs (nI i + (1 : Int32)).toNatClampNeg), .int (xs (nI i + (2 : Int32)).toNatClampNeg), .int (xs (nI i + (3 : Int32)).toNatClampNeg), .ref o]) (rest := []) ⟨hx, hb, hml, hown, ht⟩ (lm_chosen l h9 hJ.1 hJ.2.2.1 hc) ⟨rfl, rfl, (Nat.le_of_ble_eq_true rfl), (Nat.le_of_ble_eq_true rfl), pay_in ht (tw_G wl_chosen), List.mem_cons_self⟩ (ht _ wl_chosen) (ht _ wd_33) (ht _ wd_561) (ht _ wd_562) (by decide +kernel) (show (parseMethodDescriptor y_L_chosen.desc).map (fun d => d.parameters.length) = some 5 by decide +kernel) ⟨lP_blind, fun U hU hW => ⟨rfl, by rw [hU]; exact hP, va_K.moved hW.alike hK, tW_warm hW hN, tT_law hT hS hU hW, va_Nc.moved hW.alike hNc⟩⟩ rfl hl.1 rfl (lv_room (Nat.le_of_ble_eq_true rfl)) d_law_1059 hcs) hS (lc_in hJ) (lc_in hJ) (fun H locs hP hk hz hS => ?_)
  replace hR := lr_kept hJ hR hk
  refine W.eq (g2 := F0 m 1062 ls [.int res.1]) rfl ?_
  refine lv_istore (lv' := [(5, .int res.1), (0, .ref b), (1, .ref (adC 0)), (2, .ref (adR 0)), (3, .ref o), (4, .int (nI i))]) hx hb d_law_1062 hl (by decide) rfl (fun ls hl => ?_)
  refine lv_aload_n hx hb d_law_1064 rfl (lv_at hl 3 rfl) ?_
  refine lv_aload_n hx hb d_law_1065 rfl (lv_at hl 1 rfl) ?_
  refine lv_iload hx hb d_law_1066 (lv_at hl 5 rfl) ?_
  refine lv_iconst (v := (1 : Int32)) hx hb d_law_1068 (by decide) ?_
  refine lv_iadd hx hb d_law_1069 ?_
  refine va_sld hx hb hX hbl hbA hS hi1 d_law_1070 ?_
  refine lv_aload_n hx hb d_law_1071 rfl (lv_at hl 1 rfl) ?_
  refine lv_iload hx hb d_law_1072 (lv_at hl 5 rfl) ?_
  refine lv_iconst (v := (2 : Int32)) hx hb d_law_1074 (by decide) ?_
  refine lv_iadd hx hb d_law_1075 ?_
  refine va_sld hx hb hX hbl hbA hS hi2 d_law_1076 ?_
  refine lv_aload_n hx hb d_law_1077 rfl (lv_at hl 1 rfl) ?_
  refine lv_iload hx hb d_law_1078 (lv_at hl 5 rfl) ?_
  refine lv_iconst (v := (3 : Int32)) hx hb d_law_1080 (by decide) ?_
  refine lv_iadd hx hb d_law_1081 ?_
  refine va_sld hx hb hX hbl hbA hS hi3 d_law_1082 ?_
  refine tr_call (va_runV (C := R_R) (As := [.int (xs (nI i + (1 : Int32)).toNatClampNeg), .int (xs (nI i + (2 : Int32)).toNatClampNeg), .int (xs (nI i + (3 : Int32)).toNatClampNeg)]) (rest := []) ⟨hx, hb, hml, hown, ht⟩ (mc_R_chosen l hJ.2.1 hr) ⟨(tw_cb (n := 3) ht wc_R_chosen wd_43 wd_865 ⟨rfl, rfl⟩ (by decide +kernel) ⟨(Nat.le_of_ble_eq_true rfl), (Nat.le_of_ble_eq_true rfl)⟩), ht _ wd_866, ht _ wd_867⟩ ⟨tP_blind, va_recv hKR hR (ci := 8) (q0 := 0) rfl rfl, fun U hU hW => ⟨rfl, by rw [hU]; exact hR, va_K.moved hW.alike hKR, tW_warm hW hN⟩⟩ rfl rfl hl.1 rfl (lv_room (Nat.le_of_ble_eq_true rfl)) d_law_1083 hcs) hS (lr_in hJ) (lr_in hJ) (fun H locs hR hk hz hS => ?_)
  replace hP := lc_kept hJ (fun _ h => h) hP hk
  refine W.eq (g2 := F0 m 1086 ls [.int bb]) rfl ?_
  refine lv_istore (lv' := [(6, .int bb), (5, .int res.1), (0, .ref b), (1, .ref (adC 0)), (2, .ref (adR 0)), (3, .ref o), (4, .int (nI i))]) hx hb d_law_1086 hl (by decide) rfl (fun ls hl => ?_)
  refine lv_aload_n hx hb d_law_1088 rfl (lv_at hl 4 rfl) ?_
  refine tr_call (va_runV (C := R_R) (As := []) (rest := []) ⟨hx, hb, hml, hown, ht⟩ (mc_R_thrown l hJ.2.1 hth) ⟨(tw_cb (n := 0) ht wc_R_thrown wd_43 wd_774 ⟨rfl, rfl⟩ (by decide +kernel) ⟨(Nat.le_of_ble_eq_true rfl), (Nat.le_of_ble_eq_true rfl)⟩), ht _ wd_775, ht _ wd_776⟩ ⟨tP_blind, va_recv hKR hR (ci := 8) (q0 := 0) rfl rfl, fun U hU hW => ⟨rfl, by rw [hU]; exact hR, va_K.moved hW.alike hKR, tW_warm hW hN⟩⟩ rfl rfl hl.1 rfl (lv_room (Nat.le_of_ble_eq_true rfl)) d_law_1089 hcs) hS (fun _ h => h.elim) (fun _ h => h.elim) (fun H locs hR hk hz hS => ?_)
  replace hP := lc_kept hJ (fun _ h => h.elim) hP hk
  refine W.eq (g2 := F0 m 1092 ls [.int res.1]) rfl ?_
  refine lv_iload hx hb d_law_1092 (lv_at hl 1 rfl) ?_
  refine lv_icmp_eq (tgt := 1099) hx hb d_law_1094 (by decide) (fun _ => ?_) (fun h => absurd rfl h)
  refine lv_iload hx hb d_law_1099 (lv_at hl 1 rfl) ?_
  refine lv_if_ne (tgt := 1116) hx hb d_law_1101 (by decide) (fun hk0 => ?_) (fun hk0 => ?_)
  · refine lv_goto (tgt := 1609) hx hb d_law_1116 (by decide) ?_
    exact kk _ _ _ hP hR hS (lv_sub hl [2, 3, 4, 5, 6] rfl)
  · refine lv_aload_n hx hb d_law_1104 rfl (lv_at hl 5 rfl) ?_
    refine lv_iconst (v := (0 : Int32)) hx hb d_law_1105 (by decide) ?_
    refine va_lald (f := res.2.2) hx hb hK hP 37 28 rfl rfl vp_in01 d_law_1106 ?_
    refine lv_iload hx hb d_law_1107 (lv_at hl 0 rfl) ?_
    refine lv_i2l hx hb d_law_1109 rfl ?_
    refine W.lcmp hx hb d_law_1110 ?_
    refine lv_if_eq (tgt := 1116) hx hb d_law_1111 (by decide) (fun _ => ?_) (fun h => absurd ((lg_cmp_eq _ _).mpr (heq hk0)) h)
    refine lv_goto (tgt := 1609) hx hb d_law_1116 (by decide) ?_
    exact kk _ _ _ hP hR hS (lv_sub hl [2, 3, 4, 5, 6] rfl)
set_option maxHeartbeats 4000000 in
set_option maxRecDepth 100000 in
theorem lc_assign {p : Program} {l : Launch} {e : Env} {s : State} {m : MethodId} {below : List Frame} {meth : Method} {c : Code} (h9 : l.stackTraces = false) {b L : Nat} {xs : Nat → Int32} (hL : L ≤ 3072) (C0 : lw_At p s m meth c b L xs) (hN : tW s) (hT : tT s) (hNc : va_Nc xIS xIA s) {D : va_G} {adC adR : Nat → Nat} {taC taR : Nat → ClassId} {o : Nat} {cO : ClassId} (hJ : lJ s adC adR o) (hK : va_K D clS (tyC taC ++ [(cO, .long)]) s) (hKR : va_K D clS (tyR taR) s) {i : Nat} (hi : i + 6 ≤ L) {σ τ τ' : tS} {f : Nat → Int64} {res : Int32 × tS × (Nat → Int64)} {bb : Int32} (hc : lf_assign (xs (nI i + (1 : Int32)).toNatClampNeg) σ f = some res) (hr : mf_R_assign (xs (nI i + (1 : Int32)).toNatClampNeg) τ = some (bb, τ')) (hth : mf_R_thrown τ' = some (res.1, τ')) (heq : res.1 = 0 → res.2.2 0 = bb.toInt64) {H : Heap} {locs : List Loc} {cells slots : Nat} (hcs : cells + 1 ≤ 601024 ∧ slots + 6 ≤ 7293034) (hP : va_P D clS (cwC adC taC σ ++ lO o cO f) H) (hR : va_P D clS (cwR adR taR τ) H) (hS : va_S (lB s) s.heap H locs) {ls : Array Slot} (hl : lv_has ls 7 [(0, .ref b), (1, .ref (adC 0)), (2, .ref (adR 0)), (3, .ref o), (4, .int (nI i))]) (kk : ∀ (H : Heap) (locs : List Loc) (ls : Array Slot), va_P D clS (cwC adC taC res.2.1 ++ lO o cO res.2.2) H → va_P D clS (cwR adR taR τ') H → va_S (lB s) s.heap H locs → lv_has ls 7 [(0, .ref b), (1, .ref (adC 0)), (2, .ref (adR 0)), (3, .ref o), (4, .int (nI i))] → W p l e room_1 s m #[Value.ref b] below meth c H locs (cells + 1) (slots + 6) (lw_Z below #[Value.ref b] s) (F0 m 1609 ls [])) : W p l e room_1 s m #[Value.ref b] below meth c H locs cells slots (lw_Z below #[Value.ref b] s) (F0 m 1119 ls []) := by
  obtain ⟨hx, hb, hr0, hml, hown, hts, hX, hbl, hlocks, hgv⟩ := id C0
  have ht : ∀ w ∈ tw, w.before #[Value.ref b] s = true := fun w h => hts w (tw_in h)
  have hbA : ¬ lB s b := Nat.not_le.mpr hbl
  have hi1 : vp_in (nI i + (1 : Int32)) L := li_in (k := 1) (by decide) (by omega) hL
  refine lv_aload_n hx hb d_law_1119 rfl (lv_at hl 1 rfl) ?_
  refine lv_aload_n hx hb d_law_1120 rfl (lv_at hl 0 rfl) ?_
  refine lv_iload hx hb d_law_1121 (lv_at hl 4 rfl) ?_
  refine lv_iconst (v := (1 : Int32)) hx hb d_law_1123 (by decide) ?_
  refine lv_iadd hx hb d_law_1124 ?_
  refine va_sld hx hb hX hbl hbA hS hi1 d_law_1125 ?_
  refine lv_aload_n hx hb d_law_1126 rfl (lv_at hl 3 rfl) ?_
  refine tr_call (tr_runSW (As := [.ref (adC 0), .int (xs (nI i + (1 : Int32)).toNatClampNeg), .ref o]) (rest := []) ⟨hx, hb, hml, hown, ht⟩ (lm_assign l h9 hJ.1 hJ.2.2.1 hc) ⟨rfl, rfl, (Nat.le_of_ble_eq_true rfl), (Nat.le_of_ble_eq_true rfl), pay_in ht (tw_G wl_assign), List.mem_cons_self⟩ (ht _ wl_assign) (ht _ wd_33) (ht _ wd_573) (ht _ wd_574) (by decide +kernel) (show (parseMethodDescriptor y_L_assign.desc).map (fun d => d.parameters.length) = some 3 by decide +kernel) ⟨lP_blind, fun U hU hW => ⟨rfl, by rw [hU]; exact hP, va_K.moved hW.alike hK, tW_warm hW hN, tT_law hT hS hU hW, va_Nc.moved hW.alike hNc⟩⟩ rfl hl.1 rfl (lv_room (Nat.le_of_ble_eq_true rfl)) d_law_1127 hcs) hS (lc_in hJ) (lc_in hJ) (fun H locs hP hk hz hS => ?_)
  replace hR := lr_kept hJ hR hk
  refine W.eq (g2 := F0 m 1130 ls [.int res.1]) rfl ?_
  refine lv_istore (lv' := [(5, .int res.1), (0, .ref b), (1, .ref (adC 0)), (2, .ref (adR 0)), (3, .ref o), (4, .int (nI i))]) hx hb d_law_1130 hl (by decide) rfl (fun ls hl => ?_)
  refine lv_aload_n hx hb d_law_1132 rfl (lv_at hl 3 rfl) ?_
  refine lv_aload_n hx hb d_law_1133 rfl (lv_at hl 1 rfl) ?_
  refine lv_iload hx hb d_law_1134 (lv_at hl 5 rfl) ?_
  refine lv_iconst (v := (1 : Int32)) hx hb d_law_1136 (by decide) ?_
  refine lv_iadd hx hb d_law_1137 ?_
  refine va_sld hx hb hX hbl hbA hS hi1 d_law_1138 ?_
  refine tr_call (va_runV (C := R_R) (As := [.int (xs (nI i + (1 : Int32)).toNatClampNeg)]) (rest := []) ⟨hx, hb, hml, hown, ht⟩ (mc_R_assign l hJ.2.1 hr) ⟨(tw_cb (n := 1) ht wc_R_assign wd_43 wd_873 ⟨rfl, rfl⟩ (by decide +kernel) ⟨(Nat.le_of_ble_eq_true rfl), (Nat.le_of_ble_eq_true rfl)⟩), ht _ wd_874, ht _ wd_875⟩ ⟨tP_blind, va_recv hKR hR (ci := 8) (q0 := 0) rfl rfl, fun U hU hW => ⟨rfl, by rw [hU]; exact hR, va_K.moved hW.alike hKR, tW_warm hW hN⟩⟩ rfl rfl hl.1 rfl (lv_room (Nat.le_of_ble_eq_true rfl)) d_law_1139 hcs) hS (lr_in hJ) (lr_in hJ) (fun H locs hR hk hz hS => ?_)
  replace hP := lc_kept hJ (fun _ h => h) hP hk
  refine W.eq (g2 := F0 m 1142 ls [.int bb]) rfl ?_
  refine lv_istore (lv' := [(6, .int bb), (5, .int res.1), (0, .ref b), (1, .ref (adC 0)), (2, .ref (adR 0)), (3, .ref o), (4, .int (nI i))]) hx hb d_law_1142 hl (by decide) rfl (fun ls hl => ?_)
  refine lv_aload_n hx hb d_law_1144 rfl (lv_at hl 4 rfl) ?_
  refine tr_call (va_runV (C := R_R) (As := []) (rest := []) ⟨hx, hb, hml, hown, ht⟩ (mc_R_thrown l hJ.2.1 hth) ⟨(tw_cb (n := 0) ht wc_R_thrown wd_43 wd_774 ⟨rfl, rfl⟩ (by decide +kernel) ⟨(Nat.le_of_ble_eq_true rfl), (Nat.le_of_ble_eq_true rfl)⟩), ht _ wd_775, ht _ wd_776⟩ ⟨tP_blind, va_recv hKR hR (ci := 8) (q0 := 0) rfl rfl, fun U hU hW => ⟨rfl, by rw [hU]; exact hR, va_K.moved hW.alike hKR, tW_warm hW hN⟩⟩ rfl rfl hl.1 rfl (lv_room (Nat.le_of_ble_eq_true rfl)) d_law_1145 hcs) hS (fun _ h => h.elim) (fun _ h => h.elim) (fun H locs hR hk hz hS => ?_)
  replace hP := lc_kept hJ (fun _ h => h.elim) hP hk
  refine W.eq (g2 := F0 m 1148 ls [.int res.1]) rfl ?_
  refine lv_iload hx hb d_law_1148 (lv_at hl 1 rfl) ?_
  refine lv_icmp_eq (tgt := 1155) hx hb d_law_1150 (by decide) (fun _ => ?_) (fun h => absurd rfl h)
  refine lv_iload hx hb d_law_1155 (lv_at hl 1 rfl) ?_
  refine lv_if_ne (tgt := 1172) hx hb d_law_1157 (by decide) (fun hk0 => ?_) (fun hk0 => ?_)
  · refine lv_goto (tgt := 1609) hx hb d_law_1172 (by decide) ?_
    exact kk _ _ _ hP hR hS (lv_sub hl [2, 3, 4, 5, 6] rfl)
  · refine lv_aload_n hx hb d_law_1160 rfl (lv_at hl 5 rfl) ?_
    refine lv_iconst (v := (0 : Int32)) hx hb d_law_1161 (by decide) ?_
    refine va_lald (f := res.2.2) hx hb hK hP 37 28 rfl rfl vp_in01 d_law_1162 ?_
    refine lv_iload hx hb d_law_1163 (lv_at hl 0 rfl) ?_
    refine lv_i2l hx hb d_law_1165 rfl ?_
    refine W.lcmp hx hb d_law_1166 ?_
    refine lv_if_eq (tgt := 1172) hx hb d_law_1167 (by decide) (fun _ => ?_) (fun h => absurd ((lg_cmp_eq _ _).mpr (heq hk0)) h)
    refine lv_goto (tgt := 1609) hx hb d_law_1172 (by decide) ?_
    exact kk _ _ _ hP hR hS (lv_sub hl [2, 3, 4, 5, 6] rfl)
set_option maxHeartbeats 4000000 in
set_option maxRecDepth 100000 in
theorem lc_flow {p : Program} {l : Launch} {e : Env} {s : State} {m : MethodId} {below : List Frame} {meth : Method} {c : Code} (h9 : l.stackTraces = false) {b L : Nat} {xs : Nat → Int32} (hL : L ≤ 3072) (C0 : lw_At p s m meth c b L xs) (hN : tW s) (hT : tT s) (hNc : va_Nc xIS xIA s) {D : va_G} {adC adR : Nat → Nat} {taC taR : Nat → ClassId} {o : Nat} {cO : ClassId} (hJ : lJ s adC adR o) (hK : va_K D clS (tyC taC ++ [(cO, .long)]) s) (hKR : va_K D clS (tyR taR) s) {i : Nat} (hi : i + 6 ≤ L) {σ τ τ' : tS} {f : Nat → Int64} {res : Int32 × tS × (Nat → Int64)} {bb : Int32} (hc : lf_flow (xs (nI i + (1 : Int32)).toNatClampNeg) (xs (nI i + (2 : Int32)).toNatClampNeg) σ f = some res) (hr : mf_R_flow (xs (nI i + (1 : Int32)).toNatClampNeg) (xs (nI i + (2 : Int32)).toNatClampNeg) τ = some (bb, τ')) (hth : mf_R_thrown τ' = some (res.1, τ')) (heq : res.1 = 0 → res.2.2 0 = bb.toInt64) {H : Heap} {locs : List Loc} {cells slots : Nat} (hcs : cells + 1 ≤ 601024 ∧ slots + 6 ≤ 7293034) (hP : va_P D clS (cwC adC taC σ ++ lO o cO f) H) (hR : va_P D clS (cwR adR taR τ) H) (hS : va_S (lB s) s.heap H locs) {ls : Array Slot} (hl : lv_has ls 7 [(0, .ref b), (1, .ref (adC 0)), (2, .ref (adR 0)), (3, .ref o), (4, .int (nI i))]) (kk : ∀ (H : Heap) (locs : List Loc) (ls : Array Slot), va_P D clS (cwC adC taC res.2.1 ++ lO o cO res.2.2) H → va_P D clS (cwR adR taR τ') H → va_S (lB s) s.heap H locs → lv_has ls 7 [(0, .ref b), (1, .ref (adC 0)), (2, .ref (adR 0)), (3, .ref o), (4, .int (nI i))] → W p l e room_1 s m #[Value.ref b] below meth c H locs (cells + 1) (slots + 6) (lw_Z below #[Value.ref b] s) (F0 m 1609 ls [])) : W p l e room_1 s m #[Value.ref b] below meth c H locs cells slots (lw_Z below #[Value.ref b] s) (F0 m 1175 ls []) := by
  obtain ⟨hx, hb, hr0, hml, hown, hts, hX, hbl, hlocks, hgv⟩ := id C0
  have ht : ∀ w ∈ tw, w.before #[Value.ref b] s = true := fun w h => hts w (tw_in h)
  have hbA : ¬ lB s b := Nat.not_le.mpr hbl
  have hi1 : vp_in (nI i + (1 : Int32)) L := li_in (k := 1) (by decide) (by omega) hL
  have hi2 : vp_in (nI i + (2 : Int32)) L := li_in (k := 2) (by decide) (by omega) hL
  refine lv_aload_n hx hb d_law_1175 rfl (lv_at hl 1 rfl) ?_
  refine lv_aload_n hx hb d_law_1176 rfl (lv_at hl 0 rfl) ?_
  refine lv_iload hx hb d_law_1177 (lv_at hl 4 rfl) ?_
  refine lv_iconst (v := (1 : Int32)) hx hb d_law_1179 (by decide) ?_
  refine lv_iadd hx hb d_law_1180 ?_
  refine va_sld hx hb hX hbl hbA hS hi1 d_law_1181 ?_
  refine lv_aload_n hx hb d_law_1182 rfl (lv_at hl 0 rfl) ?_
  refine lv_iload hx hb d_law_1183 (lv_at hl 4 rfl) ?_
  refine lv_iconst (v := (2 : Int32)) hx hb d_law_1185 (by decide) ?_
  refine lv_iadd hx hb d_law_1186 ?_
  refine va_sld hx hb hX hbl hbA hS hi2 d_law_1187 ?_
  refine lv_aload_n hx hb d_law_1188 rfl (lv_at hl 3 rfl) ?_
  refine tr_call (tr_runSW (As := [.ref (adC 0), .int (xs (nI i + (1 : Int32)).toNatClampNeg), .int (xs (nI i + (2 : Int32)).toNatClampNeg), .ref o]) (rest := []) ⟨hx, hb, hml, hown, ht⟩ (lm_flow l h9 hJ.1 hJ.2.2.1 hc) ⟨rfl, rfl, (Nat.le_of_ble_eq_true rfl), (Nat.le_of_ble_eq_true rfl), pay_in ht (tw_G wl_flow), List.mem_cons_self⟩ (ht _ wl_flow) (ht _ wd_33) (ht _ wd_610) (ht _ wd_611) (by decide +kernel) (show (parseMethodDescriptor y_L_flow.desc).map (fun d => d.parameters.length) = some 4 by decide +kernel) ⟨lP_blind, fun U hU hW => ⟨rfl, by rw [hU]; exact hP, va_K.moved hW.alike hK, tW_warm hW hN, tT_law hT hS hU hW, va_Nc.moved hW.alike hNc⟩⟩ rfl hl.1 rfl (lv_room (Nat.le_of_ble_eq_true rfl)) d_law_1189 hcs) hS (lc_in hJ) (lc_in hJ) (fun H locs hP hk hz hS => ?_)
  replace hR := lr_kept hJ hR hk
  refine W.eq (g2 := F0 m 1192 ls [.int res.1]) rfl ?_
  refine lv_istore (lv' := [(5, .int res.1), (0, .ref b), (1, .ref (adC 0)), (2, .ref (adR 0)), (3, .ref o), (4, .int (nI i))]) hx hb d_law_1192 hl (by decide) rfl (fun ls hl => ?_)
  refine lv_aload_n hx hb d_law_1194 rfl (lv_at hl 3 rfl) ?_
  refine lv_aload_n hx hb d_law_1195 rfl (lv_at hl 1 rfl) ?_
  refine lv_iload hx hb d_law_1196 (lv_at hl 5 rfl) ?_
  refine lv_iconst (v := (1 : Int32)) hx hb d_law_1198 (by decide) ?_
  refine lv_iadd hx hb d_law_1199 ?_
  refine va_sld hx hb hX hbl hbA hS hi1 d_law_1200 ?_
  refine lv_aload_n hx hb d_law_1201 rfl (lv_at hl 1 rfl) ?_
  refine lv_iload hx hb d_law_1202 (lv_at hl 5 rfl) ?_
  refine lv_iconst (v := (2 : Int32)) hx hb d_law_1204 (by decide) ?_
  refine lv_iadd hx hb d_law_1205 ?_
  refine va_sld hx hb hX hbl hbA hS hi2 d_law_1206 ?_
  refine tr_call (va_runV (C := R_R) (As := [.int (xs (nI i + (1 : Int32)).toNatClampNeg), .int (xs (nI i + (2 : Int32)).toNatClampNeg)]) (rest := []) ⟨hx, hb, hml, hown, ht⟩ (mc_R_flow l hJ.2.1 hr) ⟨(tw_cb (n := 2) ht wc_R_flow wd_43 wd_902 ⟨rfl, rfl⟩ (by decide +kernel) ⟨(Nat.le_of_ble_eq_true rfl), (Nat.le_of_ble_eq_true rfl)⟩), ht _ wd_903, ht _ wd_904⟩ ⟨tP_blind, va_recv hKR hR (ci := 8) (q0 := 0) rfl rfl, fun U hU hW => ⟨rfl, by rw [hU]; exact hR, va_K.moved hW.alike hKR, tW_warm hW hN⟩⟩ rfl rfl hl.1 rfl (lv_room (Nat.le_of_ble_eq_true rfl)) d_law_1207 hcs) hS (lr_in hJ) (lr_in hJ) (fun H locs hR hk hz hS => ?_)
  replace hP := lc_kept hJ (fun _ h => h) hP hk
  refine W.eq (g2 := F0 m 1210 ls [.int bb]) rfl ?_
  refine lv_istore (lv' := [(6, .int bb), (5, .int res.1), (0, .ref b), (1, .ref (adC 0)), (2, .ref (adR 0)), (3, .ref o), (4, .int (nI i))]) hx hb d_law_1210 hl (by decide) rfl (fun ls hl => ?_)
  refine lv_aload_n hx hb d_law_1212 rfl (lv_at hl 4 rfl) ?_
  refine tr_call (va_runV (C := R_R) (As := []) (rest := []) ⟨hx, hb, hml, hown, ht⟩ (mc_R_thrown l hJ.2.1 hth) ⟨(tw_cb (n := 0) ht wc_R_thrown wd_43 wd_774 ⟨rfl, rfl⟩ (by decide +kernel) ⟨(Nat.le_of_ble_eq_true rfl), (Nat.le_of_ble_eq_true rfl)⟩), ht _ wd_775, ht _ wd_776⟩ ⟨tP_blind, va_recv hKR hR (ci := 8) (q0 := 0) rfl rfl, fun U hU hW => ⟨rfl, by rw [hU]; exact hR, va_K.moved hW.alike hKR, tW_warm hW hN⟩⟩ rfl rfl hl.1 rfl (lv_room (Nat.le_of_ble_eq_true rfl)) d_law_1213 hcs) hS (fun _ h => h.elim) (fun _ h => h.elim) (fun H locs hR hk hz hS => ?_)
  replace hP := lc_kept hJ (fun _ h => h.elim) hP hk
  refine W.eq (g2 := F0 m 1216 ls [.int res.1]) rfl ?_
  refine lv_iload hx hb d_law_1216 (lv_at hl 1 rfl) ?_
  refine lv_icmp_eq (tgt := 1223) hx hb d_law_1218 (by decide) (fun _ => ?_) (fun h => absurd rfl h)
  refine lv_iload hx hb d_law_1223 (lv_at hl 1 rfl) ?_
  refine lv_if_ne (tgt := 1240) hx hb d_law_1225 (by decide) (fun hk0 => ?_) (fun hk0 => ?_)
  · refine lv_goto (tgt := 1609) hx hb d_law_1240 (by decide) ?_
    exact kk _ _ _ hP hR hS (lv_sub hl [2, 3, 4, 5, 6] rfl)
  · refine lv_aload_n hx hb d_law_1228 rfl (lv_at hl 5 rfl) ?_
    refine lv_iconst (v := (0 : Int32)) hx hb d_law_1229 (by decide) ?_
    refine va_lald (f := res.2.2) hx hb hK hP 37 28 rfl rfl vp_in01 d_law_1230 ?_
    refine lv_iload hx hb d_law_1231 (lv_at hl 0 rfl) ?_
    refine lv_i2l hx hb d_law_1233 rfl ?_
    refine W.lcmp hx hb d_law_1234 ?_
    refine lv_if_eq (tgt := 1240) hx hb d_law_1235 (by decide) (fun _ => ?_) (fun h => absurd ((lg_cmp_eq _ _).mpr (heq hk0)) h)
    refine lv_goto (tgt := 1609) hx hb d_law_1240 (by decide) ?_
    exact kk _ _ _ hP hR hS (lv_sub hl [2, 3, 4, 5, 6] rfl)
set_option maxHeartbeats 4000000 in
set_option maxRecDepth 100000 in
theorem lc_way {p : Program} {l : Launch} {e : Env} {s : State} {m : MethodId} {below : List Frame} {meth : Method} {c : Code} (h9 : l.stackTraces = false) {b L : Nat} {xs : Nat → Int32} (hL : L ≤ 3072) (C0 : lw_At p s m meth c b L xs) (hN : tW s) (hT : tT s) (hNc : va_Nc xIS xIA s) {D : va_G} {adC adR : Nat → Nat} {taC taR : Nat → ClassId} {o : Nat} {cO : ClassId} (hJ : lJ s adC adR o) (hK : va_K D clS (tyC taC ++ [(cO, .long)]) s) (hKR : va_K D clS (tyR taR) s) {i : Nat} (hi : i + 6 ≤ L) {σ τ τ' : tS} {f : Nat → Int64} {res : Int32 × tS × (Nat → Int64)} {bb : Int32} (hc : lf_way (xs (nI i + (1 : Int32)).toNatClampNeg) (xs (nI i + (2 : Int32)).toNatClampNeg) (xs (nI i + (3 : Int32)).toNatClampNeg) σ f = some res) (hr : mf_R_way (xs (nI i + (1 : Int32)).toNatClampNeg) (xs (nI i + (2 : Int32)).toNatClampNeg) (xs (nI i + (3 : Int32)).toNatClampNeg) τ = some (bb, τ')) (hth : mf_R_thrown τ' = some (res.1, τ')) (heq : res.1 = 0 → res.2.2 0 = bb.toInt64) {H : Heap} {locs : List Loc} {cells slots : Nat} (hcs : cells + 1 ≤ 601024 ∧ slots + 6 ≤ 7293034) (hP : va_P D clS (cwC adC taC σ ++ lO o cO f) H) (hR : va_P D clS (cwR adR taR τ) H) (hS : va_S (lB s) s.heap H locs) {ls : Array Slot} (hl : lv_has ls 7 [(0, .ref b), (1, .ref (adC 0)), (2, .ref (adR 0)), (3, .ref o), (4, .int (nI i))]) (kk : ∀ (H : Heap) (locs : List Loc) (ls : Array Slot), va_P D clS (cwC adC taC res.2.1 ++ lO o cO res.2.2) H → va_P D clS (cwR adR taR τ') H → va_S (lB s) s.heap H locs → lv_has ls 7 [(0, .ref b), (1, .ref (adC 0)), (2, .ref (adR 0)), (3, .ref o), (4, .int (nI i))] → W p l e room_1 s m #[Value.ref b] below meth c H locs (cells + 1) (slots + 6) (lw_Z below #[Value.ref b] s) (F0 m 1609 ls [])) : W p l e room_1 s m #[Value.ref b] below meth c H locs cells slots (lw_Z below #[Value.ref b] s) (F0 m 1243 ls []) := by
  obtain ⟨hx, hb, hr0, hml, hown, hts, hX, hbl, hlocks, hgv⟩ := id C0
  have ht : ∀ w ∈ tw, w.before #[Value.ref b] s = true := fun w h => hts w (tw_in h)
  have hbA : ¬ lB s b := Nat.not_le.mpr hbl
  have hi1 : vp_in (nI i + (1 : Int32)) L := li_in (k := 1) (by decide) (by omega) hL
  have hi2 : vp_in (nI i + (2 : Int32)) L := li_in (k := 2) (by decide) (by omega) hL
  have hi3 : vp_in (nI i + (3 : Int32)) L := li_in (k := 3) (by decide) (by omega) hL
  refine lv_aload_n hx hb d_law_1243 rfl (lv_at hl 1 rfl) ?_
  refine lv_aload_n hx hb d_law_1244 rfl (lv_at hl 0 rfl) ?_
  refine lv_iload hx hb d_law_1245 (lv_at hl 4 rfl) ?_
  refine lv_iconst (v := (1 : Int32)) hx hb d_law_1247 (by decide) ?_
  refine lv_iadd hx hb d_law_1248 ?_
  refine va_sld hx hb hX hbl hbA hS hi1 d_law_1249 ?_
  refine lv_aload_n hx hb d_law_1250 rfl (lv_at hl 0 rfl) ?_
  refine lv_iload hx hb d_law_1251 (lv_at hl 4 rfl) ?_
  refine lv_iconst (v := (2 : Int32)) hx hb d_law_1253 (by decide) ?_
  refine lv_iadd hx hb d_law_1254 ?_
  refine va_sld hx hb hX hbl hbA hS hi2 d_law_1255 ?_
  refine lv_aload_n hx hb d_law_1256 rfl (lv_at hl 0 rfl) ?_
  refine lv_iload hx hb d_law_1257 (lv_at hl 4 rfl) ?_
  refine lv_iconst (v := (3 : Int32)) hx hb d_law_1259 (by decide) ?_
  refine lv_iadd hx hb d_law_1260 ?_
  refine va_sld hx hb hX hbl hbA hS hi3 d_law_1261 ?_
  refine lv_aload_n hx hb d_law_1262 rfl (lv_at hl 3 rfl) ?_
  refine tr_call (tr_runSW (As := [.ref (adC 0), .int (xs (nI i + (1 : Int32)).toNatClampNeg), .int (xs (nI i + (2 : Int32)).toNatClampNeg), .int (xs (nI i + (3 : Int32)).toNatClampNeg), .ref o]) (rest := []) ⟨hx, hb, hml, hown, ht⟩ (lm_way l h9 hJ.1 hJ.2.2.1 hc) ⟨rfl, rfl, (Nat.le_of_ble_eq_true rfl), (Nat.le_of_ble_eq_true rfl), pay_in ht (tw_G wl_way), List.mem_cons_self⟩ (ht _ wl_way) (ht _ wd_33) (ht _ wd_618) (ht _ wd_619) (by decide +kernel) (show (parseMethodDescriptor y_L_way.desc).map (fun d => d.parameters.length) = some 5 by decide +kernel) ⟨lP_blind, fun U hU hW => ⟨rfl, by rw [hU]; exact hP, va_K.moved hW.alike hK, tW_warm hW hN, tT_law hT hS hU hW, va_Nc.moved hW.alike hNc⟩⟩ rfl hl.1 rfl (lv_room (Nat.le_of_ble_eq_true rfl)) d_law_1263 hcs) hS (lc_in hJ) (lc_in hJ) (fun H locs hP hk hz hS => ?_)
  replace hR := lr_kept hJ hR hk
  refine W.eq (g2 := F0 m 1266 ls [.int res.1]) rfl ?_
  refine lv_istore (lv' := [(5, .int res.1), (0, .ref b), (1, .ref (adC 0)), (2, .ref (adR 0)), (3, .ref o), (4, .int (nI i))]) hx hb d_law_1266 hl (by decide) rfl (fun ls hl => ?_)
  refine lv_aload_n hx hb d_law_1268 rfl (lv_at hl 3 rfl) ?_
  refine lv_aload_n hx hb d_law_1269 rfl (lv_at hl 1 rfl) ?_
  refine lv_iload hx hb d_law_1270 (lv_at hl 5 rfl) ?_
  refine lv_iconst (v := (1 : Int32)) hx hb d_law_1272 (by decide) ?_
  refine lv_iadd hx hb d_law_1273 ?_
  refine va_sld hx hb hX hbl hbA hS hi1 d_law_1274 ?_
  refine lv_aload_n hx hb d_law_1275 rfl (lv_at hl 1 rfl) ?_
  refine lv_iload hx hb d_law_1276 (lv_at hl 5 rfl) ?_
  refine lv_iconst (v := (2 : Int32)) hx hb d_law_1278 (by decide) ?_
  refine lv_iadd hx hb d_law_1279 ?_
  refine va_sld hx hb hX hbl hbA hS hi2 d_law_1280 ?_
  refine lv_aload_n hx hb d_law_1281 rfl (lv_at hl 1 rfl) ?_
  refine lv_iload hx hb d_law_1282 (lv_at hl 5 rfl) ?_
  refine lv_iconst (v := (3 : Int32)) hx hb d_law_1284 (by decide) ?_
  refine lv_iadd hx hb d_law_1285 ?_
  refine va_sld hx hb hX hbl hbA hS hi3 d_law_1286 ?_
  refine tr_call (va_runV (C := R_R) (As := [.int (xs (nI i + (1 : Int32)).toNatClampNeg), .int (xs (nI i + (2 : Int32)).toNatClampNeg), .int (xs (nI i + (3 : Int32)).toNatClampNeg)]) (rest := []) ⟨hx, hb, hml, hown, ht⟩ (mc_R_way l hJ.2.1 hr) ⟨(tw_cb (n := 3) ht wc_R_way wd_43 wd_906 ⟨rfl, rfl⟩ (by decide +kernel) ⟨(Nat.le_of_ble_eq_true rfl), (Nat.le_of_ble_eq_true rfl)⟩), ht _ wd_907, ht _ wd_908⟩ ⟨tP_blind, va_recv hKR hR (ci := 8) (q0 := 0) rfl rfl, fun U hU hW => ⟨rfl, by rw [hU]; exact hR, va_K.moved hW.alike hKR, tW_warm hW hN⟩⟩ rfl rfl hl.1 rfl (lv_room (Nat.le_of_ble_eq_true rfl)) d_law_1287 hcs) hS (lr_in hJ) (lr_in hJ) (fun H locs hR hk hz hS => ?_)
  replace hP := lc_kept hJ (fun _ h => h) hP hk
  refine W.eq (g2 := F0 m 1290 ls [.int bb]) rfl ?_
  refine lv_istore (lv' := [(6, .int bb), (5, .int res.1), (0, .ref b), (1, .ref (adC 0)), (2, .ref (adR 0)), (3, .ref o), (4, .int (nI i))]) hx hb d_law_1290 hl (by decide) rfl (fun ls hl => ?_)
  refine lv_aload_n hx hb d_law_1292 rfl (lv_at hl 4 rfl) ?_
  refine tr_call (va_runV (C := R_R) (As := []) (rest := []) ⟨hx, hb, hml, hown, ht⟩ (mc_R_thrown l hJ.2.1 hth) ⟨(tw_cb (n := 0) ht wc_R_thrown wd_43 wd_774 ⟨rfl, rfl⟩ (by decide +kernel) ⟨(Nat.le_of_ble_eq_true rfl), (Nat.le_of_ble_eq_true rfl)⟩), ht _ wd_775, ht _ wd_776⟩ ⟨tP_blind, va_recv hKR hR (ci := 8) (q0 := 0) rfl rfl, fun U hU hW => ⟨rfl, by rw [hU]; exact hR, va_K.moved hW.alike hKR, tW_warm hW hN⟩⟩ rfl rfl hl.1 rfl (lv_room (Nat.le_of_ble_eq_true rfl)) d_law_1293 hcs) hS (fun _ h => h.elim) (fun _ h => h.elim) (fun H locs hR hk hz hS => ?_)
  replace hP := lc_kept hJ (fun _ h => h.elim) hP hk
  refine W.eq (g2 := F0 m 1296 ls [.int res.1]) rfl ?_
  refine lv_iload hx hb d_law_1296 (lv_at hl 1 rfl) ?_
  refine lv_icmp_eq (tgt := 1303) hx hb d_law_1298 (by decide) (fun _ => ?_) (fun h => absurd rfl h)
  refine lv_iload hx hb d_law_1303 (lv_at hl 1 rfl) ?_
  refine lv_if_ne (tgt := 1320) hx hb d_law_1305 (by decide) (fun hk0 => ?_) (fun hk0 => ?_)
  · refine lv_goto (tgt := 1609) hx hb d_law_1320 (by decide) ?_
    exact kk _ _ _ hP hR hS (lv_sub hl [2, 3, 4, 5, 6] rfl)
  · refine lv_aload_n hx hb d_law_1308 rfl (lv_at hl 5 rfl) ?_
    refine lv_iconst (v := (0 : Int32)) hx hb d_law_1309 (by decide) ?_
    refine va_lald (f := res.2.2) hx hb hK hP 37 28 rfl rfl vp_in01 d_law_1310 ?_
    refine lv_iload hx hb d_law_1311 (lv_at hl 0 rfl) ?_
    refine lv_i2l hx hb d_law_1313 rfl ?_
    refine W.lcmp hx hb d_law_1314 ?_
    refine lv_if_eq (tgt := 1320) hx hb d_law_1315 (by decide) (fun _ => ?_) (fun h => absurd ((lg_cmp_eq _ _).mpr (heq hk0)) h)
    refine lv_goto (tgt := 1609) hx hb d_law_1320 (by decide) ?_
    exact kk _ _ _ hP hR hS (lv_sub hl [2, 3, 4, 5, 6] rfl)
set_option maxHeartbeats 4000000 in
set_option maxRecDepth 100000 in
theorem lc_least {p : Program} {l : Launch} {e : Env} {s : State} {m : MethodId} {below : List Frame} {meth : Method} {c : Code} (h9 : l.stackTraces = false) {b L : Nat} {xs : Nat → Int32} (hL : L ≤ 3072) (C0 : lw_At p s m meth c b L xs) (hN : tW s) (hT : tT s) (hNc : va_Nc xIS xIA s) {D : va_G} {adC adR : Nat → Nat} {taC taR : Nat → ClassId} {o : Nat} {cO : ClassId} (hJ : lJ s adC adR o) (hK : va_K D clS (tyC taC ++ [(cO, .long)]) s) (hKR : va_K D clS (tyR taR) s) {i : Nat} (hi : i + 6 ≤ L) {σ τ τ' : tS} {f : Nat → Int64} {res : Int32 × tS × (Nat → Int64)} {bb : Int32} (hc : lf_least (xs (nI i + (1 : Int32)).toNatClampNeg) (xs (nI i + (2 : Int32)).toNatClampNeg) σ f = some res) (hr : mf_R_least (xs (nI i + (1 : Int32)).toNatClampNeg) (xs (nI i + (2 : Int32)).toNatClampNeg) τ = some (bb, τ')) (hth : mf_R_thrown τ' = some (res.1, τ')) (heq : res.1 = 0 → res.2.2 0 = bb.toInt64) {H : Heap} {locs : List Loc} {cells slots : Nat} (hcs : cells + 1 ≤ 601024 ∧ slots + 6 ≤ 7293034) (hP : va_P D clS (cwC adC taC σ ++ lO o cO f) H) (hR : va_P D clS (cwR adR taR τ) H) (hS : va_S (lB s) s.heap H locs) {ls : Array Slot} (hl : lv_has ls 7 [(0, .ref b), (1, .ref (adC 0)), (2, .ref (adR 0)), (3, .ref o), (4, .int (nI i))]) (kk : ∀ (H : Heap) (locs : List Loc) (ls : Array Slot), va_P D clS (cwC adC taC res.2.1 ++ lO o cO res.2.2) H → va_P D clS (cwR adR taR τ') H → va_S (lB s) s.heap H locs → lv_has ls 7 [(0, .ref b), (1, .ref (adC 0)), (2, .ref (adR 0)), (3, .ref o), (4, .int (nI i))] → W p l e room_1 s m #[Value.ref b] below meth c H locs (cells + 1) (slots + 6) (lw_Z below #[Value.ref b] s) (F0 m 1609 ls [])) : W p l e room_1 s m #[Value.ref b] below meth c H locs cells slots (lw_Z below #[Value.ref b] s) (F0 m 1323 ls []) := by
  obtain ⟨hx, hb, hr0, hml, hown, hts, hX, hbl, hlocks, hgv⟩ := id C0
  have ht : ∀ w ∈ tw, w.before #[Value.ref b] s = true := fun w h => hts w (tw_in h)
  have hbA : ¬ lB s b := Nat.not_le.mpr hbl
  have hi1 : vp_in (nI i + (1 : Int32)) L := li_in (k := 1) (by decide) (by omega) hL
  have hi2 : vp_in (nI i + (2 : Int32)) L := li_in (k := 2) (by decide) (by omega) hL
  refine lv_aload_n hx hb d_law_1323 rfl (lv_at hl 1 rfl) ?_
  refine lv_aload_n hx hb d_law_1324 rfl (lv_at hl 0 rfl) ?_
  refine lv_iload hx hb d_law_1325 (lv_at hl 4 rfl) ?_
  refine lv_iconst (v := (1 : Int32)) hx hb d_law_1327 (by decide) ?_
  refine lv_iadd hx hb d_law_1328 ?_
  refine va_sld hx hb hX hbl hbA hS hi1 d_law_1329 ?_
  refine lv_aload_n hx hb d_law_1330 rfl (lv_at hl 0 rfl) ?_
  refine lv_iload hx hb d_law_1331 (lv_at hl 4 rfl) ?_
  refine lv_iconst (v := (2 : Int32)) hx hb d_law_1333 (by decide) ?_
  refine lv_iadd hx hb d_law_1334 ?_
  refine va_sld hx hb hX hbl hbA hS hi2 d_law_1335 ?_
  refine lv_aload_n hx hb d_law_1336 rfl (lv_at hl 3 rfl) ?_
  refine tr_call (tr_runSW (As := [.ref (adC 0), .int (xs (nI i + (1 : Int32)).toNatClampNeg), .int (xs (nI i + (2 : Int32)).toNatClampNeg), .ref o]) (rest := []) ⟨hx, hb, hml, hown, ht⟩ (lm_least l h9 hJ.1 hJ.2.2.1 hc) ⟨rfl, rfl, (Nat.le_of_ble_eq_true rfl), (Nat.le_of_ble_eq_true rfl), pay_in ht (tw_G wl_least), List.mem_cons_self⟩ (ht _ wl_least) (ht _ wd_33) (ht _ wd_630) (ht _ wd_631) (by decide +kernel) (show (parseMethodDescriptor y_L_least.desc).map (fun d => d.parameters.length) = some 4 by decide +kernel) ⟨lP_blind, fun U hU hW => ⟨rfl, by rw [hU]; exact hP, va_K.moved hW.alike hK, tW_warm hW hN, tT_law hT hS hU hW, va_Nc.moved hW.alike hNc⟩⟩ rfl hl.1 rfl (lv_room (Nat.le_of_ble_eq_true rfl)) d_law_1337 hcs) hS (lc_in hJ) (lc_in hJ) (fun H locs hP hk hz hS => ?_)
  replace hR := lr_kept hJ hR hk
  refine W.eq (g2 := F0 m 1340 ls [.int res.1]) rfl ?_
  refine lv_istore (lv' := [(5, .int res.1), (0, .ref b), (1, .ref (adC 0)), (2, .ref (adR 0)), (3, .ref o), (4, .int (nI i))]) hx hb d_law_1340 hl (by decide) rfl (fun ls hl => ?_)
  refine lv_aload_n hx hb d_law_1342 rfl (lv_at hl 3 rfl) ?_
  refine lv_aload_n hx hb d_law_1343 rfl (lv_at hl 1 rfl) ?_
  refine lv_iload hx hb d_law_1344 (lv_at hl 5 rfl) ?_
  refine lv_iconst (v := (1 : Int32)) hx hb d_law_1346 (by decide) ?_
  refine lv_iadd hx hb d_law_1347 ?_
  refine va_sld hx hb hX hbl hbA hS hi1 d_law_1348 ?_
  refine lv_aload_n hx hb d_law_1349 rfl (lv_at hl 1 rfl) ?_
  refine lv_iload hx hb d_law_1350 (lv_at hl 5 rfl) ?_
  refine lv_iconst (v := (2 : Int32)) hx hb d_law_1352 (by decide) ?_
  refine lv_iadd hx hb d_law_1353 ?_
  refine va_sld hx hb hX hbl hbA hS hi2 d_law_1354 ?_
  refine tr_call (va_runV (C := R_R) (As := [.int (xs (nI i + (1 : Int32)).toNatClampNeg), .int (xs (nI i + (2 : Int32)).toNatClampNeg)]) (rest := []) ⟨hx, hb, hml, hown, ht⟩ (mc_R_least l hJ.2.1 hr) ⟨(tw_cb (n := 2) ht wc_R_least wd_43 wd_910 ⟨rfl, rfl⟩ (by decide +kernel) ⟨(Nat.le_of_ble_eq_true rfl), (Nat.le_of_ble_eq_true rfl)⟩), ht _ wd_911, ht _ wd_912⟩ ⟨tP_blind, va_recv hKR hR (ci := 8) (q0 := 0) rfl rfl, fun U hU hW => ⟨rfl, by rw [hU]; exact hR, va_K.moved hW.alike hKR, tW_warm hW hN⟩⟩ rfl rfl hl.1 rfl (lv_room (Nat.le_of_ble_eq_true rfl)) d_law_1355 hcs) hS (lr_in hJ) (lr_in hJ) (fun H locs hR hk hz hS => ?_)
  replace hP := lc_kept hJ (fun _ h => h) hP hk
  refine W.eq (g2 := F0 m 1358 ls [.int bb]) rfl ?_
  refine lv_istore (lv' := [(6, .int bb), (5, .int res.1), (0, .ref b), (1, .ref (adC 0)), (2, .ref (adR 0)), (3, .ref o), (4, .int (nI i))]) hx hb d_law_1358 hl (by decide) rfl (fun ls hl => ?_)
  refine lv_aload_n hx hb d_law_1360 rfl (lv_at hl 4 rfl) ?_
  refine tr_call (va_runV (C := R_R) (As := []) (rest := []) ⟨hx, hb, hml, hown, ht⟩ (mc_R_thrown l hJ.2.1 hth) ⟨(tw_cb (n := 0) ht wc_R_thrown wd_43 wd_774 ⟨rfl, rfl⟩ (by decide +kernel) ⟨(Nat.le_of_ble_eq_true rfl), (Nat.le_of_ble_eq_true rfl)⟩), ht _ wd_775, ht _ wd_776⟩ ⟨tP_blind, va_recv hKR hR (ci := 8) (q0 := 0) rfl rfl, fun U hU hW => ⟨rfl, by rw [hU]; exact hR, va_K.moved hW.alike hKR, tW_warm hW hN⟩⟩ rfl rfl hl.1 rfl (lv_room (Nat.le_of_ble_eq_true rfl)) d_law_1361 hcs) hS (fun _ h => h.elim) (fun _ h => h.elim) (fun H locs hR hk hz hS => ?_)
  replace hP := lc_kept hJ (fun _ h => h.elim) hP hk
  refine W.eq (g2 := F0 m 1364 ls [.int res.1]) rfl ?_
  refine lv_iload hx hb d_law_1364 (lv_at hl 1 rfl) ?_
  refine lv_icmp_eq (tgt := 1371) hx hb d_law_1366 (by decide) (fun _ => ?_) (fun h => absurd rfl h)
  refine lv_iload hx hb d_law_1371 (lv_at hl 1 rfl) ?_
  refine lv_if_ne (tgt := 1388) hx hb d_law_1373 (by decide) (fun hk0 => ?_) (fun hk0 => ?_)
  · refine lv_goto (tgt := 1609) hx hb d_law_1388 (by decide) ?_
    exact kk _ _ _ hP hR hS (lv_sub hl [2, 3, 4, 5, 6] rfl)
  · refine lv_aload_n hx hb d_law_1376 rfl (lv_at hl 5 rfl) ?_
    refine lv_iconst (v := (0 : Int32)) hx hb d_law_1377 (by decide) ?_
    refine va_lald (f := res.2.2) hx hb hK hP 37 28 rfl rfl vp_in01 d_law_1378 ?_
    refine lv_iload hx hb d_law_1379 (lv_at hl 0 rfl) ?_
    refine lv_i2l hx hb d_law_1381 rfl ?_
    refine W.lcmp hx hb d_law_1382 ?_
    refine lv_if_eq (tgt := 1388) hx hb d_law_1383 (by decide) (fun _ => ?_) (fun h => absurd ((lg_cmp_eq _ _).mpr (heq hk0)) h)
    refine lv_goto (tgt := 1609) hx hb d_law_1388 (by decide) ?_
    exact kk _ _ _ hP hR hS (lv_sub hl [2, 3, 4, 5, 6] rfl)
set_option maxHeartbeats 4000000 in
set_option maxRecDepth 100000 in
theorem lc_link {p : Program} {l : Launch} {e : Env} {s : State} {m : MethodId} {below : List Frame} {meth : Method} {c : Code} (h9 : l.stackTraces = false) {b L : Nat} {xs : Nat → Int32} (hL : L ≤ 3072) (C0 : lw_At p s m meth c b L xs) (hN : tW s) (hT : tT s) (hNc : va_Nc xIS xIA s) {D : va_G} {adC adR : Nat → Nat} {taC taR : Nat → ClassId} {o : Nat} {cO : ClassId} (hJ : lJ s adC adR o) (hK : va_K D clS (tyC taC ++ [(cO, .long)]) s) (hKR : va_K D clS (tyR taR) s) {i : Nat} (hi : i + 6 ≤ L) {σ τ τ' : tS} {f : Nat → Int64} {res : Int32 × tS × (Nat → Int64)} {bb : Int32} (hc : lf_link (xs (nI i + (1 : Int32)).toNatClampNeg) (xs (nI i + (2 : Int32)).toNatClampNeg) (xs (nI i + (3 : Int32)).toNatClampNeg) σ f = some res) (hr : mf_R_link (xs (nI i + (1 : Int32)).toNatClampNeg) (xs (nI i + (2 : Int32)).toNatClampNeg) (xs (nI i + (3 : Int32)).toNatClampNeg) τ = some (bb, τ')) (hth : mf_R_thrown τ' = some (res.1, τ')) (heq : res.1 = 0 → res.2.2 0 = bb.toInt64) {H : Heap} {locs : List Loc} {cells slots : Nat} (hcs : cells + 1 ≤ 601024 ∧ slots + 6 ≤ 7293034) (hP : va_P D clS (cwC adC taC σ ++ lO o cO f) H) (hR : va_P D clS (cwR adR taR τ) H) (hS : va_S (lB s) s.heap H locs) {ls : Array Slot} (hl : lv_has ls 7 [(0, .ref b), (1, .ref (adC 0)), (2, .ref (adR 0)), (3, .ref o), (4, .int (nI i))]) (kk : ∀ (H : Heap) (locs : List Loc) (ls : Array Slot), va_P D clS (cwC adC taC res.2.1 ++ lO o cO res.2.2) H → va_P D clS (cwR adR taR τ') H → va_S (lB s) s.heap H locs → lv_has ls 7 [(0, .ref b), (1, .ref (adC 0)), (2, .ref (adR 0)), (3, .ref o), (4, .int (nI i))] → W p l e room_1 s m #[Value.ref b] below meth c H locs (cells + 1) (slots + 6) (lw_Z below #[Value.ref b] s) (F0 m 1609 ls [])) : W p l e room_1 s m #[Value.ref b] below meth c H locs cells slots (lw_Z below #[Value.ref b] s) (F0 m 1391 ls []) := by
  obtain ⟨hx, hb, hr0, hml, hown, hts, hX, hbl, hlocks, hgv⟩ := id C0
  have ht : ∀ w ∈ tw, w.before #[Value.ref b] s = true := fun w h => hts w (tw_in h)
  have hbA : ¬ lB s b := Nat.not_le.mpr hbl
  have hi1 : vp_in (nI i + (1 : Int32)) L := li_in (k := 1) (by decide) (by omega) hL
  have hi2 : vp_in (nI i + (2 : Int32)) L := li_in (k := 2) (by decide) (by omega) hL
  have hi3 : vp_in (nI i + (3 : Int32)) L := li_in (k := 3) (by decide) (by omega) hL
  refine lv_aload_n hx hb d_law_1391 rfl (lv_at hl 1 rfl) ?_
  refine lv_aload_n hx hb d_law_1392 rfl (lv_at hl 0 rfl) ?_
  refine lv_iload hx hb d_law_1393 (lv_at hl 4 rfl) ?_
  refine lv_iconst (v := (1 : Int32)) hx hb d_law_1395 (by decide) ?_
  refine lv_iadd hx hb d_law_1396 ?_
  refine va_sld hx hb hX hbl hbA hS hi1 d_law_1397 ?_
  refine lv_aload_n hx hb d_law_1398 rfl (lv_at hl 0 rfl) ?_
  refine lv_iload hx hb d_law_1399 (lv_at hl 4 rfl) ?_
  refine lv_iconst (v := (2 : Int32)) hx hb d_law_1401 (by decide) ?_
  refine lv_iadd hx hb d_law_1402 ?_
  refine va_sld hx hb hX hbl hbA hS hi2 d_law_1403 ?_
  refine lv_aload_n hx hb d_law_1404 rfl (lv_at hl 0 rfl) ?_
  refine lv_iload hx hb d_law_1405 (lv_at hl 4 rfl) ?_
  refine lv_iconst (v := (3 : Int32)) hx hb d_law_1407 (by decide) ?_
  refine lv_iadd hx hb d_law_1408 ?_
  refine va_sld hx hb hX hbl hbA hS hi3 d_law_1409 ?_
  refine lv_aload_n hx hb d_law_1410 rfl (lv_at hl 3 rfl) ?_
  refine tr_call (tr_runSW (As := [.ref (adC 0), .int (xs (nI i + (1 : Int32)).toNatClampNeg), .int (xs (nI i + (2 : Int32)).toNatClampNeg), .int (xs (nI i + (3 : Int32)).toNatClampNeg), .ref o]) (rest := []) ⟨hx, hb, hml, hown, ht⟩ (lm_link l h9 hJ.1 hJ.2.2.1 hc) ⟨rfl, rfl, (Nat.le_of_ble_eq_true rfl), (Nat.le_of_ble_eq_true rfl), pay_in ht (tw_G wl_link), List.mem_cons_self⟩ (ht _ wl_link) (ht _ wd_33) (ht _ wd_637) (ht _ wd_638) (by decide +kernel) (show (parseMethodDescriptor y_L_link.desc).map (fun d => d.parameters.length) = some 5 by decide +kernel) ⟨lP_blind, fun U hU hW => ⟨rfl, by rw [hU]; exact hP, va_K.moved hW.alike hK, tW_warm hW hN, tT_law hT hS hU hW, va_Nc.moved hW.alike hNc⟩⟩ rfl hl.1 rfl (lv_room (Nat.le_of_ble_eq_true rfl)) d_law_1411 hcs) hS (lc_in hJ) (lc_in hJ) (fun H locs hP hk hz hS => ?_)
  replace hR := lr_kept hJ hR hk
  refine W.eq (g2 := F0 m 1414 ls [.int res.1]) rfl ?_
  refine lv_istore (lv' := [(5, .int res.1), (0, .ref b), (1, .ref (adC 0)), (2, .ref (adR 0)), (3, .ref o), (4, .int (nI i))]) hx hb d_law_1414 hl (by decide) rfl (fun ls hl => ?_)
  refine lv_aload_n hx hb d_law_1416 rfl (lv_at hl 3 rfl) ?_
  refine lv_aload_n hx hb d_law_1417 rfl (lv_at hl 1 rfl) ?_
  refine lv_iload hx hb d_law_1418 (lv_at hl 5 rfl) ?_
  refine lv_iconst (v := (1 : Int32)) hx hb d_law_1420 (by decide) ?_
  refine lv_iadd hx hb d_law_1421 ?_
  refine va_sld hx hb hX hbl hbA hS hi1 d_law_1422 ?_
  refine lv_aload_n hx hb d_law_1423 rfl (lv_at hl 1 rfl) ?_
  refine lv_iload hx hb d_law_1424 (lv_at hl 5 rfl) ?_
  refine lv_iconst (v := (2 : Int32)) hx hb d_law_1426 (by decide) ?_
  refine lv_iadd hx hb d_law_1427 ?_
  refine va_sld hx hb hX hbl hbA hS hi2 d_law_1428 ?_
  refine lv_aload_n hx hb d_law_1429 rfl (lv_at hl 1 rfl) ?_
  refine lv_iload hx hb d_law_1430 (lv_at hl 5 rfl) ?_
  refine lv_iconst (v := (3 : Int32)) hx hb d_law_1432 (by decide) ?_
  refine lv_iadd hx hb d_law_1433 ?_
  refine va_sld hx hb hX hbl hbA hS hi3 d_law_1434 ?_
  refine tr_call (va_runV (C := R_R) (As := [.int (xs (nI i + (1 : Int32)).toNatClampNeg), .int (xs (nI i + (2 : Int32)).toNatClampNeg), .int (xs (nI i + (3 : Int32)).toNatClampNeg)]) (rest := []) ⟨hx, hb, hml, hown, ht⟩ (mc_R_link l hJ.2.1 hr) ⟨(tw_cb (n := 3) ht wc_R_link wd_43 wd_914 ⟨rfl, rfl⟩ (by decide +kernel) ⟨(Nat.le_of_ble_eq_true rfl), (Nat.le_of_ble_eq_true rfl)⟩), ht _ wd_915, ht _ wd_916⟩ ⟨tP_blind, va_recv hKR hR (ci := 8) (q0 := 0) rfl rfl, fun U hU hW => ⟨rfl, by rw [hU]; exact hR, va_K.moved hW.alike hKR, tW_warm hW hN⟩⟩ rfl rfl hl.1 rfl (lv_room (Nat.le_of_ble_eq_true rfl)) d_law_1435 hcs) hS (lr_in hJ) (lr_in hJ) (fun H locs hR hk hz hS => ?_)
  replace hP := lc_kept hJ (fun _ h => h) hP hk
  refine W.eq (g2 := F0 m 1438 ls [.int bb]) rfl ?_
  refine lv_istore (lv' := [(6, .int bb), (5, .int res.1), (0, .ref b), (1, .ref (adC 0)), (2, .ref (adR 0)), (3, .ref o), (4, .int (nI i))]) hx hb d_law_1438 hl (by decide) rfl (fun ls hl => ?_)
  refine lv_aload_n hx hb d_law_1440 rfl (lv_at hl 4 rfl) ?_
  refine tr_call (va_runV (C := R_R) (As := []) (rest := []) ⟨hx, hb, hml, hown, ht⟩ (mc_R_thrown l hJ.2.1 hth) ⟨(tw_cb (n := 0) ht wc_R_thrown wd_43 wd_774 ⟨rfl, rfl⟩ (by decide +kernel) ⟨(Nat.le_of_ble_eq_true rfl), (Nat.le_of_ble_eq_true rfl)⟩), ht _ wd_775, ht _ wd_776⟩ ⟨tP_blind, va_recv hKR hR (ci := 8) (q0 := 0) rfl rfl, fun U hU hW => ⟨rfl, by rw [hU]; exact hR, va_K.moved hW.alike hKR, tW_warm hW hN⟩⟩ rfl rfl hl.1 rfl (lv_room (Nat.le_of_ble_eq_true rfl)) d_law_1441 hcs) hS (fun _ h => h.elim) (fun _ h => h.elim) (fun H locs hR hk hz hS => ?_)
  replace hP := lc_kept hJ (fun _ h => h.elim) hP hk
  refine W.eq (g2 := F0 m 1444 ls [.int res.1]) rfl ?_
  refine lv_iload hx hb d_law_1444 (lv_at hl 1 rfl) ?_
  refine lv_icmp_eq (tgt := 1451) hx hb d_law_1446 (by decide) (fun _ => ?_) (fun h => absurd rfl h)
  refine lv_iload hx hb d_law_1451 (lv_at hl 1 rfl) ?_
  refine lv_if_ne (tgt := 1468) hx hb d_law_1453 (by decide) (fun hk0 => ?_) (fun hk0 => ?_)
  · refine lv_goto (tgt := 1609) hx hb d_law_1468 (by decide) ?_
    exact kk _ _ _ hP hR hS (lv_sub hl [2, 3, 4, 5, 6] rfl)
  · refine lv_aload_n hx hb d_law_1456 rfl (lv_at hl 5 rfl) ?_
    refine lv_iconst (v := (0 : Int32)) hx hb d_law_1457 (by decide) ?_
    refine va_lald (f := res.2.2) hx hb hK hP 37 28 rfl rfl vp_in01 d_law_1458 ?_
    refine lv_iload hx hb d_law_1459 (lv_at hl 0 rfl) ?_
    refine lv_i2l hx hb d_law_1461 rfl ?_
    refine W.lcmp hx hb d_law_1462 ?_
    refine lv_if_eq (tgt := 1468) hx hb d_law_1463 (by decide) (fun _ => ?_) (fun h => absurd ((lg_cmp_eq _ _).mpr (heq hk0)) h)
    refine lv_goto (tgt := 1609) hx hb d_law_1468 (by decide) ?_
    exact kk _ _ _ hP hR hS (lv_sub hl [2, 3, 4, 5, 6] rfl)
set_option maxHeartbeats 4000000 in
set_option maxRecDepth 100000 in
theorem lc_gap {p : Program} {l : Launch} {e : Env} {s : State} {m : MethodId} {below : List Frame} {meth : Method} {c : Code} (h9 : l.stackTraces = false) {b L : Nat} {xs : Nat → Int32} (hL : L ≤ 3072) (C0 : lw_At p s m meth c b L xs) (hN : tW s) (hT : tT s) (hNc : va_Nc xIS xIA s) {D : va_G} {adC adR : Nat → Nat} {taC taR : Nat → ClassId} {o : Nat} {cO : ClassId} (hJ : lJ s adC adR o) (hK : va_K D clS (tyC taC ++ [(cO, .long)]) s) (hKR : va_K D clS (tyR taR) s) {i : Nat} (hi : i + 6 ≤ L) {σ τ τ' : tS} {f : Nat → Int64} {σ' : tS} {g1 bb : Int64} (hc : mf_T_gap σ = some (g1, σ')) (hr : mf_R_gap τ = some (bb, τ')) (hgp : g1 = bb) {H : Heap} {locs : List Loc} {cells slots : Nat} (hcs : cells + 1 ≤ 601024 ∧ slots + 6 ≤ 7293034) (hP : va_P D clS (cwC adC taC σ ++ lO o cO f) H) (hR : va_P D clS (cwR adR taR τ) H) (hS : va_S (lB s) s.heap H locs) {ls : Array Slot} (hl : lv_has ls 7 [(0, .ref b), (1, .ref (adC 0)), (2, .ref (adR 0)), (3, .ref o), (4, .int (nI i))]) (kk : ∀ (H : Heap) (locs : List Loc) (ls : Array Slot), va_P D clS (cwC adC taC σ' ++ lO o cO f) H → va_P D clS (cwR adR taR τ') H → va_S (lB s) s.heap H locs → lv_has ls 7 [(0, .ref b), (1, .ref (adC 0)), (2, .ref (adR 0)), (3, .ref o), (4, .int (nI i))] → W p l e room_1 s m #[Value.ref b] below meth c H locs cells slots (lw_Z below #[Value.ref b] s) (F0 m 1609 ls [])) : W p l e room_1 s m #[Value.ref b] below meth c H locs cells slots (lw_Z below #[Value.ref b] s) (F0 m 1471 ls []) := by
  obtain ⟨hx, hb, hr0, hml, hown, hts, hX, hbl, hlocks, hgv⟩ := id C0
  have ht : ∀ w ∈ tw, w.before #[Value.ref b] s = true := fun w h => hts w (tw_in h)
  have hbA : ¬ lB s b := Nat.not_le.mpr hbl
  replace hcs : cells + 0 ≤ room_1.cells ∧ slots + 0 ≤ room_1.slots := ⟨Nat.le_trans (Nat.le_succ cells) hcs.1, Nat.le_trans (Nat.le_add_right slots 6) hcs.2⟩
  refine lv_aload_n hx hb d_law_1471 rfl (lv_at hl 1 rfl) ?_
  refine tr_call (va_runV (C := R_T) (As := []) (rest := []) ⟨hx, hb, hml, hown, ht⟩ (mc_T_gap l hJ.1 hc) ⟨(tw_cb (n := 0) ht wc_T_gap wd_34 wd_267 ⟨rfl, rfl⟩ (by decide +kernel) ⟨(Nat.le_of_ble_eq_true rfl), (Nat.le_of_ble_eq_true rfl)⟩), ht _ wd_268, ht _ wd_269⟩ ⟨tP_blind, va_recv (lk_left hK) (lp_left hP) (ci := 0) (q0 := 0) rfl rfl, fun U hU hW => ⟨rfl, by rw [hU]; exact lp_left hP, va_K.moved hW.alike (lk_left hK), tW_warm hW hN⟩⟩ rfl rfl hl.1 rfl (lv_room (Nat.le_of_ble_eq_true rfl)) d_law_1472 hcs) hS (fun q h => lc_in hJ q (Or.inl h)) (fun q h => lc_in hJ q (Or.inl h)) (fun H locs hP1 hk hz hS => ?_)
  replace hP : va_P D clS (cwC adC taC σ' ++ lO o cO f) H := hP1.app (lo_kept (ad := adC) (lp_right hP) (lA_no hJ.2.2.1) hk)
  replace hR := lr_kept hJ hR (fun q h1 h2 => hk q h1 (fun z => h2 (Or.inl z)))
  refine W.eq (g2 := F0 m 1475 ls [.long g1]) rfl ?_
  refine lv_aload_n hx hb d_law_1475 rfl (lv_at hl 2 rfl) ?_
  refine tr_call (va_runV (C := R_R) (As := []) (rest := [.long g1]) ⟨hx, hb, hml, hown, ht⟩ (mc_R_gap l hJ.2.1 hr) ⟨(tw_cb (n := 0) ht wc_R_gap wd_43 wd_918 ⟨rfl, rfl⟩ (by decide +kernel) ⟨(Nat.le_of_ble_eq_true rfl), (Nat.le_of_ble_eq_true rfl)⟩), ht _ wd_919, ht _ wd_920⟩ ⟨tP_blind, va_recv hKR hR (ci := 8) (q0 := 0) rfl rfl, fun U hU hW => ⟨rfl, by rw [hU]; exact hR, va_K.moved hW.alike hKR, tW_warm hW hN⟩⟩ rfl rfl hl.1 rfl (lv_room (Nat.le_of_ble_eq_true rfl)) d_law_1476 hcs) hS (lr_in hJ) (lr_in hJ) (fun H locs hR hk hz hS => ?_)
  replace hP := lc_kept hJ (fun _ h => h) hP hk
  refine W.eq (g2 := F0 m 1479 ls [.long bb, .long g1]) rfl ?_
  refine W.lcmp hx hb d_law_1479 ?_
  refine lv_if_eq (tgt := 1609) hx hb d_law_1480 (by decide) (fun _ => ?_) (fun h => absurd ((lg_cmp_eq _ _).mpr hgp) h)
  exact kk _ _ _ hP hR hS (lv_sub hl [0, 1, 2, 3, 4] rfl)
set_option maxHeartbeats 4000000 in
set_option maxRecDepth 100000 in
theorem lc_count {p : Program} {l : Launch} {e : Env} {s : State} {m : MethodId} {below : List Frame} {meth : Method} {c : Code} (h9 : l.stackTraces = false) {b L : Nat} {xs : Nat → Int32} (hL : L ≤ 3072) (C0 : lw_At p s m meth c b L xs) (hN : tW s) (hT : tT s) (hNc : va_Nc xIS xIA s) {D : va_G} {adC adR : Nat → Nat} {taC taR : Nat → ClassId} {o : Nat} {cO : ClassId} (hJ : lJ s adC adR o) (hK : va_K D clS (tyC taC ++ [(cO, .long)]) s) (hKR : va_K D clS (tyR taR) s) {i : Nat} (hi : i + 6 ≤ L) {σ τ τ' : tS} {f : Nat → Int64} {res : Int32 × tS × (Nat → Int64)} {bb : Int32} (hc : lf_count (xs (nI i + (1 : Int32)).toNatClampNeg) (xs (nI i + (2 : Int32)).toNatClampNeg) σ f = some res) (hr : mf_R_count (xs (nI i + (1 : Int32)).toNatClampNeg) (xs (nI i + (2 : Int32)).toNatClampNeg) τ = some (bb, τ')) (hth : mf_R_thrown τ' = some (res.1, τ')) (heq : res.1 = 0 → res.2.2 0 = bb.toInt64) {H : Heap} {locs : List Loc} {cells slots : Nat} (hcs : cells + 1 ≤ 601024 ∧ slots + 6 ≤ 7293034) (hP : va_P D clS (cwC adC taC σ ++ lO o cO f) H) (hR : va_P D clS (cwR adR taR τ) H) (hS : va_S (lB s) s.heap H locs) {ls : Array Slot} (hl : lv_has ls 7 [(0, .ref b), (1, .ref (adC 0)), (2, .ref (adR 0)), (3, .ref o), (4, .int (nI i))]) (kk : ∀ (H : Heap) (locs : List Loc) (ls : Array Slot), va_P D clS (cwC adC taC res.2.1 ++ lO o cO res.2.2) H → va_P D clS (cwR adR taR τ') H → va_S (lB s) s.heap H locs → lv_has ls 7 [(0, .ref b), (1, .ref (adC 0)), (2, .ref (adR 0)), (3, .ref o), (4, .int (nI i))] → W p l e room_1 s m #[Value.ref b] below meth c H locs (cells + 1) (slots + 6) (lw_Z below #[Value.ref b] s) (F0 m 1609 ls [])) : W p l e room_1 s m #[Value.ref b] below meth c H locs cells slots (lw_Z below #[Value.ref b] s) (F0 m 1485 ls []) := by
  obtain ⟨hx, hb, hr0, hml, hown, hts, hX, hbl, hlocks, hgv⟩ := id C0
  have ht : ∀ w ∈ tw, w.before #[Value.ref b] s = true := fun w h => hts w (tw_in h)
  have hbA : ¬ lB s b := Nat.not_le.mpr hbl
  have hi1 : vp_in (nI i + (1 : Int32)) L := li_in (k := 1) (by decide) (by omega) hL
  have hi2 : vp_in (nI i + (2 : Int32)) L := li_in (k := 2) (by decide) (by omega) hL
  refine lv_aload_n hx hb d_law_1485 rfl (lv_at hl 1 rfl) ?_
  refine lv_aload_n hx hb d_law_1486 rfl (lv_at hl 0 rfl) ?_
  refine lv_iload hx hb d_law_1487 (lv_at hl 4 rfl) ?_
  refine lv_iconst (v := (1 : Int32)) hx hb d_law_1489 (by decide) ?_
  refine lv_iadd hx hb d_law_1490 ?_
  refine va_sld hx hb hX hbl hbA hS hi1 d_law_1491 ?_
  refine lv_aload_n hx hb d_law_1492 rfl (lv_at hl 0 rfl) ?_
  refine lv_iload hx hb d_law_1493 (lv_at hl 4 rfl) ?_
  refine lv_iconst (v := (2 : Int32)) hx hb d_law_1495 (by decide) ?_
  refine lv_iadd hx hb d_law_1496 ?_
  refine va_sld hx hb hX hbl hbA hS hi2 d_law_1497 ?_
  refine lv_aload_n hx hb d_law_1498 rfl (lv_at hl 3 rfl) ?_
  refine tr_call (tr_runSW (As := [.ref (adC 0), .int (xs (nI i + (1 : Int32)).toNatClampNeg), .int (xs (nI i + (2 : Int32)).toNatClampNeg), .ref o]) (rest := []) ⟨hx, hb, hml, hown, ht⟩ (lm_count l h9 hJ.1 hJ.2.2.1 hc) ⟨rfl, rfl, (Nat.le_of_ble_eq_true rfl), (Nat.le_of_ble_eq_true rfl), pay_in ht (tw_G wl_count), List.mem_cons_self⟩ (ht _ wl_count) (ht _ wd_33) (ht _ wd_645) (ht _ wd_646) (by decide +kernel) (show (parseMethodDescriptor y_L_count.desc).map (fun d => d.parameters.length) = some 4 by decide +kernel) ⟨lP_blind, fun U hU hW => ⟨rfl, by rw [hU]; exact hP, va_K.moved hW.alike hK, tW_warm hW hN, tT_law hT hS hU hW, va_Nc.moved hW.alike hNc⟩⟩ rfl hl.1 rfl (lv_room (Nat.le_of_ble_eq_true rfl)) d_law_1499 hcs) hS (lc_in hJ) (lc_in hJ) (fun H locs hP hk hz hS => ?_)
  replace hR := lr_kept hJ hR hk
  refine W.eq (g2 := F0 m 1502 ls [.int res.1]) rfl ?_
  refine lv_istore (lv' := [(5, .int res.1), (0, .ref b), (1, .ref (adC 0)), (2, .ref (adR 0)), (3, .ref o), (4, .int (nI i))]) hx hb d_law_1502 hl (by decide) rfl (fun ls hl => ?_)
  refine lv_aload_n hx hb d_law_1504 rfl (lv_at hl 3 rfl) ?_
  refine lv_aload_n hx hb d_law_1505 rfl (lv_at hl 1 rfl) ?_
  refine lv_iload hx hb d_law_1506 (lv_at hl 5 rfl) ?_
  refine lv_iconst (v := (1 : Int32)) hx hb d_law_1508 (by decide) ?_
  refine lv_iadd hx hb d_law_1509 ?_
  refine va_sld hx hb hX hbl hbA hS hi1 d_law_1510 ?_
  refine lv_aload_n hx hb d_law_1511 rfl (lv_at hl 1 rfl) ?_
  refine lv_iload hx hb d_law_1512 (lv_at hl 5 rfl) ?_
  refine lv_iconst (v := (2 : Int32)) hx hb d_law_1514 (by decide) ?_
  refine lv_iadd hx hb d_law_1515 ?_
  refine va_sld hx hb hX hbl hbA hS hi2 d_law_1516 ?_
  refine tr_call (va_runV (C := R_R) (As := [.int (xs (nI i + (1 : Int32)).toNatClampNeg), .int (xs (nI i + (2 : Int32)).toNatClampNeg)]) (rest := []) ⟨hx, hb, hml, hown, ht⟩ (mc_R_count l hJ.2.1 hr) ⟨(tw_cb (n := 2) ht wc_R_count wd_43 wd_922 ⟨rfl, rfl⟩ (by decide +kernel) ⟨(Nat.le_of_ble_eq_true rfl), (Nat.le_of_ble_eq_true rfl)⟩), ht _ wd_923, ht _ wd_924⟩ ⟨tP_blind, va_recv hKR hR (ci := 8) (q0 := 0) rfl rfl, fun U hU hW => ⟨rfl, by rw [hU]; exact hR, va_K.moved hW.alike hKR, tW_warm hW hN⟩⟩ rfl rfl hl.1 rfl (lv_room (Nat.le_of_ble_eq_true rfl)) d_law_1517 hcs) hS (lr_in hJ) (lr_in hJ) (fun H locs hR hk hz hS => ?_)
  replace hP := lc_kept hJ (fun _ h => h) hP hk
  refine W.eq (g2 := F0 m 1520 ls [.int bb]) rfl ?_
  refine lv_istore (lv' := [(6, .int bb), (5, .int res.1), (0, .ref b), (1, .ref (adC 0)), (2, .ref (adR 0)), (3, .ref o), (4, .int (nI i))]) hx hb d_law_1520 hl (by decide) rfl (fun ls hl => ?_)
  refine lv_aload_n hx hb d_law_1522 rfl (lv_at hl 4 rfl) ?_
  refine tr_call (va_runV (C := R_R) (As := []) (rest := []) ⟨hx, hb, hml, hown, ht⟩ (mc_R_thrown l hJ.2.1 hth) ⟨(tw_cb (n := 0) ht wc_R_thrown wd_43 wd_774 ⟨rfl, rfl⟩ (by decide +kernel) ⟨(Nat.le_of_ble_eq_true rfl), (Nat.le_of_ble_eq_true rfl)⟩), ht _ wd_775, ht _ wd_776⟩ ⟨tP_blind, va_recv hKR hR (ci := 8) (q0 := 0) rfl rfl, fun U hU hW => ⟨rfl, by rw [hU]; exact hR, va_K.moved hW.alike hKR, tW_warm hW hN⟩⟩ rfl rfl hl.1 rfl (lv_room (Nat.le_of_ble_eq_true rfl)) d_law_1523 hcs) hS (fun _ h => h.elim) (fun _ h => h.elim) (fun H locs hR hk hz hS => ?_)
  replace hP := lc_kept hJ (fun _ h => h.elim) hP hk
  refine W.eq (g2 := F0 m 1526 ls [.int res.1]) rfl ?_
  refine lv_iload hx hb d_law_1526 (lv_at hl 1 rfl) ?_
  refine lv_icmp_eq (tgt := 1533) hx hb d_law_1528 (by decide) (fun _ => ?_) (fun h => absurd rfl h)
  refine lv_iload hx hb d_law_1533 (lv_at hl 1 rfl) ?_
  refine lv_if_ne (tgt := 1550) hx hb d_law_1535 (by decide) (fun hk0 => ?_) (fun hk0 => ?_)
  · refine lv_goto (tgt := 1609) hx hb d_law_1550 (by decide) ?_
    exact kk _ _ _ hP hR hS (lv_sub hl [2, 3, 4, 5, 6] rfl)
  · refine lv_aload_n hx hb d_law_1538 rfl (lv_at hl 5 rfl) ?_
    refine lv_iconst (v := (0 : Int32)) hx hb d_law_1539 (by decide) ?_
    refine va_lald (f := res.2.2) hx hb hK hP 37 28 rfl rfl vp_in01 d_law_1540 ?_
    refine lv_iload hx hb d_law_1541 (lv_at hl 0 rfl) ?_
    refine lv_i2l hx hb d_law_1543 rfl ?_
    refine W.lcmp hx hb d_law_1544 ?_
    refine lv_if_eq (tgt := 1550) hx hb d_law_1545 (by decide) (fun _ => ?_) (fun h => absurd ((lg_cmp_eq _ _).mpr (heq hk0)) h)
    refine lv_goto (tgt := 1609) hx hb d_law_1550 (by decide) ?_
    exact kk _ _ _ hP hR hS (lv_sub hl [2, 3, 4, 5, 6] rfl)
set_option maxHeartbeats 4000000 in
set_option maxRecDepth 100000 in
theorem lc_fit {p : Program} {l : Launch} {e : Env} {s : State} {m : MethodId} {below : List Frame} {meth : Method} {c : Code} (h9 : l.stackTraces = false) {b L : Nat} {xs : Nat → Int32} (hL : L ≤ 3072) (C0 : lw_At p s m meth c b L xs) (hN : tW s) (hT : tT s) (hNc : va_Nc xIS xIA s) {D : va_G} {adC adR : Nat → Nat} {taC taR : Nat → ClassId} {o : Nat} {cO : ClassId} (hJ : lJ s adC adR o) (hK : va_K D clS (tyC taC ++ [(cO, .long)]) s) (hKR : va_K D clS (tyR taR) s) {i : Nat} (hi : i + 6 ≤ L) {σ τ τ' : tS} {f : Nat → Int64} {res : Int32 × tS × (Nat → Int64)} {bb : Int32} (hc : lf_fit (xs (nI i + (1 : Int32)).toNatClampNeg) σ f = some res) (hr : mf_R_fit (xs (nI i + (1 : Int32)).toNatClampNeg) τ = some (bb, τ')) (hth : mf_R_thrown τ' = some (res.1, τ')) (heq : res.1 = 0 → res.2.2 0 = bb.toInt64) {H : Heap} {locs : List Loc} {cells slots : Nat} (hcs : cells + 1 ≤ 601024 ∧ slots + 6 ≤ 7293034) (hP : va_P D clS (cwC adC taC σ ++ lO o cO f) H) (hR : va_P D clS (cwR adR taR τ) H) (hS : va_S (lB s) s.heap H locs) {ls : Array Slot} (hl : lv_has ls 7 [(0, .ref b), (1, .ref (adC 0)), (2, .ref (adR 0)), (3, .ref o), (4, .int (nI i))]) (kk : ∀ (H : Heap) (locs : List Loc) (ls : Array Slot), va_P D clS (cwC adC taC res.2.1 ++ lO o cO res.2.2) H → va_P D clS (cwR adR taR τ') H → va_S (lB s) s.heap H locs → lv_has ls 7 [(0, .ref b), (1, .ref (adC 0)), (2, .ref (adR 0)), (3, .ref o), (4, .int (nI i))] → W p l e room_1 s m #[Value.ref b] below meth c H locs (cells + 1) (slots + 6) (lw_Z below #[Value.ref b] s) (F0 m 1609 ls [])) : W p l e room_1 s m #[Value.ref b] below meth c H locs cells slots (lw_Z below #[Value.ref b] s) (F0 m 1553 ls []) := by
  obtain ⟨hx, hb, hr0, hml, hown, hts, hX, hbl, hlocks, hgv⟩ := id C0
  have ht : ∀ w ∈ tw, w.before #[Value.ref b] s = true := fun w h => hts w (tw_in h)
  have hbA : ¬ lB s b := Nat.not_le.mpr hbl
  have hi1 : vp_in (nI i + (1 : Int32)) L := li_in (k := 1) (by decide) (by omega) hL
  refine lv_aload_n hx hb d_law_1553 rfl (lv_at hl 1 rfl) ?_
  refine lv_aload_n hx hb d_law_1554 rfl (lv_at hl 0 rfl) ?_
  refine lv_iload hx hb d_law_1555 (lv_at hl 4 rfl) ?_
  refine lv_iconst (v := (1 : Int32)) hx hb d_law_1557 (by decide) ?_
  refine lv_iadd hx hb d_law_1558 ?_
  refine va_sld hx hb hX hbl hbA hS hi1 d_law_1559 ?_
  refine lv_aload_n hx hb d_law_1560 rfl (lv_at hl 3 rfl) ?_
  refine tr_call (tr_runSW (As := [.ref (adC 0), .int (xs (nI i + (1 : Int32)).toNatClampNeg), .ref o]) (rest := []) ⟨hx, hb, hml, hown, ht⟩ (lm_fit l h9 hJ.1 hJ.2.2.1 hc) ⟨rfl, rfl, (Nat.le_of_ble_eq_true rfl), (Nat.le_of_ble_eq_true rfl), pay_in ht (tw_G wl_fit), List.mem_cons_self⟩ (ht _ wl_fit) (ht _ wd_33) (ht _ wd_652) (ht _ wd_653) (by decide +kernel) (show (parseMethodDescriptor y_L_fit.desc).map (fun d => d.parameters.length) = some 3 by decide +kernel) ⟨lP_blind, fun U hU hW => ⟨rfl, by rw [hU]; exact hP, va_K.moved hW.alike hK, tW_warm hW hN, tT_law hT hS hU hW, va_Nc.moved hW.alike hNc⟩⟩ rfl hl.1 rfl (lv_room (Nat.le_of_ble_eq_true rfl)) d_law_1561 hcs) hS (lc_in hJ) (lc_in hJ) (fun H locs hP hk hz hS => ?_)
  replace hR := lr_kept hJ hR hk
  refine W.eq (g2 := F0 m 1564 ls [.int res.1]) rfl ?_
  refine lv_istore (lv' := [(5, .int res.1), (0, .ref b), (1, .ref (adC 0)), (2, .ref (adR 0)), (3, .ref o), (4, .int (nI i))]) hx hb d_law_1564 hl (by decide) rfl (fun ls hl => ?_)
  refine lv_aload_n hx hb d_law_1566 rfl (lv_at hl 3 rfl) ?_
  refine lv_aload_n hx hb d_law_1567 rfl (lv_at hl 1 rfl) ?_
  refine lv_iload hx hb d_law_1568 (lv_at hl 5 rfl) ?_
  refine lv_iconst (v := (1 : Int32)) hx hb d_law_1570 (by decide) ?_
  refine lv_iadd hx hb d_law_1571 ?_
  refine va_sld hx hb hX hbl hbA hS hi1 d_law_1572 ?_
  refine tr_call (va_runV (C := R_R) (As := [.int (xs (nI i + (1 : Int32)).toNatClampNeg)]) (rest := []) ⟨hx, hb, hml, hown, ht⟩ (mc_R_fit l hJ.2.1 hr) ⟨(tw_cb (n := 1) ht wc_R_fit wd_43 wd_926 ⟨rfl, rfl⟩ (by decide +kernel) ⟨(Nat.le_of_ble_eq_true rfl), (Nat.le_of_ble_eq_true rfl)⟩), ht _ wd_927, ht _ wd_928⟩ ⟨tP_blind, va_recv hKR hR (ci := 8) (q0 := 0) rfl rfl, fun U hU hW => ⟨rfl, by rw [hU]; exact hR, va_K.moved hW.alike hKR, tW_warm hW hN⟩⟩ rfl rfl hl.1 rfl (lv_room (Nat.le_of_ble_eq_true rfl)) d_law_1573 hcs) hS (lr_in hJ) (lr_in hJ) (fun H locs hR hk hz hS => ?_)
  replace hP := lc_kept hJ (fun _ h => h) hP hk
  refine W.eq (g2 := F0 m 1576 ls [.int bb]) rfl ?_
  refine lv_istore (lv' := [(6, .int bb), (5, .int res.1), (0, .ref b), (1, .ref (adC 0)), (2, .ref (adR 0)), (3, .ref o), (4, .int (nI i))]) hx hb d_law_1576 hl (by decide) rfl (fun ls hl => ?_)
  refine lv_aload_n hx hb d_law_1578 rfl (lv_at hl 4 rfl) ?_
  refine tr_call (va_runV (C := R_R) (As := []) (rest := []) ⟨hx, hb, hml, hown, ht⟩ (mc_R_thrown l hJ.2.1 hth) ⟨(tw_cb (n := 0) ht wc_R_thrown wd_43 wd_774 ⟨rfl, rfl⟩ (by decide +kernel) ⟨(Nat.le_of_ble_eq_true rfl), (Nat.le_of_ble_eq_true rfl)⟩), ht _ wd_775, ht _ wd_776⟩ ⟨tP_blind, va_recv hKR hR (ci := 8) (q0 := 0) rfl rfl, fun U hU hW => ⟨rfl, by rw [hU]; exact hR, va_K.moved hW.alike hKR, tW_warm hW hN⟩⟩ rfl rfl hl.1 rfl (lv_room (Nat.le_of_ble_eq_true rfl)) d_law_1579 hcs) hS (fun _ h => h.elim) (fun _ h => h.elim) (fun H locs hR hk hz hS => ?_)
  replace hP := lc_kept hJ (fun _ h => h.elim) hP hk
  refine W.eq (g2 := F0 m 1582 ls [.int res.1]) rfl ?_
  refine lv_iload hx hb d_law_1582 (lv_at hl 1 rfl) ?_
  refine lv_icmp_eq (tgt := 1589) hx hb d_law_1584 (by decide) (fun _ => ?_) (fun h => absurd rfl h)
  refine lv_iload hx hb d_law_1589 (lv_at hl 1 rfl) ?_
  refine lv_if_ne (tgt := 1606) hx hb d_law_1591 (by decide) (fun hk0 => ?_) (fun hk0 => ?_)
  · refine lv_goto (tgt := 1609) hx hb d_law_1606 (by decide) ?_
    exact kk _ _ _ hP hR hS (lv_sub hl [2, 3, 4, 5, 6] rfl)
  · refine lv_aload_n hx hb d_law_1594 rfl (lv_at hl 5 rfl) ?_
    refine lv_iconst (v := (0 : Int32)) hx hb d_law_1595 (by decide) ?_
    refine va_lald (f := res.2.2) hx hb hK hP 37 28 rfl rfl vp_in01 d_law_1596 ?_
    refine lv_iload hx hb d_law_1597 (lv_at hl 0 rfl) ?_
    refine lv_i2l hx hb d_law_1599 rfl ?_
    refine W.lcmp hx hb d_law_1600 ?_
    refine lv_if_eq (tgt := 1606) hx hb d_law_1601 (by decide) (fun _ => ?_) (fun h => absurd ((lg_cmp_eq _ _).mpr (heq hk0)) h)
    refine lv_goto (tgt := 1609) hx hb d_law_1606 (by decide) ?_
    exact kk _ _ _ hP hR hS (lv_sub hl [2, 3, 4, 5, 6] rfl)
