set_option maxRecDepth 30000 in
theorem wd_50 : (.classLink R_L 8 "TripRounds" : Cond) ∈ tw := tw_of (i := 50) rfl rfl
set_option maxRecDepth 30000 in
theorem wd_51 : (.instantiable "TripRounds" 7 : Cond) ∈ tw := tw_of (i := 51) rfl rfl
set_option maxRecDepth 30000 in
theorem wd_52 : (.methodLink R_L 80 y_T_init : Cond) ∈ tw := tw_of (i := 52) rfl rfl
set_option maxRecDepth 30000 in
theorem wd_53 : (.instanceMethod y_T_init : Cond) ∈ tw := tw_of (i := 53) rfl rfl
set_option maxRecDepth 30000 in
theorem wd_671 : (.classLink R_L 81 "TripRoundsModel" : Cond) ∈ tw := tw_of (i := 671) rfl rfl
set_option maxRecDepth 30000 in
theorem wd_672 : (.instantiable "TripRoundsModel" 32 : Cond) ∈ tw := tw_of (i := 672) rfl rfl
set_option maxRecDepth 30000 in
theorem wd_673 : (.methodLink R_L 83 y_R_init : Cond) ∈ tw := tw_of (i := 673) rfl rfl
set_option maxRecDepth 30000 in
theorem wd_674 : (.instanceMethod y_R_init : Cond) ∈ tw := tw_of (i := 674) rfl rfl
set_option maxRecDepth 30000 in
theorem wc_T_init : (.code y_T_init b_T_init 1 none : Cond) ∈ tw := tw_of (i := 54) rfl rfl
set_option maxRecDepth 30000 in
theorem wc_R_init : (.code y_R_init b_R_init 2 none : Cond) ∈ tw := tw_of (i := 675) rfl rfl
set_option maxRecDepth 30000 in
theorem in_nest : (.methodLinkNest R_B 57 y_T_pairOf "TripRounds" : Cond) ∈ lw_tbl := List.mem_of_getElem? (i := 496) rfl
set_option maxRecDepth 30000 in
theorem in_L1 : tL1 ∈ lw_tbl := List.mem_of_getElem? (i := 351) rfl
set_option maxRecDepth 30000 in
theorem in_L2 : tL2 ∈ lw_tbl := List.mem_of_getElem? (i := 353) rfl
theorem in_tx : ∀ q ∈ xTx, (Cond.stringRef R_T q.1 q.2) ∈ lw_tbl := by decide +kernel
/-- what the throws rest on, at the law's start -/
theorem tT_start {s : State} {b : Nat} {cur : ClassId} (hts : ∀ w ∈ lw_tbl, w.before #[Value.ref b] s = true) (hgv : (Jvm.Cond.and given_1 narrow_1).before #[Value.ref b] s = true) (hcur : s.vm.findClass R_T = some cur) : tT s := by
  have hs := flat_of_before _ hgv
  refine ⟨fun w hw => va_Nw.of (tkw_on (List.mem_filter.mp hw).2) (hts w (List.mem_filter.mp hw).1), tZ.of (hts _ in_L1) (hs _ (by decide +kernel)) (fun _ _ h => h), tZ.of (hts _ in_L2) (hs _ (by decide +kernel)) (fun _ _ h => h), fun q hq => ?_⟩
  have h1 := hts _ (in_tx q hq)
  obtain ⟨k, cf, i, a, -, -, -, -, -, hev⟩ := Cond.stringRef_spec hcur h1
  refine ⟨a, ?_, ?_⟩
  · first | exact h1 | exact va_tabs rfl rfl h1
  · first | exact hev | (rw [Term.string_eval_of_vm (args := #[]) (rfl : s.vm = s.vm)]; exact hev)
theorem lJ_of {s : State} {adC adR : Nat → Nat} {taC taR : Nat → ClassId} {σ τ : tS} {o : Nat} {cO : ClassId} {f : Nat → Int64} (hD : va_D (lB s) (cwC adC taC σ ++ cwR adR taR τ ++ lO o cO f)) : lJ s adC adR o := by
  have hC : ∀ k, k < 37 → ∃ e, (cwC adC taC σ ++ cwR adR taR τ ++ lO o cO f)[k]? = some (adC k, e) := by
    intro k hk
    have h0 : ((cwC adC taC σ).map Prod.fst)[k]? = some (adC k) := by
      rw [show (cwC adC taC σ).map Prod.fst = (List.range 37).map adC from rfl, List.getElem?_map, List.getElem?_range hk]; rfl
    rw [List.getElem?_map] at h0
    cases h1 : (cwC adC taC σ)[k]? with
    | none => rw [h1] at h0; cases h0
    | some q =>
      rw [h1] at h0
      refine ⟨q.2, ?_⟩
      have hl : k < (cwC adC taC σ).length := (List.getElem?_eq_some_iff.mp h1).1
      rw [List.append_assoc, List.getElem?_append_left hl, h1, ← Option.some.inj h0]
  have hR : ∀ k, k < 26 → ∃ e, (cwC adC taC σ ++ cwR adR taR τ ++ lO o cO f)[37 + k]? = some (adR k, e) := by
    intro k hk
    have h0 : ((cwR adR taR τ).map Prod.fst)[k]? = some (adR k) := by
      rw [show (cwR adR taR τ).map Prod.fst = (List.range 26).map adR from rfl, List.getElem?_map, List.getElem?_range hk]; rfl
    rw [List.getElem?_map] at h0
    cases h1 : (cwR adR taR τ)[k]? with
    | none => rw [h1] at h0; cases h0
    | some q =>
      rw [h1] at h0
      refine ⟨q.2, ?_⟩
      have hl : k < (cwR adR taR τ).length := (List.getElem?_eq_some_iff.mp h1).1
      have h37 : (cwC adC taC σ).length = 37 := rfl
      rw [List.append_assoc, List.getElem?_append_right (by rw [h37]; omega), h37, Nat.add_sub_cancel_left, List.getElem?_append_left hl, h1, ← Option.some.inj h0]
  have hO : ∃ e, (cwC adC taC σ ++ cwR adR taR τ ++ lO o cO f)[63]? = some (o, e) := ⟨_, rfl⟩
  refine ⟨fun i j hi hj e => ?_, fun i j hi hj e => ?_, fun k hk e => ?_, fun k hk e => ?_, fun j hj k hk e => ?_, fun k hk => ?_, fun k hk => ?_, ?_⟩
  · obtain ⟨e1, h1⟩ := hC i hi
    obtain ⟨e2, h2⟩ := hC j hj
    exact hD.1 i j _ _ h1 h2 e
  · obtain ⟨e1, h1⟩ := hR i hi
    obtain ⟨e2, h2⟩ := hR j hj
    have := hD.1 _ _ _ _ h1 h2 e
    omega
  · obtain ⟨e1, h1⟩ := hC k hk
    obtain ⟨e2, h2⟩ := hO
    have := hD.1 _ _ _ _ h1 h2 e
    omega
  · obtain ⟨e1, h1⟩ := hR k hk
    obtain ⟨e2, h2⟩ := hO
    have := hD.1 _ _ _ _ h1 h2 e
    omega
  · obtain ⟨e1, h1⟩ := hC j hj
    obtain ⟨e2, h2⟩ := hR k hk
    have := hD.1 _ _ _ _ h1 h2 e
    omega
  · obtain ⟨e1, h1⟩ := hC k hk
    exact hD.2 _ _ h1
  · obtain ⟨e1, h1⟩ := hR k hk
    exact hD.2 _ _ h1
  · obtain ⟨e2, h2⟩ := hO
    exact hD.2 _ _ h2
set_option maxHeartbeats 4000000 in
set_option maxRecDepth 100000 in
theorem whole_open {p : Program} {e : Env} {s : State} {m : MethodId} {below : List Frame} {meth : Method} {c : Code} (l : Launch) (h9 : l.stackTraces = false) {b L : Nat} {xs : Nat → Int32} (hL : L ≤ 3072) (C0 : lw_At p s m meth c b L xs) {Rl : tS → tS → Prop} (hok : lOK Rl) (h0 : ∀ τ, sR_ok τ → Rl sC0 τ) : W p l e room_1 s m #[Value.ref b] below meth c s.heap [] 0 0 (lw_Z below #[Value.ref b] s) (entryFrame m ([Value.ref b] : List Value).toArray 7) := by
  obtain ⟨hx, hb, hr, hml, hown, hts, hX, hbl, hlocks, hgv⟩ := id C0
  have ht : ∀ w ∈ tw, w.before #[Value.ref b] s = true := fun w h => hts w (tw_in h)
  have hA : ∀ q : Nat, s.heap.size ≤ q → lB s q := fun _ h => h
  have hN : tW s := va_Nw.of rfl (hts _ in_nest)
  obtain ⟨c0, i0, hkn0⟩ := u_known (C := R_T) (T := F_T) (N := 7) (n := 7) ht iw_T (ht _ wd_51)
  obtain ⟨c1, i1, hkn1⟩ := u_known (C := R_Z) (T := F_Z) (N := 4) (n := 4) ht iw_Z (ht _ wd_59)
  obtain ⟨c2, i2, hkn2⟩ := u_known (C := R_B) (T := F_B) (N := 4) (n := 4) ht iw_B (ht _ wd_86)
  obtain ⟨c3, i3, hkn3⟩ := u_known (C := R_M) (T := F_M) (N := 2) (n := 2) ht iw_M (ht _ wd_132)
  obtain ⟨c4, i4, hkn4⟩ := u_known (C := R_S) (T := F_S) (N := 10) (n := 10) ht iw_S (ht _ wd_151)
  obtain ⟨c5, i5, hkn5⟩ := u_known (C := R_W) (T := F_W) (N := 3) (n := 3) ht iw_W (ht _ wd_201)
  obtain ⟨c6, i6, hkn6⟩ := u_known (C := R_A) (T := F_A) (N := 5) (n := 5) ht iw_A (ht _ wd_219)
  obtain ⟨c7, i7, hkn7⟩ := u_known (C := R_H) (T := F_H) (N := 3) (n := 3) ht iw_H (ht _ wd_92)
  obtain ⟨c8, i8, hkn8⟩ := u_known (C := R_R) (T := F_R) (N := 32) (n := 32) ht iw_R (ht _ wd_672)
  have hT : tT s := tT_start hts hgv hkn0.2.1
  have hNc : va_Nc xIS xIA s := va_Nc.of (flat_of_before _ hgv _ (by decide +kernel))
  obtain ⟨dC, dI, hKc⟩ : ∃ (dC : Nat → ClassId) (dI : Nat → Nat → Nat), ∀ (k : Nat) (q : vw_C), clS[k]? = some q → u_Kn s q.1 q.2.1 q.2.2 (dC k) (dI k) := by
    refine ⟨fun k => if k = 0 then c0 else if k = 1 then c1 else if k = 2 then c2 else if k = 3 then c3 else if k = 4 then c4 else if k = 5 then c5 else if k = 6 then c6 else if k = 7 then c7 else c8, fun k => if k = 0 then i0 else if k = 1 then i1 else if k = 2 then i2 else if k = 3 then i3 else if k = 4 then i4 else if k = 5 then i5 else if k = 6 then i6 else if k = 7 then i7 else i8, ?_⟩
    intro k q hq
    match k, hq with
    | 0, hq => cases hq; exact hkn0
    | 1, hq => cases hq; exact hkn1
    | 2, hq => cases hq; exact hkn2
    | 3, hq => cases hq; exact hkn3
    | 4, hq => cases hq; exact hkn4
    | 5, hq => cases hq; exact hkn5
    | 6, hq => cases hq; exact hkn6
    | 7, hq => cases hq; exact hkn7
    | 8, hq => cases hq; exact hkn8
    | k + 9, hq => simp [clS] at hq
  have hK : va_K (dC, dI) clS [] s := ⟨hKc, fun k q h => by simp at h⟩
  have hP : va_P (dC, dI) clS [] s.heap := fun k q h => by simp at h
  have hD : va_D (lB s) [] := ⟨fun i j p q h => by simp at h, fun k q h => by simp at h⟩
  have hS : va_S (lB s) s.heap s.heap [] := va_S.rf
  have hl := lv_entry ([.ref b]) (n := 7) (Nat.le_of_ble_eq_true rfl)
  rw [lg_entry_eq]
  generalize (lg_sl ([.ref b]) ++ List.replicate (7 - (lg_sl ([.ref b])).length) Slot.unset).toArray = ls at hl ⊢
  replace hl : lv_has ls 7 [(0, .ref b)] := hl
  refine va_new (ci := 0) (fs := [.int 0, .null, .null, .null, .null, .null, .null]) (C := R_T) (T := F_T) (N := 7) hx hb ht iw_T ft_T to_T hown (ht _ wd_50) (ht _ wd_51) (ht _ wd_34) hK hP hD hS hA rfl (by decide) (Nat.le_of_ble_eq_true rfl) (Nat.le_of_ble_eq_true rfl) d_law_0 (fun q1 H1 hP hD hS => ?_)
  replace hP : va_P (dC, dI) clS [(q1, .inr (0, [.int 0, .null, .null, .null, .null, .null, .null]))] H1 := hP
  replace hD : va_D (lB s) [(q1, .inr (0, [.int 0, .null, .null, .null, .null, .null, .null]))] := hD
  refine lv_dup hx hb d_law_3 rfl ?_
  have hPc := hP.sub (ws' := [(q1, .inr (0, [.int 0, .null, .null, .null, .null, .null, .null]))]) [0] rfl
  have hDc := hD.sub (ws' := [(q1, .inr (0, [.int 0, .null, .null, .null, .null, .null, .null]))]) [0] (by decide) rfl
  have hKc := hK.sub (tys' := []) [] rfl
  have hFc := va_free (wc := [(q1, .inr (0, [.int 0, .null, .null, .null, .null, .null, .null]))]) hD hS hA [0] rfl
  refine va_callv (va_runI (As := []) (rest := [.ref q1]) ⟨hx, hb, hml, hown, ht⟩ (mk_T l (D := (dC, dI)) (h0 := q1) (sz := H1.size)) ⟨callB_of 0 ht (tw_G wc_T_init) rfl rfl rfl (ht _ wd_34) (ht _ wd_52) (by decide +kernel) ⟨(Nat.le_of_ble_eq_true rfl), (Nat.le_of_ble_eq_true rfl)⟩, rfl, ht _ wd_53⟩ ⟨kP_blind, fun U hU hW => ⟨rfl, by rw [hU], by rw [hU]; exact hPc, va_K.moved hW.alike hKc, hDc.weaken (fun _ _ _ _ => trivial), tW_warm hW hN⟩⟩ rfl rfl hl.1 rfl (lv_room (Nat.le_of_ble_eq_true rfl)) d_law_4 ⟨(Nat.le_of_ble_eq_true rfl), (Nat.le_of_ble_eq_true rfl)⟩) hS (fun q _ h => hFc q h) hFc (fun u t G1 locs hth hvm hw hB hz1 hk1 hS => ?_)
  obtain ⟨adC, taC⟩ := u
  obtain ⟨hP1, hK1, hD1⟩ := hB
  rw [hth] at hP1
  have hK1 := va_K.moved hvm.symm hK1
  replace hw : adC 0 = q1 := hw
  subst hw
  obtain ⟨hP, hD⟩ := va_join (wr := []) (w1 := cwC adC taC sC0) hP hD [0] [] rfl rfl (by decide) (by decide) hk1 hFc hP1 hD1
  replace hP : va_P (dC, dI) clS (cwC adC taC sC0) G1 := hP
  replace hD : va_D (lB s) (cwC adC taC sC0) := hD
  have hK : va_K (dC, dI) clS (tyC taC) s := hK1
  refine lv_astore_n (lv' := [(1, .ref (adC 0)), (0, .ref b)]) hx hb d_law_7 rfl hl (by decide) rfl (fun ls hl => ?_)
  refine va_new (ci := 8) (fs := [.int 0, .int 0, .int 0, .int 0, .null, .null, .null, .null, .null, .null, .null, .null, .null, .null, .null, .null, .null, .null, .null, .null, .null, .null, .int 0, .int 0, .null, .null, .null, .null, .null, .null, .null, .int 0]) (C := R_R) (T := F_R) (N := 32) hx hb ht iw_R ft_R to_R hown (ht _ wd_671) (ht _ wd_672) (ht _ wd_43) hK hP hD hS hA rfl (by decide) (Nat.le_of_ble_eq_true rfl) (Nat.le_of_ble_eq_true rfl) d_law_8 (fun q2 H2 hP hD hS => ?_)
  refine lv_dup hx hb d_law_11 rfl ?_
  have hPc := hP.sub (ws' := [(q2, .inr (8, [.int 0, .int 0, .int 0, .int 0, .null, .null, .null, .null, .null, .null, .null, .null, .null, .null, .null, .null, .null, .null, .null, .null, .null, .null, .int 0, .int 0, .null, .null, .null, .null, .null, .null, .null, .int 0]))]) [37] rfl
  have hDc := hD.sub (ws' := [(q2, .inr (8, [.int 0, .int 0, .int 0, .int 0, .null, .null, .null, .null, .null, .null, .null, .null, .null, .null, .null, .null, .null, .null, .null, .null, .null, .null, .int 0, .int 0, .null, .null, .null, .null, .null, .null, .null, .int 0]))]) [37] (by decide) rfl
  have hKc := hK.sub (tys' := []) [] rfl
  have hFc := va_free (wc := [(q2, .inr (8, [.int 0, .int 0, .int 0, .int 0, .null, .null, .null, .null, .null, .null, .null, .null, .null, .null, .null, .null, .null, .null, .null, .null, .null, .null, .int 0, .int 0, .null, .null, .null, .null, .null, .null, .null, .int 0]))]) hD hS hA [37] rfl
  refine va_callv (va_runI (As := []) (rest := [.ref q2]) ⟨hx, hb, hml, hown, ht⟩ (mk_R l (D := (dC, dI)) (h0 := q2) (sz := H2.size)) ⟨callB_of 0 ht (tw_G wc_R_init) rfl rfl rfl (ht _ wd_43) (ht _ wd_673) (by decide +kernel) ⟨(Nat.le_of_ble_eq_true rfl), (Nat.le_of_ble_eq_true rfl)⟩, rfl, ht _ wd_674⟩ ⟨kP_blind, fun U hU hW => ⟨rfl, by rw [hU], by rw [hU]; exact hPc, va_K.moved hW.alike hKc, hDc.weaken (fun _ _ _ _ => trivial), tW_warm hW hN⟩⟩ rfl rfl hl.1 rfl (lv_room (Nat.le_of_ble_eq_true rfl)) d_law_12 ⟨(Nat.le_of_ble_eq_true rfl), (Nat.le_of_ble_eq_true rfl)⟩) hS (fun q _ h => hFc q h) hFc (fun u t G2 locs hth hvm hw hB hz1 hk1 hS => ?_)
  obtain ⟨adR, taR, τ0⟩ := u
  obtain ⟨hP1, hK1, hD1⟩ := hB
  rw [hth] at hP1
  have hK1 := va_K.moved hvm.symm hK1
  obtain ⟨hw, hok0⟩ := hw
  replace hw : adR 0 = q2 := hw
  subst hw
  obtain ⟨hP, hD⟩ := va_join (wr := cwC adC taC sC0) (w1 := cwR adR taR τ0) hP hD [37] (List.range 37) rfl rfl (by decide) (by decide) hk1 hFc hP1 hD1
  have hK2 : va_K (dC, dI) clS (tyR taR) s := hK1
  refine lv_astore_n (lv' := [(2, .ref (adR 0)), (1, .ref (adC 0)), (0, .ref b)]) hx hb d_law_15 rfl hl (by decide) rfl (fun ls hl => ?_)
  refine lv_iconst (v := (1 : Int32)) hx hb d_law_16 (by decide) ?_
  refine va_newa (atype := .long) (a0 := (1, .inr (.inl (fun _ => 0)))) (ty := .long) (N' := 1) hx hb (ht _ wd_111) rfl hK hP hD hS hA (fun _ => rfl) (by decide) (by decide) (Nat.le_of_ble_eq_true rfl) (Nat.le_of_ble_eq_true rfl) (Nat.le_of_ble_eq_true rfl) d_law_17 (fun o cO H3 hK hP hD hS => ?_)
  refine lv_astore_n (lv' := [(3, .ref o), (2, .ref (adR 0)), (1, .ref (adC 0)), (0, .ref b)]) hx hb d_law_19 rfl hl (by decide) rfl (fun ls hl => ?_)
  refine lv_iconst (v := (0 : Int32)) hx hb d_law_20 (by decide) ?_
  refine lv_istore (lv' := [(4, .int 0), (3, .ref o), (2, .ref (adR 0)), (1, .ref (adC 0)), (0, .ref b)]) hx hb d_law_21 hl (by decide) rfl (fun ls hl => ?_)
  have hJ : lJ s adC adR o := lJ_of hD
  have hPC : va_P (dC, dI) clS (cwC adC taC sC0 ++ lO o cO (fun _ => 0)) H3 := (lp_left (lp_left hP)).app (lp_right hP)
  have hPR : va_P (dC, dI) clS (cwR adR taR τ0) H3 := lp_right (lp_left hP)
  refine W.widen (k := 64) (n := 20000) (by decide) (by decide) ?_
  exact law_loop h9 hL C0 hN hT hNc hJ hK hK2 hok (L + 1) 0 sC0 τ0 (fun _ => 0) H3 _ 64 20000 ls (by omega) (by omega) (h0 τ0 hok0) (by omega) (by omega) hPC hPR hS (lv_sub hl [4, 3, 2, 1, 0] rfl)
