theorem d_law_40 : decode code 40 = .ok (.tableswitch 1569 0 20 #[100, 144, 224, 328, 396, 487, 567, 647, 715, 783, 851, 907, 999, 1079, 1135, 1203, 1283, 1351, 1431, 1445, 1513], 100) := by decide +kernel
/-! WHAT THE CALLS OWE: a relation Rl of the class's and the reference's states is kept by each call, and the answers agree -/
def ok_node (Rl : tS → tS → Prop) : Prop := ∀ (σ τ : tS) (f : Nat → Int64), Rl σ τ → ∃ (res : Int32 × tS × (Nat → Int64)) (bb : Int32) (τ' : tS), lf_node σ f = some res ∧ mf_R_node τ = some (bb, τ') ∧ mf_R_thrown τ' = some (res.1, τ') ∧ (res.1 = 0 → res.2.2 0 = bb.toInt64) ∧ Rl res.2.1 τ'
def ok_zone (Rl : tS → tS → Prop) : Prop := ∀ (σ τ : tS) (f : Nat → Int64) (p0 p1 p2 : Int32), Rl σ τ → ∃ (res : Int32 × tS × (Nat → Int64)) (bb : Int32) (τ' : tS), lf_zone p0 p1 p2 σ f = some res ∧ mf_R_zone p0 p1 p2 τ = some (bb, τ') ∧ mf_R_thrown τ' = some (res.1, τ') ∧ (res.1 = 0 → res.2.2 0 = bb.toInt64) ∧ Rl res.2.1 τ'
def ok_street (Rl : tS → tS → Prop) : Prop := ∀ (σ τ : tS) (f : Nat → Int64) (p0 p1 p2 p3 p4 : Int32), Rl σ τ → ∃ (res : Int32 × tS × (Nat → Int64)) (bb : Int32) (τ' : tS), lf_street p0 p1 p2 p3 p4 σ f = some res ∧ mf_R_street p0 p1 p2 p3 p4 τ = some (bb, τ') ∧ mf_R_thrown τ' = some (res.1, τ') ∧ (res.1 = 0 → res.2.2 0 = bb.toInt64) ∧ Rl res.2.1 τ'
def ok_toll (Rl : tS → tS → Prop) : Prop := ∀ (σ τ : tS) (f : Nat → Int64) (p0 p1 : Int32), Rl σ τ → ∃ (res : Int32 × tS × (Nat → Int64)) (bb : Int32) (τ' : tS), lf_toll p0 p1 σ f = some res ∧ mf_R_toll p0 p1 τ = some (bb, τ') ∧ mf_R_thrown τ' = some (res.1, τ') ∧ (res.1 = 0 → res.2.2 0 = bb.toInt64) ∧ Rl res.2.1 τ'
def ok_open (Rl : tS → tS → Prop) : Prop := ∀ (σ τ : tS) (f : Nat → Int64) (p0 p1 : Int32), (p1 = 0 ∨ p1 = 1) → Rl σ τ → ∃ (res : Int32 × tS × (Nat → Int64)) (bb : Int32) (τ' : tS), lf_open p0 p1 σ f = some res ∧ mf_R_open p0 p1 τ = some (bb, τ') ∧ mf_R_thrown τ' = some (res.1, τ') ∧ (res.1 = 0 → res.2.2 0 = (if bb = 0 then 0 else 1)) ∧ Rl res.2.1 τ'
def ok_weight (Rl : tS → tS → Prop) : Prop := ∀ (σ τ : tS) (f : Nat → Int64) (p0 p1 p2 : Int32), Rl σ τ → ∃ (res : Int32 × tS × (Nat → Int64)) (bb : Int32) (τ' : tS), lf_weight p0 p1 p2 σ f = some res ∧ mf_R_weight p0 p1 p2 τ = some (bb, τ') ∧ mf_R_thrown τ' = some (res.1, τ') ∧ (res.1 = 0 → res.2.2 0 = bb.toInt64) ∧ Rl res.2.1 τ'
def ok_size (Rl : tS → tS → Prop) : Prop := ∀ (σ τ : tS) (f : Nat → Int64) (p0 p1 p2 : Int32), Rl σ τ → ∃ (res : Int32 × tS × (Nat → Int64)) (bb : Int32) (τ' : tS), lf_size p0 p1 p2 σ f = some res ∧ mf_R_size p0 p1 p2 τ = some (bb, τ') ∧ mf_R_thrown τ' = some (res.1, τ') ∧ (res.1 = 0 → res.2.2 0 = bb.toInt64) ∧ Rl res.2.1 τ'
def ok_rounds (Rl : tS → tS → Prop) : Prop := ∀ (σ τ : tS) (f : Nat → Int64) (p0 p1 : Int32), Rl σ τ → ∃ (res : Int32 × tS × (Nat → Int64)) (bb : Int32) (τ' : tS), lf_rounds p0 p1 σ f = some res ∧ mf_R_rounds p0 p1 τ = some (bb, τ') ∧ mf_R_thrown τ' = some (res.1, τ') ∧ (res.1 = 0 → res.2.2 0 = bb.toInt64) ∧ Rl res.2.1 τ'
def ok_trips (Rl : tS → tS → Prop) : Prop := ∀ (σ τ : tS) (f : Nat → Int64) (p0 p1 : Int32), Rl σ τ → ∃ (res : Int32 × tS × (Nat → Int64)) (bb : Int32) (τ' : tS), lf_trips p0 p1 σ f = some res ∧ mf_R_trips p0 p1 τ = some (bb, τ') ∧ mf_R_thrown τ' = some (res.1, τ') ∧ (res.1 = 0 → res.2.2 0 = bb.toInt64) ∧ Rl res.2.1 τ'
def ok_sum (Rl : tS → tS → Prop) : Prop := ∀ (σ τ : tS) (f : Nat → Int64) (p0 p1 : Int32), Rl σ τ → ∃ (res : Int32 × tS × (Nat → Int64)) (bb : Int32) (τ' : tS), lf_sum p0 p1 σ f = some res ∧ mf_R_sum p0 p1 τ = some (bb, τ') ∧ mf_R_thrown τ' = some (res.1, τ') ∧ (res.1 = 0 → res.2.2 0 = bb.toInt64) ∧ Rl res.2.1 τ'
def ok_factor (Rl : tS → tS → Prop) : Prop := ∀ (σ τ : tS) (f : Nat → Int64) (p0 : Int32), Rl σ τ → ∃ (res : Int32 × tS × (Nat → Int64)) (bb : Int32) (τ' : tS), lf_factor p0 σ f = some res ∧ mf_R_factor p0 τ = some (bb, τ') ∧ mf_R_thrown τ' = some (res.1, τ') ∧ (res.1 = 0 → res.2.2 0 = bb.toInt64) ∧ Rl res.2.1 τ'
def ok_pull (Rl : tS → tS → Prop) : Prop := ∀ (σ τ : tS) (f : Nat → Int64) (p0 p1 p2 p3 : Int32), Rl σ τ → ∃ (res : Int32 × tS × (Nat → Int64)) (bb : Int32) (τ' : tS), lf_pull p0 p1 p2 p3 σ f = some res ∧ mf_R_pull p0 p1 p2 p3 τ = some (bb, τ') ∧ mf_R_thrown τ' = some (res.1, τ') ∧ (res.1 = 0 → res.2.2 0 = bb.toInt64) ∧ Rl res.2.1 τ'
def ok_chosen (Rl : tS → tS → Prop) : Prop := ∀ (σ τ : tS) (f : Nat → Int64) (p0 p1 p2 : Int32), Rl σ τ → ∃ (res : Int32 × tS × (Nat → Int64)) (bb : Int32) (τ' : tS), lf_chosen p0 p1 p2 σ f = some res ∧ mf_R_chosen p0 p1 p2 τ = some (bb, τ') ∧ mf_R_thrown τ' = some (res.1, τ') ∧ (res.1 = 0 → res.2.2 0 = bb.toInt64) ∧ Rl res.2.1 τ'
def ok_assign (Rl : tS → tS → Prop) : Prop := ∀ (σ τ : tS) (f : Nat → Int64) (p0 : Int32), Rl σ τ → ∃ (res : Int32 × tS × (Nat → Int64)) (bb : Int32) (τ' : tS), lf_assign p0 σ f = some res ∧ mf_R_assign p0 τ = some (bb, τ') ∧ mf_R_thrown τ' = some (res.1, τ') ∧ (res.1 = 0 → res.2.2 0 = bb.toInt64) ∧ Rl res.2.1 τ'
def ok_flow (Rl : tS → tS → Prop) : Prop := ∀ (σ τ : tS) (f : Nat → Int64) (p0 p1 : Int32), Rl σ τ → ∃ (res : Int32 × tS × (Nat → Int64)) (bb : Int32) (τ' : tS), lf_flow p0 p1 σ f = some res ∧ mf_R_flow p0 p1 τ = some (bb, τ') ∧ mf_R_thrown τ' = some (res.1, τ') ∧ (res.1 = 0 → res.2.2 0 = bb.toInt64) ∧ Rl res.2.1 τ'
def ok_way (Rl : tS → tS → Prop) : Prop := ∀ (σ τ : tS) (f : Nat → Int64) (p0 p1 p2 : Int32), Rl σ τ → ∃ (res : Int32 × tS × (Nat → Int64)) (bb : Int32) (τ' : tS), lf_way p0 p1 p2 σ f = some res ∧ mf_R_way p0 p1 p2 τ = some (bb, τ') ∧ mf_R_thrown τ' = some (res.1, τ') ∧ (res.1 = 0 → res.2.2 0 = bb.toInt64) ∧ Rl res.2.1 τ'
def ok_least (Rl : tS → tS → Prop) : Prop := ∀ (σ τ : tS) (f : Nat → Int64) (p0 p1 : Int32), Rl σ τ → ∃ (res : Int32 × tS × (Nat → Int64)) (bb : Int32) (τ' : tS), lf_least p0 p1 σ f = some res ∧ mf_R_least p0 p1 τ = some (bb, τ') ∧ mf_R_thrown τ' = some (res.1, τ') ∧ (res.1 = 0 → res.2.2 0 = bb.toInt64) ∧ Rl res.2.1 τ'
def ok_link (Rl : tS → tS → Prop) : Prop := ∀ (σ τ : tS) (f : Nat → Int64) (p0 p1 p2 : Int32), Rl σ τ → ∃ (res : Int32 × tS × (Nat → Int64)) (bb : Int32) (τ' : tS), lf_link p0 p1 p2 σ f = some res ∧ mf_R_link p0 p1 p2 τ = some (bb, τ') ∧ mf_R_thrown τ' = some (res.1, τ') ∧ (res.1 = 0 → res.2.2 0 = bb.toInt64) ∧ Rl res.2.1 τ'
def ok_gap (Rl : tS → tS → Prop) : Prop := ∀ σ τ : tS, Rl σ τ → ∃ (g : Int64) (σ' τ' : tS), mf_T_gap σ = some (g, σ') ∧ mf_R_gap τ = some (g, τ') ∧ Rl σ' τ'
def ok_count (Rl : tS → tS → Prop) : Prop := ∀ (σ τ : tS) (f : Nat → Int64) (p0 p1 : Int32), Rl σ τ → ∃ (res : Int32 × tS × (Nat → Int64)) (bb : Int32) (τ' : tS), lf_count p0 p1 σ f = some res ∧ mf_R_count p0 p1 τ = some (bb, τ') ∧ mf_R_thrown τ' = some (res.1, τ') ∧ (res.1 = 0 → res.2.2 0 = bb.toInt64) ∧ Rl res.2.1 τ'
def ok_fit (Rl : tS → tS → Prop) : Prop := ∀ (σ τ : tS) (f : Nat → Int64) (p0 : Int32), Rl σ τ → ∃ (res : Int32 × tS × (Nat → Int64)) (bb : Int32) (τ' : tS), lf_fit p0 σ f = some res ∧ mf_R_fit p0 τ = some (bb, τ') ∧ mf_R_thrown τ' = some (res.1, τ') ∧ (res.1 = 0 → res.2.2 0 = bb.toInt64) ∧ Rl res.2.1 τ'
def lOK (Rl : tS → tS → Prop) : Prop := ok_node Rl ∧ ok_zone Rl ∧ ok_street Rl ∧ ok_toll Rl ∧ ok_open Rl ∧ ok_weight Rl ∧ ok_size Rl ∧ ok_rounds Rl ∧ ok_trips Rl ∧ ok_sum Rl ∧ ok_factor Rl ∧ ok_pull Rl ∧ ok_chosen Rl ∧ ok_assign Rl ∧ ok_flow Rl ∧ ok_way Rl ∧ ok_least Rl ∧ ok_link Rl ∧ ok_gap Rl ∧ ok_count Rl ∧ ok_fit Rl
set_option maxHeartbeats 4000000 in
set_option maxRecDepth 100000 in
theorem law_loop {p : Program} {l : Launch} {e : Env} {s : State} {m : MethodId} {below : List Frame} {meth : Method} {c : Code} (h9 : l.stackTraces = false) {b L : Nat} {xs : Nat → Int32} (hL : L ≤ 3072) (C0 : lw_At p s m meth c b L xs) (hN : tW s) (hT : tT s) (hNc : va_Nc xIS xIA s) {D : va_G} {adC adR : Nat → Nat} {taC taR : Nat → ClassId} {o : Nat} {cO : ClassId} (hJ : lJ s adC adR o) (hK : va_K D clS (tyC taC ++ [(cO, .long)]) s) (hKR : va_K D clS (tyR taR) s) {Rl : tS → tS → Prop} (hok : lOK Rl) :
    ∀ (k i : Nat) (σ τ : tS) (f : Nat → Int64) (H : Heap) (locs : List Loc) (cells slots : Nat) (ls : Array Slot), L < i + k → i ≤ L + 6 → Rl σ τ → cells + (L + 12 - i) ≤ 601024 → slots + 6 * (L + 12 - i) ≤ 7293034 → va_P D clS (cwC adC taC σ ++ lO o cO f) H → va_P D clS (cwR adR taR τ) H → va_S (lB s) s.heap H locs → lv_has ls 7 [(0, .ref b), (1, .ref (adC 0)), (2, .ref (adR 0)), (3, .ref o), (4, .int (nI i))] → W p l e room_1 s m #[Value.ref b] below meth c H locs cells slots (lw_Z below #[Value.ref b] s) (F0 m 23 ls []) := by
  obtain ⟨hx, hb, hr, hml, hown, hts, hX, hbl, hlocks, hgv⟩ := id C0
  have hbA : ¬ lB s b := Nat.not_le.mpr hbl
  intro k
  induction k with
  | zero =>
    intro i σ τ f H locs cells slots ls h1 h2 hRl h3 h4 hP hR hS hl
    refine lv_iload hx hb d_law_23 (lv_at hl 4 rfl) ?_
    refine lv_aload_n hx hb d_law_25 rfl (lv_at hl 0 rfl) ?_
    refine va_slen hx hb hX hbl hbA hS d_law_26 ?_
    refine lv_bipush (v := (6 : Int32)) hx hb d_law_27 (by decide) ?_
    refine lv_isub hx hb d_law_29 ?_
    refine lv_icmp_gt (tgt := 1615) hx hb d_law_30 (by decide) (fun hc => ?_) (fun hc => ?_)
    · refine lv_iconst (v := 1) hx hb d_law_1615 (by decide) ?_
      refine va_forget (fun q hq => hS.2.2 q hq) ?_
      refine W.widen (k := 601024) (n := 7293034) (by omega) (by omega) ?_
      exact lw_ret hx hb hr hlocks d_law_1616
    · exfalso
      have e1 : (nI L - nI 6).toInt = (L : Int) - (6 : Nat) := pk_sub_toInt (by omega) (by decide)
      replace hc : ¬ (nI L - nI 6 < nI i) := hc
      rw [Int32.lt_iff_toInt_lt, e1, nI_toInt (by omega)] at hc
      omega
  | succ k ih =>
    intro i σ τ f H locs cells slots ls h1 h2 hRl h3 h4 hP hR hS hl
    refine lv_iload hx hb d_law_23 (lv_at hl 4 rfl) ?_
    refine lv_aload_n hx hb d_law_25 rfl (lv_at hl 0 rfl) ?_
    refine va_slen hx hb hX hbl hbA hS d_law_26 ?_
    refine lv_bipush (v := (6 : Int32)) hx hb d_law_27 (by decide) ?_
    refine lv_isub hx hb d_law_29 ?_
    refine lv_icmp_gt (tgt := 1615) hx hb d_law_30 (by decide) (fun hc => ?_) (fun hc => ?_)
    · refine lv_iconst (v := 1) hx hb d_law_1615 (by decide) ?_
      refine va_forget (fun q hq => hS.2.2 q hq) ?_
      refine W.widen (k := 601024) (n := 7293034) (by omega) (by omega) ?_
      exact lw_ret hx hb hr hlocks d_law_1616
    · have hi : i + 6 ≤ L := by
        have e1 : (nI L - nI 6).toInt = (L : Int) - (6 : Nat) := pk_sub_toInt (by omega) (by decide)
        replace hc : ¬ (nI L - nI 6 < nI i) := hc
        rw [Int32.lt_iff_toInt_lt, e1, nI_toInt (by omega)] at hc
        omega
      refine lv_aload_n hx hb d_law_33 rfl (lv_at hl 0 rfl) ?_
      refine lv_iload hx hb d_law_34 (lv_at hl 4 rfl) ?_
      refine va_sld hx hb hX hbl hbA hS (vp_in_nI (by omega) (by omega)) d_law_36 ?_
      refine lv_bipush (v := (31 : Int32)) hx hb d_law_37 (by decide) ?_
      refine lv_iand hx hb d_law_39 ?_
      obtain ⟨j, hj, ej⟩ := pk_andE (xs (nI i).toNatClampNeg) (m := 31) 5 (by decide)
      rw [ej]
      have next : ∀ (σ τ : tS) (f : Nat → Int64) (H : Heap) (locs : List Loc) (c1 s1 : Nat) (ls : Array Slot), Rl σ τ → c1 ≤ cells + 1 → s1 ≤ slots + 6 → va_P D clS (cwC adC taC σ ++ lO o cO f) H → va_P D clS (cwR adR taR τ) H → va_S (lB s) s.heap H locs → lv_has ls 7 [(0, .ref b), (1, .ref (adC 0)), (2, .ref (adR 0)), (3, .ref o), (4, .int (nI i))] → W p l e room_1 s m #[Value.ref b] below meth c H locs c1 s1 (lw_Z below #[Value.ref b] s) (F0 m 1609 ls []) := by
        intro σ τ f H locs c1 s1 ls hRl hc1 hs1 hP hR hS hl
        refine lv_iinc (v := nI (i + 6)) (lv' := [(4, .int (nI (i + 6))), (0, .ref b), (1, .ref (adC 0)), (2, .ref (adR 0)), (3, .ref o)]) hx hb d_law_1609 hl (k := 4) rfl (nI_add i 6) (by decide) rfl (fun ls hl => ?_)
        refine lv_goto (tgt := 23) hx hb d_law_1612 (by decide) ?_
        exact ih (i + 6) σ τ f H locs c1 s1 ls (by omega) (by omega) hRl (by omega) (by omega) hP hR hS (lv_sub hl [1, 2, 3, 4, 0] rfl)
      have hcs : cells + 1 ≤ 601024 ∧ slots + 6 ≤ 7293034 := ⟨by omega, by omega⟩
      match j, hj with
      | 0, _ =>
        refine lv_tableIn (tgt := 140) (off := 100) hx hb d_law_40 (by decide) (by decide) (by decide) (by decide) ?_
        obtain ⟨res, bb, τ', q1, q2, q3, q4, q5⟩ := hok.1 σ τ f hRl
        exact lc_node h9 hL C0 hN hT hNc hJ hK hKR hi q1 q2 q3 q4 hcs hP hR hS hl (fun H locs ls hP hR hS hl => next res.2.1 τ' res.2.2 H locs _ _ ls q5 (Nat.le_refl _) (Nat.le_refl _) hP hR hS hl)
      | 1, _ =>
        refine lv_tableIn (tgt := 184) (off := 144) hx hb d_law_40 (by decide) (by decide) (by decide) (by decide) ?_
        obtain ⟨res, bb, τ', q1, q2, q3, q4, q5⟩ := hok.2.1 σ τ f (xs (nI i + (1 : Int32)).toNatClampNeg) (xs (nI i + (2 : Int32)).toNatClampNeg) (xs (nI i + (3 : Int32)).toNatClampNeg) hRl
        exact lc_zone h9 hL C0 hN hT hNc hJ hK hKR hi q1 q2 q3 q4 hcs hP hR hS hl (fun H locs ls hP hR hS hl => next res.2.1 τ' res.2.2 H locs _ _ ls q5 (Nat.le_refl _) (Nat.le_refl _) hP hR hS hl)
      | 2, _ =>
        refine lv_tableIn (tgt := 264) (off := 224) hx hb d_law_40 (by decide) (by decide) (by decide) (by decide) ?_
        obtain ⟨res, bb, τ', q1, q2, q3, q4, q5⟩ := hok.2.2.1 σ τ f (xs (nI i + (1 : Int32)).toNatClampNeg) (xs (nI i + (2 : Int32)).toNatClampNeg) (xs (nI i + (3 : Int32)).toNatClampNeg) (xs (nI i + (4 : Int32)).toNatClampNeg) (xs (nI i + (5 : Int32)).toNatClampNeg) hRl
        exact lc_street h9 hL C0 hN hT hNc hJ hK hKR hi q1 q2 q3 q4 hcs hP hR hS hl (fun H locs ls hP hR hS hl => next res.2.1 τ' res.2.2 H locs _ _ ls q5 (Nat.le_refl _) (Nat.le_refl _) hP hR hS hl)
      | 3, _ =>
        refine lv_tableIn (tgt := 368) (off := 328) hx hb d_law_40 (by decide) (by decide) (by decide) (by decide) ?_
        obtain ⟨res, bb, τ', q1, q2, q3, q4, q5⟩ := hok.2.2.2.1 σ τ f (xs (nI i + (1 : Int32)).toNatClampNeg) (xs (nI i + (2 : Int32)).toNatClampNeg) hRl
        exact lc_toll h9 hL C0 hN hT hNc hJ hK hKR hi q1 q2 q3 q4 hcs hP hR hS hl (fun H locs ls hP hR hS hl => next res.2.1 τ' res.2.2 H locs _ _ ls q5 (Nat.le_refl _) (Nat.le_refl _) hP hR hS hl)
      | 4, _ =>
        refine lv_tableIn (tgt := 436) (off := 396) hx hb d_law_40 (by decide) (by decide) (by decide) (by decide) ?_
        obtain ⟨res, bb, τ', q1, q2, q3, q4, q5⟩ := hok.2.2.2.2.1 σ τ f (xs (nI i + (1 : Int32)).toNatClampNeg) (if (xs (nI i + (2 : Int32)).toNatClampNeg) = 0 then 0 else 1) (by by_cases h : (xs (nI i + (2 : Int32)).toNatClampNeg) = 0; exact Or.inl (if_pos h); exact Or.inr (if_neg h)) hRl
        exact lc_open h9 hL C0 hN hT hNc hJ hK hKR hi rfl q1 q2 q3 q4 hcs hP hR hS hl (fun H locs ls hP hR hS hl => next res.2.1 τ' res.2.2 H locs _ _ ls q5 (Nat.le_refl _) (Nat.le_refl _) hP hR hS hl)
      | 5, _ =>
        refine lv_tableIn (tgt := 527) (off := 487) hx hb d_law_40 (by decide) (by decide) (by decide) (by decide) ?_
        obtain ⟨res, bb, τ', q1, q2, q3, q4, q5⟩ := hok.2.2.2.2.2.1 σ τ f (xs (nI i + (1 : Int32)).toNatClampNeg) (xs (nI i + (2 : Int32)).toNatClampNeg) (xs (nI i + (3 : Int32)).toNatClampNeg) hRl
        exact lc_weight h9 hL C0 hN hT hNc hJ hK hKR hi q1 q2 q3 q4 hcs hP hR hS hl (fun H locs ls hP hR hS hl => next res.2.1 τ' res.2.2 H locs _ _ ls q5 (Nat.le_refl _) (Nat.le_refl _) hP hR hS hl)
      | 6, _ =>
        refine lv_tableIn (tgt := 607) (off := 567) hx hb d_law_40 (by decide) (by decide) (by decide) (by decide) ?_
        obtain ⟨res, bb, τ', q1, q2, q3, q4, q5⟩ := hok.2.2.2.2.2.2.1 σ τ f (xs (nI i + (1 : Int32)).toNatClampNeg) (xs (nI i + (2 : Int32)).toNatClampNeg) (xs (nI i + (3 : Int32)).toNatClampNeg) hRl
        exact lc_size h9 hL C0 hN hT hNc hJ hK hKR hi q1 q2 q3 q4 hcs hP hR hS hl (fun H locs ls hP hR hS hl => next res.2.1 τ' res.2.2 H locs _ _ ls q5 (Nat.le_refl _) (Nat.le_refl _) hP hR hS hl)
      | 7, _ =>
        refine lv_tableIn (tgt := 687) (off := 647) hx hb d_law_40 (by decide) (by decide) (by decide) (by decide) ?_
        obtain ⟨res, bb, τ', q1, q2, q3, q4, q5⟩ := hok.2.2.2.2.2.2.2.1 σ τ f (xs (nI i + (1 : Int32)).toNatClampNeg) (xs (nI i + (2 : Int32)).toNatClampNeg) hRl
        exact lc_rounds h9 hL C0 hN hT hNc hJ hK hKR hi q1 q2 q3 q4 hcs hP hR hS hl (fun H locs ls hP hR hS hl => next res.2.1 τ' res.2.2 H locs _ _ ls q5 (Nat.le_refl _) (Nat.le_refl _) hP hR hS hl)
      | 8, _ =>
        refine lv_tableIn (tgt := 755) (off := 715) hx hb d_law_40 (by decide) (by decide) (by decide) (by decide) ?_
        obtain ⟨res, bb, τ', q1, q2, q3, q4, q5⟩ := hok.2.2.2.2.2.2.2.2.1 σ τ f (xs (nI i + (1 : Int32)).toNatClampNeg) (xs (nI i + (2 : Int32)).toNatClampNeg) hRl
        exact lc_trips h9 hL C0 hN hT hNc hJ hK hKR hi q1 q2 q3 q4 hcs hP hR hS hl (fun H locs ls hP hR hS hl => next res.2.1 τ' res.2.2 H locs _ _ ls q5 (Nat.le_refl _) (Nat.le_refl _) hP hR hS hl)
      | 9, _ =>
        refine lv_tableIn (tgt := 823) (off := 783) hx hb d_law_40 (by decide) (by decide) (by decide) (by decide) ?_
        obtain ⟨res, bb, τ', q1, q2, q3, q4, q5⟩ := hok.2.2.2.2.2.2.2.2.2.1 σ τ f (xs (nI i + (1 : Int32)).toNatClampNeg) (xs (nI i + (2 : Int32)).toNatClampNeg) hRl
        exact lc_sum h9 hL C0 hN hT hNc hJ hK hKR hi q1 q2 q3 q4 hcs hP hR hS hl (fun H locs ls hP hR hS hl => next res.2.1 τ' res.2.2 H locs _ _ ls q5 (Nat.le_refl _) (Nat.le_refl _) hP hR hS hl)
      | 10, _ =>
        refine lv_tableIn (tgt := 891) (off := 851) hx hb d_law_40 (by decide) (by decide) (by decide) (by decide) ?_
        obtain ⟨res, bb, τ', q1, q2, q3, q4, q5⟩ := hok.2.2.2.2.2.2.2.2.2.2.1 σ τ f (xs (nI i + (1 : Int32)).toNatClampNeg) hRl
        exact lc_factor h9 hL C0 hN hT hNc hJ hK hKR hi q1 q2 q3 q4 hcs hP hR hS hl (fun H locs ls hP hR hS hl => next res.2.1 τ' res.2.2 H locs _ _ ls q5 (Nat.le_refl _) (Nat.le_refl _) hP hR hS hl)
      | 11, _ =>
        refine lv_tableIn (tgt := 947) (off := 907) hx hb d_law_40 (by decide) (by decide) (by decide) (by decide) ?_
        obtain ⟨res, bb, τ', q1, q2, q3, q4, q5⟩ := hok.2.2.2.2.2.2.2.2.2.2.2.1 σ τ f (xs (nI i + (1 : Int32)).toNatClampNeg) (xs (nI i + (2 : Int32)).toNatClampNeg) (xs (nI i + (3 : Int32)).toNatClampNeg) (xs (nI i + (4 : Int32)).toNatClampNeg) hRl
        exact lc_pull h9 hL C0 hN hT hNc hJ hK hKR hi q1 q2 q3 q4 hcs hP hR hS hl (fun H locs ls hP hR hS hl => next res.2.1 τ' res.2.2 H locs _ _ ls q5 (Nat.le_refl _) (Nat.le_refl _) hP hR hS hl)
      | 12, _ =>
        refine lv_tableIn (tgt := 1039) (off := 999) hx hb d_law_40 (by decide) (by decide) (by decide) (by decide) ?_
        obtain ⟨res, bb, τ', q1, q2, q3, q4, q5⟩ := hok.2.2.2.2.2.2.2.2.2.2.2.2.1 σ τ f (xs (nI i + (1 : Int32)).toNatClampNeg) (xs (nI i + (2 : Int32)).toNatClampNeg) (xs (nI i + (3 : Int32)).toNatClampNeg) hRl
        exact lc_chosen h9 hL C0 hN hT hNc hJ hK hKR hi q1 q2 q3 q4 hcs hP hR hS hl (fun H locs ls hP hR hS hl => next res.2.1 τ' res.2.2 H locs _ _ ls q5 (Nat.le_refl _) (Nat.le_refl _) hP hR hS hl)
      | 13, _ =>
        refine lv_tableIn (tgt := 1119) (off := 1079) hx hb d_law_40 (by decide) (by decide) (by decide) (by decide) ?_
        obtain ⟨res, bb, τ', q1, q2, q3, q4, q5⟩ := hok.2.2.2.2.2.2.2.2.2.2.2.2.2.1 σ τ f (xs (nI i + (1 : Int32)).toNatClampNeg) hRl
        exact lc_assign h9 hL C0 hN hT hNc hJ hK hKR hi q1 q2 q3 q4 hcs hP hR hS hl (fun H locs ls hP hR hS hl => next res.2.1 τ' res.2.2 H locs _ _ ls q5 (Nat.le_refl _) (Nat.le_refl _) hP hR hS hl)
      | 14, _ =>
        refine lv_tableIn (tgt := 1175) (off := 1135) hx hb d_law_40 (by decide) (by decide) (by decide) (by decide) ?_
        obtain ⟨res, bb, τ', q1, q2, q3, q4, q5⟩ := hok.2.2.2.2.2.2.2.2.2.2.2.2.2.2.1 σ τ f (xs (nI i + (1 : Int32)).toNatClampNeg) (xs (nI i + (2 : Int32)).toNatClampNeg) hRl
        exact lc_flow h9 hL C0 hN hT hNc hJ hK hKR hi q1 q2 q3 q4 hcs hP hR hS hl (fun H locs ls hP hR hS hl => next res.2.1 τ' res.2.2 H locs _ _ ls q5 (Nat.le_refl _) (Nat.le_refl _) hP hR hS hl)
      | 15, _ =>
        refine lv_tableIn (tgt := 1243) (off := 1203) hx hb d_law_40 (by decide) (by decide) (by decide) (by decide) ?_
        obtain ⟨res, bb, τ', q1, q2, q3, q4, q5⟩ := hok.2.2.2.2.2.2.2.2.2.2.2.2.2.2.2.1 σ τ f (xs (nI i + (1 : Int32)).toNatClampNeg) (xs (nI i + (2 : Int32)).toNatClampNeg) (xs (nI i + (3 : Int32)).toNatClampNeg) hRl
        exact lc_way h9 hL C0 hN hT hNc hJ hK hKR hi q1 q2 q3 q4 hcs hP hR hS hl (fun H locs ls hP hR hS hl => next res.2.1 τ' res.2.2 H locs _ _ ls q5 (Nat.le_refl _) (Nat.le_refl _) hP hR hS hl)
      | 16, _ =>
        refine lv_tableIn (tgt := 1323) (off := 1283) hx hb d_law_40 (by decide) (by decide) (by decide) (by decide) ?_
        obtain ⟨res, bb, τ', q1, q2, q3, q4, q5⟩ := hok.2.2.2.2.2.2.2.2.2.2.2.2.2.2.2.2.1 σ τ f (xs (nI i + (1 : Int32)).toNatClampNeg) (xs (nI i + (2 : Int32)).toNatClampNeg) hRl
        exact lc_least h9 hL C0 hN hT hNc hJ hK hKR hi q1 q2 q3 q4 hcs hP hR hS hl (fun H locs ls hP hR hS hl => next res.2.1 τ' res.2.2 H locs _ _ ls q5 (Nat.le_refl _) (Nat.le_refl _) hP hR hS hl)
      | 17, _ =>
        refine lv_tableIn (tgt := 1391) (off := 1351) hx hb d_law_40 (by decide) (by decide) (by decide) (by decide) ?_
        obtain ⟨res, bb, τ', q1, q2, q3, q4, q5⟩ := hok.2.2.2.2.2.2.2.2.2.2.2.2.2.2.2.2.2.1 σ τ f (xs (nI i + (1 : Int32)).toNatClampNeg) (xs (nI i + (2 : Int32)).toNatClampNeg) (xs (nI i + (3 : Int32)).toNatClampNeg) hRl
        exact lc_link h9 hL C0 hN hT hNc hJ hK hKR hi q1 q2 q3 q4 hcs hP hR hS hl (fun H locs ls hP hR hS hl => next res.2.1 τ' res.2.2 H locs _ _ ls q5 (Nat.le_refl _) (Nat.le_refl _) hP hR hS hl)
      | 18, _ =>
        refine lv_tableIn (tgt := 1471) (off := 1431) hx hb d_law_40 (by decide) (by decide) (by decide) (by decide) ?_
        obtain ⟨g, σ', τ', q1, q2, q3⟩ := hok.2.2.2.2.2.2.2.2.2.2.2.2.2.2.2.2.2.2.1 σ τ hRl
        exact lc_gap h9 hL C0 hN hT hNc hJ hK hKR hi q1 q2 rfl hcs hP hR hS hl (fun H locs ls hP hR hS hl => next σ' τ' f H locs _ _ ls q3 (Nat.le_succ _) (Nat.le_add_right _ _) hP hR hS hl)
      | 19, _ =>
        refine lv_tableIn (tgt := 1485) (off := 1445) hx hb d_law_40 (by decide) (by decide) (by decide) (by decide) ?_
        obtain ⟨res, bb, τ', q1, q2, q3, q4, q5⟩ := hok.2.2.2.2.2.2.2.2.2.2.2.2.2.2.2.2.2.2.2.1 σ τ f (xs (nI i + (1 : Int32)).toNatClampNeg) (xs (nI i + (2 : Int32)).toNatClampNeg) hRl
        exact lc_count h9 hL C0 hN hT hNc hJ hK hKR hi q1 q2 q3 q4 hcs hP hR hS hl (fun H locs ls hP hR hS hl => next res.2.1 τ' res.2.2 H locs _ _ ls q5 (Nat.le_refl _) (Nat.le_refl _) hP hR hS hl)
      | 20, _ =>
        refine lv_tableIn (tgt := 1553) (off := 1513) hx hb d_law_40 (by decide) (by decide) (by decide) (by decide) ?_
        obtain ⟨res, bb, τ', q1, q2, q3, q4, q5⟩ := hok.2.2.2.2.2.2.2.2.2.2.2.2.2.2.2.2.2.2.2.2 σ τ f (xs (nI i + (1 : Int32)).toNatClampNeg) hRl
        exact lc_fit h9 hL C0 hN hT hNc hJ hK hKR hi q1 q2 q3 q4 hcs hP hR hS hl (fun H locs ls hP hR hS hl => next res.2.1 τ' res.2.2 H locs _ _ ls q5 (Nat.le_refl _) (Nat.le_refl _) hP hR hS hl)
      | j + 21, hj =>
        refine lv_tableOut (tgt := 1609) hx hb d_law_40 (Or.inr (by rw [nI_toInt (by omega)]; omega)) (by decide) ?_
        exact next σ τ f H locs cells slots ls hRl (Nat.le_succ _) (Nat.le_add_right _ _) hP hR hS hl
