/-! NODE, ZONE, STREET: what grows -/
theorem okp_node : ok_node Rel := by
  intro σ τ f h
  obtain ⟨eN, hN⟩ := Bg_N h.1
  have eR : τ.1 1 = nI (qN σ) := by rw [h.2.1.1]; exact eN
  by_cases hc : qN σ = 12
  · have e1 : ¬ σ.1 0 < 12 := by rw [eN, hc]; decide
    have e2 : τ.1 1 = 12 := by rw [eR, hc]; rfl
    exact op_fail (f := f) h (by simp only [lf_node, mx_T_node, if_neg e1, lf1_s]) (by simp only [mf_R_node, if_pos e2, if_neg i10])
  · have e1 : σ.1 0 < 12 := by rw [eN]; exact nI_lt (b := 12) (by omega) (by decide)
    have e2 : ¬ τ.1 1 = 12 := by rw [eR]; exact fun e => hc ((nI_eq (b := 12) (by omega) (by decide)).mp e)
    have ev : τ.1 1 + 1 - 1 = σ.1 0 := by rw [eR, eN, nI_1, nI_pred]
    refine op_win (f := f) (v := σ.1 0) (σ' := tF σ 0 (σ.1 0 + 1)) (τ' := tF (tF τ 0 0) 1 (τ.1 1 + 1)) (by simp only [lf_node, mx_T_node, mf_T_node, if_pos e1, lf1_n, tb2_s]) (by simp only [mf_R_node, if_neg e2, if_pos i00, ev]) rfl ?_
    have en : σ.1 0 + 1 = nI (qN σ + 1) := by rw [eN, nI_1]
    have eq : qN (tF σ 0 (σ.1 0 + 1)) = qN σ + 1 := by
      show (σ.1 0 + 1).toNatClampNeg = _
      rw [en, nI_clamp (by omega)]
    obtain ⟨b1, b2, b3, b4, b5, b6⟩ := h.1
    refine ⟨⟨⟨⟨by rw [eq]; exact en, by rw [eq]; omega⟩, b1.2⟩, b2, b3, b4, ⟨fun k hk => ?_, fun k hk => ?_⟩, b6⟩, ?_⟩
    · rw [eq]; exact Nat.lt_succ_of_lt (b5.1 k hk)
    · rw [eq]; exact ⟨Nat.lt_succ_of_lt (b5.2 k hk).1, Nat.lt_succ_of_lt (b5.2 k hk).2⟩
    · obtain ⟨r1, r2⟩ := h.2
      exact ⟨⟨show τ.1 1 + 1 = σ.1 0 + 1 by rw [r1.1], r1.2⟩, r2⟩
theorem okp_zone : ok_zone Rel := by
  intro σ τ f p0 p1 p2 h
  obtain ⟨eZ, hZ⟩ := Bg_Z h.1
  have hN := Bg_N h.1
  have eR : τ.1 2 = nI (qZ σ) := by rw [h.2.1.2.1]; exact eZ
  rcases nd_node h p0 with ⟨a0, b0⟩ | ⟨k0, hk0, hp0, a0, c0, b0⟩
  · exact op_fail (f := f) h (by simp only [lf_zone, mx_T_zone, a0, tx_s, lf2_1]) (by simp only [mf_R_zone, b0, tb2_s, ↓reduceIte, if_neg i10])
  rcases nd_in p1 0 100000 σ τ with ⟨a1, b1⟩ | ⟨l1, u1, a1, c1, b1⟩
  · exact op_fail (f := f) h (by simp only [lf_zone, mx_T_zone, a0, c0, a1, tx_n, tb1_s, tx_s, lf2_1]) (by simp only [mf_R_zone, b0, b1, tb2_s, i1n, ↓reduceIte, if_neg i10])
  rcases nd_in p2 0 100000 σ τ with ⟨a2, b2⟩ | ⟨l2, u2, a2, c2, b2⟩
  · exact op_fail (f := f) h (by simp only [lf_zone, mx_T_zone, a0, c0, a1, c1, a2, tx_n, tb1_s, tx_s, lf2_1]) (by simp only [mf_R_zone, b0, b1, b2, tb2_s, i1n, ↓reduceIte, if_neg i10])
  by_cases hc : qZ σ = 6
  · have e1 : ¬ σ.1 1 < 6 := by rw [eZ, hc]; decide
    have e2 : τ.1 2 = 6 := by rw [eR, hc]; rfl
    exact op_fail2 (f := f) h (by simp only [lf_zone, mx_T_zone, a0, c0, a1, c1, a2, c2, tx_n, tb1_s, if_neg e1, lf2_2]) (by simp only [mf_R_zone, b0, b1, b2, tb2_s, i1n, ↓reduceIte, if_pos e2, if_neg i20])
  have e1 : σ.1 1 < 6 := by rw [eZ]; exact nI_lt (b := 6) (by omega) (by decide)
  have e2 : ¬ τ.1 2 = 6 := by rw [eR]; exact fun e => hc ((nI_eq (b := 6) (by omega) (by decide)).mp e)
  have t1 : ∀ {α : Type} (o : Option α), tg (σ.1 1) 6 o = o := fun o => tg_x eZ (by omega) (by decide)
  have t2 : ∀ {α : Type} (o : Option α), tg (τ.1 2) 6 o = o := fun o => tg_x eR (by omega) (by decide)
  have n1 : (σ.1 1).toNatClampNeg = qZ σ := rfl
  have n2 : (τ.1 2).toNatClampNeg = qZ σ := by rw [eR, nI_clamp (by omega)]
  have ev : τ.1 2 + 1 - 1 = σ.1 1 := by rw [eR, eZ, nI_1, nI_pred]
  obtain ⟨j1, hj1, hq1⟩ := nd_nat (n := 100000) rfl l1 u1
  obtain ⟨j2, hj2, hq2⟩ := nd_nat (n := 100000) rfl l2 u2
  refine op_win (f := f) (v := σ.1 1) (σ' := tF (tI (tI (tI σ 0 (qZ σ) p0) 1 (qZ σ) p1) 2 (qZ σ) p2) 1 (σ.1 1 + 1)) (τ' := tF (tI (tI (tI (tF τ 0 0) 0 (qZ σ) p0) 1 (qZ σ) p1) 2 (qZ σ) p2) 2 (τ.1 2 + 1)) (by simp only [lf_zone, mx_T_zone, mf_T_zone, mf_Z_addZone, a0, c0, a1, c1, a2, c2, tx_n, tb1_s, tb2_s, if_pos e1, lf2_n, t1, n1]) (by simp only [mf_R_zone, b0, b1, b2, tb2_s, i1n, ↓reduceIte, if_neg e2, if_pos i00, t2, n2, ev]) rfl ?_
  have en : σ.1 1 + 1 = nI (qZ σ + 1) := by rw [eZ, nI_1]
  obtain ⟨b1, b2, b3, b4, b5, b6⟩ := h.1
  have g0 : Bg (tI (tI (tI σ 0 (qZ σ) p0) 1 (qZ σ) p1) 2 (qZ σ) p2) := by
    rw [hp0, hq1, hq2]
    exact Bg_I (Bg_I (Bg_I b1 (by show k0 ≤ 11; omega)) hj1) hj2
  refine ⟨⟨⟨g0.1, ⟨?_, ?_⟩, g0.2.2⟩, ⟨b2.1, fun k hk => b2.2 k ?_⟩, b3, ?_, ⟨fun k hk => ?_, b5.2⟩, fun i j hi hj hz => b6 i j hi hj ?_⟩, ?_⟩
  · show σ.1 1 + 1 = nI ((σ.1 1 + 1).toNatClampNeg); rw [en, nI_clamp (by omega)]
  · show (σ.1 1 + 1).toNatClampNeg ≤ 6; rw [en, nI_clamp (by omega)]; omega
  · have : (σ.1 1 + 1).toNatClampNeg ≤ k := hk
    rw [en, nI_clamp (by omega)] at this; omega
  · exact b4
  · replace hk : k < (σ.1 1 + 1).toNatClampNeg := hk
    rw [en, nI_clamp (by omega)] at hk
    show ((tI (tI (tI σ 0 (qZ σ) p0) 1 (qZ σ) p1) 2 (qZ σ) p2).2.1 0 k).toNatClampNeg < qN σ
    rw [tI_ne (by decide), tI_ne (by decide), tI_at]
    split
    · rw [hp0, nI_clamp (by omega)]; exact hk0
    · exact b5.1 k (by omega)
  · have hz' : (σ.1 1 + 1).toNatClampNeg ≤ i ∨ (σ.1 1 + 1).toNatClampNeg ≤ j := hz
    rw [en, nI_clamp (by omega)] at hz'; omega
  · have r := Rf_I (a := 2) (k := qZ σ) (v := p2) (by decide) (Rf_I (a := 1) (k := qZ σ) (v := p1) (by decide) (Rf_I (a := 0) (k := qZ σ) (v := p0) (by decide) (Rf_F0 (v := 0) h.2)))
    exact ⟨⟨r.1.1, show τ.1 2 + 1 = σ.1 1 + 1 by rw [eR, eZ], r.1.2.2⟩, r.2⟩
theorem okp_street : ok_street Rel := by
  intro σ τ f p0 p1 p2 p3 p4 h
  obtain ⟨eS, hS⟩ := Bg_S h.1
  have hN := Bg_N h.1
  have eR : τ.1 3 = nI (qS σ) := by rw [h.2.1.2.2.1]; exact eS
  rcases nd_node h p0 with ⟨a0, b0⟩ | ⟨k0, hk0, hp0, a0, c0, b0⟩
  · exact op_fail (f := f) h (by simp only [lf_street, mx_T_street, a0, tx_s, lf2_1]) (by simp only [mf_R_street, b0, tb2_s, ↓reduceIte, if_neg i10])
  rcases nd_node h p1 with ⟨a1, b1⟩ | ⟨k1, hk1, hp1, a1, c1, b1⟩
  · exact op_fail (f := f) h (by simp only [lf_street, mx_T_street, a0, c0, a1, tx_n, tb1_s, tx_s, lf2_1]) (by simp only [mf_R_street, b0, b1, tb2_s, i1n, ↓reduceIte, if_neg i10])
  by_cases hne : p0 = p1
  · exact op_fail (f := f) h (by simp only [lf_street, mx_T_street, a0, c0, a1, c1, tx_n, tb1_s, tx_s, if_pos hne, lf2_1]) (by simp only [mf_R_street, b0, b1, tb2_s, i1n, ↓reduceIte, if_pos hne, if_neg i10])
  rcases nd_in p2 1 1000 σ τ with ⟨a2, b2⟩ | ⟨l2, u2, a2, c2, b2⟩
  · exact op_fail (f := f) h (by simp only [lf_street, mx_T_street, a0, c0, a1, c1, a2, tx_n, tb1_s, tx_s, if_neg hne, lf2_1]) (by simp only [mf_R_street, b0, b1, b2, tb2_s, i1n, ↓reduceIte, if_neg hne, if_neg i10])
  rcases nd_in p3 0 1000 σ τ with ⟨a3, b3⟩ | ⟨l3, u3, a3, c3, b3⟩
  · exact op_fail (f := f) h (by simp only [lf_street, mx_T_street, a0, c0, a1, c1, a2, c2, a3, tx_n, tb1_s, tx_s, if_neg hne, lf2_1]) (by simp only [mf_R_street, b0, b1, b2, b3, tb2_s, i1n, ↓reduceIte, if_neg hne, if_neg i10])
  rcases nd_in p4 1 1000000 σ τ with ⟨a4, b4⟩ | ⟨l4, u4, a4, c4, b4⟩
  · exact op_fail (f := f) h (by simp only [lf_street, mx_T_street, a0, c0, a1, c1, a2, c2, a3, c3, a4, tx_n, tb1_s, tx_s, if_neg hne, lf2_1]) (by simp only [mf_R_street, b0, b1, b2, b3, b4, tb2_s, i1n, ↓reduceIte, if_neg hne, if_neg i10])
  by_cases hc : qS σ = 40
  · have e1 : ¬ σ.1 2 < 40 := by rw [eS, hc]; decide
    have e2 : τ.1 3 = 40 := by rw [eR, hc]; rfl
    exact op_fail2 (f := f) h (by simp only [lf_street, mx_T_street, a0, c0, a1, c1, a2, c2, a3, c3, a4, c4, tx_n, tb1_s, if_neg hne, if_neg e1, lf2_2]) (by simp only [mf_R_street, b0, b1, b2, b3, b4, tb2_s, i1n, ↓reduceIte, if_neg hne, if_pos e2, if_neg i20])
  have e1 : σ.1 2 < 40 := by rw [eS]; exact nI_lt (b := 40) (by omega) (by decide)
  have e2 : ¬ τ.1 3 = 40 := by rw [eR]; exact fun e => hc ((nI_eq (b := 40) (by omega) (by decide)).mp e)
  have t1 : ∀ {α : Type} (o : Option α), tg (σ.1 2) 40 o = o := fun o => tg_x eS (by omega) (by decide)
  have t2 : ∀ {α : Type} (o : Option α), tg (τ.1 3) 40 o = o := fun o => tg_x eR (by omega) (by decide)
  have n1 : (σ.1 2).toNatClampNeg = qS σ := rfl
  have n2 : (τ.1 3).toNatClampNeg = qS σ := by rw [eR, nI_clamp (by omega)]
  have ev : τ.1 3 + 1 - 1 = σ.1 2 := by rw [eR, eS, nI_1, nI_pred]
  have o1 : ∀ {p : Int32}, ¬ p < 1 → ¬ p < 0 := by
    intro p hp
    rw [Int32.lt_iff_toInt_lt] at *
    have v1 : (1 : Int32).toInt = 1 := rfl
    have v2 : (0 : Int32).toInt = 0 := rfl
    omega
  obtain ⟨j2, hj2, hq2⟩ := nd_nat (n := 1000) rfl (o1 l2) u2
  obtain ⟨j3, hj3, hq3⟩ := nd_nat (n := 1000) rfl l3 u3
  obtain ⟨j4, hj4, hq4⟩ := nd_nat (n := 1000000) rfl (o1 l4) u4
  have hj4' : 1 ≤ j4 := by
    rw [hq4, Int32.lt_iff_toInt_lt, nI_toInt (by omega)] at l4
    have v1 : (1 : Int32).toInt = 1 := rfl
    omega
  refine op_win (f := f) (v := σ.1 2) (σ' := tF (tI (tI (tI (tI (tI (tI σ 7 (qS σ) p0) 8 (qS σ) p1) 9 (qS σ) p2) 10 (qS σ) p3) 11 (qS σ) p4) 13 (qS σ) 1) 2 (σ.1 2 + 1)) (τ' := tF (tI (tI (tI (tI (tI (tI (tF τ 0 0) 3 (qS σ) p0) 4 (qS σ) p1) 5 (qS σ) p2) 6 (qS σ) p3) 7 (qS σ) p4) 10 (qS σ) (-1)) 3 (τ.1 3 + 1)) (by simp only [lf_street, mx_T_street, mf_T_street, mf_S_addStreet, a0, c0, a1, c1, a2, c2, a3, c3, a4, c4, tx_n, tb1_s, tb2_s, if_neg hne, if_pos e1, lf2_n, t1, n1, vp_nar_b1]) (by simp only [mf_R_street, b0, b1, b2, b3, b4, tb2_s, i1n, ↓reduceIte, if_neg hne, if_neg e2, if_pos i00, t2, n2, ev]) rfl ?_
  have en : σ.1 2 + 1 = nI (qS σ + 1) := by rw [eS, nI_1]
  have eq : (σ.1 2 + 1).toNatClampNeg = qS σ + 1 := by rw [en, nI_clamp (by omega)]
  obtain ⟨b1, b2, b3, b4, b5, b6⟩ := h.1
  have g0 : Bg (tI (tI (tI (tI (tI (tI σ 7 (qS σ) p0) 8 (qS σ) p1) 9 (qS σ) p2) 10 (qS σ) p3) 11 (qS σ) p4) 13 (qS σ) (nI 1)) := by
    rw [hp0, hp1, hq2, hq3, hq4]
    exact Bg_I (Bg_I (Bg_I (Bg_I (Bg_I (Bg_I b1 (by show k0 ≤ 11; omega)) (by show k1 ≤ 11; omega)) hj2) hj3) hj4) (Nat.le_refl 1)
  refine ⟨⟨⟨g0.1, g0.2.1, ⟨?_, ?_⟩, g0.2.2.2⟩, b2, ⟨b3.1, fun k hk => b3.2 k ?_⟩, fun k hk => ?_, ⟨b5.1, fun k hk => ?_⟩, b6⟩, ?_⟩
  · show σ.1 2 + 1 = nI ((σ.1 2 + 1).toNatClampNeg); rw [eq]; exact en
  · show (σ.1 2 + 1).toNatClampNeg ≤ 40; rw [eq]; omega
  · have : (σ.1 2 + 1).toNatClampNeg ≤ k := hk
    omega
  · show 1 ≤ ((tI (tI (tI (tI (tI (tI σ 7 (qS σ) p0) 8 (qS σ) p1) 9 (qS σ) p2) 10 (qS σ) p3) 11 (qS σ) p4) 13 (qS σ) 1).2.1 11 k).toNatClampNeg
    rw [tI_ne (by decide), tI_at]
    split
    · rw [hq4, nI_clamp (by omega)]; exact hj4'
    · exact b4 k hk
  · replace hk : k < (σ.1 2 + 1).toNatClampNeg := hk
    rw [eq] at hk
    show ((tI (tI (tI (tI (tI (tI σ 7 (qS σ) p0) 8 (qS σ) p1) 9 (qS σ) p2) 10 (qS σ) p3) 11 (qS σ) p4) 13 (qS σ) 1).2.1 7 k).toNatClampNeg < qN σ ∧ ((tI (tI (tI (tI (tI (tI σ 7 (qS σ) p0) 8 (qS σ) p1) 9 (qS σ) p2) 10 (qS σ) p3) 11 (qS σ) p4) 13 (qS σ) 1).2.1 8 k).toNatClampNeg < qN σ
    rw [tI_ne (by decide), tI_ne (by decide), tI_ne (by decide), tI_ne (by decide), tI_ne (by decide), tI_at, tI_ne (by decide), tI_ne (by decide), tI_ne (by decide), tI_ne (by decide), tI_at, tI_ne (by decide)]
    by_cases hks : k = qS σ
    · rw [if_pos hks, if_pos hks, hp0, hp1, nI_clamp (by omega), nI_clamp (by omega)]; exact ⟨hk0, hk1⟩
    · rw [if_neg hks, if_neg hks]; exact b5.2 k (by omega)
  · obtain ⟨r1, r2, r3, r4, r5, r6⟩ := h.2
    refine ⟨⟨r1.1, r1.2.1, show τ.1 3 + 1 = σ.1 2 + 1 by rw [eR, eS], r1.2.2.2⟩, fun b j hj => ?_, fun j hj => ?_, fun j hj => ?_, fun j hj => ?_, fun j hj => ?_⟩
    · have r := Rf_I (a := 10) (k := qS σ) (v := p3) (by decide) (Rf_I (a := 9) (k := qS σ) (v := p2) (by decide) (Rf_I (a := 8) (k := qS σ) (v := p1) (by decide) (Rf_I (a := 7) (k := qS σ) (v := p0) (by decide) (Rf_F0 (v := 0) h.2))))
      have h13 : b ≠ 13 := fun e => by rw [e] at hj; exact absurd hj (by simp [rs])
      have h11 : b ≠ 11 := fun e => by rw [e] at hj; exact absurd hj (by simp [rs])
      have hr := rm_ne b
      show (tI (tI (tI (tI (tI (tI (tF τ 0 0) 3 (qS σ) p0) 4 (qS σ) p1) 5 (qS σ) p2) 6 (qS σ) p3) 7 (qS σ) p4) 10 (qS σ) (-1)).2.1 (rm b) j = (tI (tI (tI (tI (tI (tI σ 7 (qS σ) p0) 8 (qS σ) p1) 9 (qS σ) p2) 10 (qS σ) p3) 11 (qS σ) p4) 13 (qS σ) 1).2.1 b j
      rw [tI_ne (by omega), tI_ne (by omega), tI_ne h13, tI_ne h11]
      exact r.2.1 b j hj
    · replace hj : j < (σ.1 2 + 1).toNatClampNeg := hj
      rw [eq] at hj
      show (tI (tI (tI (tI (tI (tI (tF τ 0 0) 3 (qS σ) p0) 4 (qS σ) p1) 5 (qS σ) p2) 6 (qS σ) p3) 7 (qS σ) p4) 10 (qS σ) (-1)).2.1 7 j = (tI (tI (tI (tI (tI (tI σ 7 (qS σ) p0) 8 (qS σ) p1) 9 (qS σ) p2) 10 (qS σ) p3) 11 (qS σ) p4) 13 (qS σ) 1).2.1 11 j
      rw [tI_ne (show (7 : Nat) ≠ 10 by decide), tI_at, tI_ne (show (11 : Nat) ≠ 13 by decide), tI_at]
      split
      · rfl
      · exact r3 j (by omega)
    · replace hj : j < (σ.1 2 + 1).toNatClampNeg := hj
      rw [eq] at hj
      show (tI (tI (tI (tI (tI (tI (tF τ 0 0) 3 (qS σ) p0) 4 (qS σ) p1) 5 (qS σ) p2) 6 (qS σ) p3) 7 (qS σ) p4) 10 (qS σ) (-1)).2.1 10 j = σ.2.1 14 j
      rw [tI_at]
      split
      · rename_i e; rw [e]; exact (b3.2 (qS σ) (Nat.le_refl _) (by omega)).symm
      · exact r4 j (by omega)
    · show τ.2.1 9 j = if (σ.1 2 + 1).toNatClampNeg ≤ j ∨ (tI (tI (tI (tI (tI (tI σ 7 (qS σ) p0) 8 (qS σ) p1) 9 (qS σ) p2) 10 (qS σ) p3) 11 (qS σ) p4) 13 (qS σ) 1).2.1 13 j ≠ 0 then 0 else 1
      rw [r5 j hj, eq, tI_at]
      by_cases hjs : j = qS σ
      · rw [if_pos hjs, if_pos (Or.inl (by omega)), if_pos (Or.inr (by decide))]
      · rw [if_neg hjs]
        show (if qS σ ≤ j ∨ σ.2.1 13 j ≠ 0 then (0 : Int32) else 1) = if qS σ + 1 ≤ j ∨ σ.2.1 13 j ≠ 0 then 0 else 1
        by_cases hl : qS σ ≤ j
        · rw [if_pos (Or.inl hl), if_pos (Or.inl (by omega))]
        · by_cases h13 : σ.2.1 13 j ≠ 0
          · rw [if_pos (Or.inr h13), if_pos (Or.inr h13)]
          · rw [if_neg (by simp [hl, h13]), if_neg (fun g => g.elim (by omega) h13)]
    · exact r6 j hj
