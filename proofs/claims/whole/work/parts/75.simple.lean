/-! THE SIMPLE CALLS -/
theorem nd_pair0 {τ : tS} {p q : Int32} (ha : mf_R_isZone p τ = some (0, τ)) : mf_R_isPair p q τ = some (0, τ) := by
  unfold mf_R_isPair
  rw [ha, tb2_s, if_pos rfl, tb_0]
theorem nd_pair1 {τ : tS} {p q : Int32} (ha : mf_R_isZone p τ = some (1, τ)) (hb : mf_R_isZone q τ = some (0, τ)) : mf_R_isPair p q τ = some (0, τ) := by
  unfold mf_R_isPair
  rw [ha, tb2_s, if_neg i1n, hb, tb2_s, if_pos rfl, tb_0]
theorem nd_pair2 {τ : tS} {p q : Int32} (ha : mf_R_isZone p τ = some (1, τ)) (hb : mf_R_isZone q τ = some (1, τ)) : mf_R_isPair p q τ = some (1, τ) := by
  unfold mf_R_isPair
  rw [ha, tb2_s, if_neg i1n, hb, tb2_s, if_neg i1n, tb_1]
theorem nI_ix {p q : Int32} {a b c : Nat} (hp : p = nI a) (hq : q = nI b) : p * nI c + q = nI (c * a + b) ∧ nI c * p + q = nI (c * a + b) := by
  rw [hp, hq]
  exact ⟨by rw [pk_mul, nI_add, Nat.mul_comm], by rw [pk_mul, nI_add]⟩
theorem Rel_I {σ τ : tS} {a k n : Nat} (h : Rel σ τ) (ha : a ≠ 0 ∧ a ≠ 4 ∧ a ≠ 5 ∧ a ≠ 7 ∧ a ≠ 8 ∧ a ≠ 11 ∧ a ≠ 14 ∧ a ≠ 13 ∧ a ≠ 15) (hn : n ≤ bh a) : Rel (tI σ a k (nI n)) (tI (tF τ 0 0) (rm a) k (nI n)) := ⟨Bnd_I h.1 (by omega) hn, Rf_I (by omega) (Rf_F0 h.2)⟩
theorem okp_toll : ok_toll Rel := by
  intro σ τ f p0 p1 h
  have hN := Bg_N h.1
  have hZ := Bg_Z h.1
  have hS := Bg_S h.1
  rcases nd_street h p0 with ⟨a0, b0⟩ | ⟨k0, hk0, hp0, a0, c0, b0⟩
  · exact op_fail (f := f) h (by simp only [lf_toll, mx_T_toll, a0, tb1_s, tb2_s, tx_s, tx_n, lf1_s, lf1_n, i10, i00, i1n, ↓reduceIte]) (by simp only [mf_R_toll, b0, tb1_s, tb2_s, tx_s, tx_n, lf1_s, lf1_n, i10, i00, i1n, ↓reduceIte])
  rcases nd_in p1 0 1000 σ τ with ⟨a1, b1⟩ | ⟨l1, u1, a1, c1, b1⟩
  · exact op_fail (f := f) h (by simp only [lf_toll, mx_T_toll, a0, c0, a1, tb1_s, tb2_s, tx_s, tx_n, lf1_s, lf1_n, i10, i00, i1n, ↓reduceIte]) (by simp only [mf_R_toll, b0, b1, tb1_s, tb2_s, tx_s, tx_n, lf1_s, lf1_n, i10, i00, i1n, ↓reduceIte])
  have t0 : ∀ {α : Type} (o : Option α), tg p0 40 o = o := fun o => tg_x hp0 (by omega) (by decide)
  have e0 : p0.toNatClampNeg = k0 := by rw [hp0]; exact nI_clamp (by omega)
  obtain ⟨j, hj, hq⟩ := nd_nat (n := 1000) rfl l1 u1
  have er : τ.2.1 8 k0 = σ.2.1 12 k0 := Rf_r h.2 12 (k := k0) (show k0 < 40 by omega)
  refine op_win (f := f) (v := σ.2.1 12 k0) (σ' := tI σ 12 k0 p1) (τ' := tI (tF τ 0 0) 8 k0 p1) (by simp only [lf_toll, mx_T_toll, mf_T_toll, a0, c0, a1, c1, tb1_s, tb2_s, tx_s, tx_n, lf1_s, lf1_n, i10, i00, i1n, ↓reduceIte, t0, e0]) (by simp only [mf_R_toll, b0, b1, tb1_s, tb2_s, tx_s, tx_n, lf1_s, lf1_n, i10, i00, i1n, ↓reduceIte, t0, e0, er]) rfl ?_
  rw [hq]
  exact Rel_I (a := 12) h (by decide) hj
theorem okp_weight : ok_weight Rel := by
  intro σ τ f p0 p1 p2 h
  have hN := Bg_N h.1
  have hZ := Bg_Z h.1
  have hS := Bg_S h.1
  rcases nd_zone h p0 with ⟨a0, b0⟩ | ⟨k0, hk0, hp0, a0, c0, b0⟩
  · exact op_fail (f := f) h (by simp only [lf_weight, mx_T_weight, a0, tb1_s, tb2_s, tx_s, tx_n, lf1_s, lf1_n, i10, i00, i1n, ↓reduceIte]) (by simp only [mf_R_weight, nd_pair0 (q := p1) b0, tb1_s, tb2_s, tx_s, tx_n, lf1_s, lf1_n, i10, i00, i1n, ↓reduceIte])
  rcases nd_zone h p1 with ⟨a1, b1⟩ | ⟨k1, hk1, hp1, a1, c1, b1⟩
  · exact op_fail (f := f) h (by simp only [lf_weight, mx_T_weight, a0, c0, a1, tb1_s, tb2_s, tx_s, tx_n, lf1_s, lf1_n, i10, i00, i1n, ↓reduceIte]) (by simp only [mf_R_weight, nd_pair1 b0 b1, tb1_s, tb2_s, tx_s, tx_n, lf1_s, lf1_n, i10, i00, i1n, ↓reduceIte])
  rcases nd_in p2 0 1000 σ τ with ⟨a2, b2⟩ | ⟨l2, u2, a2, c2, b2⟩
  · exact op_fail (f := f) h (by simp only [lf_weight, mx_T_weight, a0, c0, a1, c1, a2, tb1_s, tb2_s, tx_s, tx_n, lf1_s, lf1_n, i10, i00, i1n, ↓reduceIte]) (by simp only [mf_R_weight, nd_pair2 b0 b1, b2, tb1_s, tb2_s, tx_s, tx_n, lf1_s, lf1_n, i10, i00, i1n, ↓reduceIte])
  obtain ⟨j, hj, hq⟩ := nd_nat (n := 1000) rfl l2 u2
  obtain ⟨x1, x2⟩ := nI_ix (c := 6) hp0 hp1
  replace x1 : p0 * 6 + p1 = nI (6 * k0 + k1) := x1
  replace x2 : 6 * p0 + p1 = nI (6 * k0 + k1) := x2
  have t : ∀ {α : Type} (o : Option α), tg (nI (6 * k0 + k1)) 36 o = o := fun o => tg_n (by omega) (by decide)
  have e : (nI (6 * k0 + k1)).toNatClampNeg = 6 * k0 + k1 := nI_clamp (by omega)
  have er : τ.2.1 11 (6 * k0 + k1) = σ.2.1 3 (6 * k0 + k1) := Rf_r h.2 3 (show 6 * k0 + k1 < 36 by omega)
  refine op_win (f := f) (v := σ.2.1 3 (6 * k0 + k1)) (σ' := tI σ 3 (6 * k0 + k1) p2) (τ' := tI (tF τ 0 0) 11 (6 * k0 + k1) p2) (by simp only [lf_weight, mx_T_weight, mf_T_weight, a0, c0, a1, c1, a2, c2, tb1_s, tb2_s, tx_s, tx_n, lf1_s, lf1_n, i10, i00, i1n, ↓reduceIte, mf_T_pairOf, x1, t, e]) (by simp only [mf_R_weight, nd_pair2 b0 b1, b2, tb1_s, tb2_s, tx_s, tx_n, lf1_s, lf1_n, i10, i00, i1n, ↓reduceIte, x2, t, e, er]) rfl ?_
  rw [hq]
  exact Rel_I (a := 3) h (by decide) hj
theorem okp_trips : ok_trips Rel := by
  intro σ τ f p0 p1 h
  have hN := Bg_N h.1
  have hZ := Bg_Z h.1
  have hS := Bg_S h.1
  rcases nd_zone h p0 with ⟨a0, b0⟩ | ⟨k0, hk0, hp0, a0, c0, b0⟩
  · exact op_fail (f := f) h (by simp only [lf_trips, mx_T_trips, a0, tb1_s, tb2_s, tx_s, tx_n, lf1_s, lf1_n, i10, i00, i1n, ↓reduceIte]) (by simp only [mf_R_trips, nd_pair0 (q := p1) b0, tb1_s, tb2_s, tx_s, tx_n, lf1_s, lf1_n, i10, i00, i1n, ↓reduceIte])
  rcases nd_zone h p1 with ⟨a1, b1⟩ | ⟨k1, hk1, hp1, a1, c1, b1⟩
  · exact op_fail (f := f) h (by simp only [lf_trips, mx_T_trips, a0, c0, a1, tb1_s, tb2_s, tx_s, tx_n, lf1_s, lf1_n, i10, i00, i1n, ↓reduceIte]) (by simp only [mf_R_trips, nd_pair1 b0 b1, tb1_s, tb2_s, tx_s, tx_n, lf1_s, lf1_n, i10, i00, i1n, ↓reduceIte])
  obtain ⟨x1, x2⟩ := nI_ix (c := 6) hp0 hp1
  replace x1 : p0 * 6 + p1 = nI (6 * k0 + k1) := x1
  replace x2 : 6 * p0 + p1 = nI (6 * k0 + k1) := x2
  have t : ∀ {α : Type} (o : Option α), tg (nI (6 * k0 + k1)) 36 o = o := fun o => tg_n (by omega) (by decide)
  have e : (nI (6 * k0 + k1)).toNatClampNeg = 6 * k0 + k1 := nI_clamp (by omega)
  have er : τ.2.1 12 (6 * k0 + k1) = σ.2.1 4 (6 * k0 + k1) := Rf_r h.2 4 (show 6 * k0 + k1 < 36 by omega)
  exact op_win (f := f) (v := σ.2.1 4 (6 * k0 + k1)) (σ' := σ) (τ' := tF τ 0 0) (by simp only [lf_trips, mx_T_trips, mf_T_trips, a0, c0, a1, c1, tb1_s, tb2_s, tx_s, tx_n, lf1_s, lf1_n, i10, i00, i1n, ↓reduceIte, mf_T_pairOf, x1, t, e]) (by simp only [mf_R_trips, nd_pair2 b0 b1, tb1_s, tb2_s, tx_s, tx_n, lf1_s, lf1_n, i10, i00, i1n, ↓reduceIte, x2, t, e, er]) rfl ⟨h.1, Rf_F0 h.2⟩
theorem okp_factor : ok_factor Rel := by
  intro σ τ f p0 h
  have hN := Bg_N h.1
  have hZ := Bg_Z h.1
  have hS := Bg_S h.1
  rcases nd_zone h p0 with ⟨a0, b0⟩ | ⟨k0, hk0, hp0, a0, c0, b0⟩
  · exact op_fail (f := f) h (by simp only [lf_factor, mx_T_factor, a0, tb1_s, tb2_s, tx_s, tx_n, lf1_s, lf1_n, i10, i00, i1n, ↓reduceIte]) (by simp only [mf_R_factor, b0, tb1_s, tb2_s, tx_s, tx_n, lf1_s, lf1_n, i10, i00, i1n, ↓reduceIte])
  have t0 : ∀ {α : Type} (o : Option α), tg p0 6 o = o := fun o => tg_x hp0 (by omega) (by decide)
  have e0 : p0.toNatClampNeg = k0 := by rw [hp0]; exact nI_clamp (by omega)
  have er : τ.2.1 16 k0 = σ.2.1 5 k0 := Rf_r h.2 5 (k := k0) (show k0 < 6 by omega)
  exact op_win (f := f) (v := σ.2.1 5 k0) (σ' := σ) (τ' := tF τ 0 0) (by simp only [lf_factor, mx_T_factor, mf_T_factor, a0, c0, tb1_s, tb2_s, tx_s, tx_n, lf1_s, lf1_n, i10, i00, i1n, ↓reduceIte, t0, e0]) (by simp only [mf_R_factor, b0, tb1_s, tb2_s, tx_s, tx_n, lf1_s, lf1_n, i10, i00, i1n, ↓reduceIte, t0, e0, er]) rfl ⟨h.1, Rf_F0 h.2⟩
theorem okp_pull : ok_pull Rel := by
  intro σ τ f p0 p1 p2 p3 h
  have hN := Bg_N h.1
  have hZ := Bg_Z h.1
  have hS := Bg_S h.1
  rcases nd_in p0 0 2 σ τ with ⟨a0, b0⟩ | ⟨l0, u0, a0, c0, b0⟩
  · exact op_fail (f := f) h (by simp only [lf_pull, mx_T_pull, a0, tb1_s, tb2_s, tx_s, tx_n, lf1_s, lf1_n, i10, i00, i1n, ↓reduceIte]) (by simp only [mf_R_pull, b0, tb1_s, tb2_s, tx_s, tx_n, lf1_s, lf1_n, i10, i00, i1n, ↓reduceIte])
  rcases nd_zone h p1 with ⟨a1, b1⟩ | ⟨k1, hk1, hp1, a1, c1, b1⟩
  · exact op_fail (f := f) h (by simp only [lf_pull, mx_T_pull, a0, c0, a1, tb1_s, tb2_s, tx_s, tx_n, lf1_s, lf1_n, i10, i00, i1n, ↓reduceIte]) (by simp only [mf_R_pull, b0, nd_pair0 (q := p2) b1, tb1_s, tb2_s, tx_s, tx_n, lf1_s, lf1_n, i10, i00, i1n, ↓reduceIte])
  rcases nd_zone h p2 with ⟨a2, b2⟩ | ⟨k2, hk2, hp2, a2, c2, b2⟩
  · exact op_fail (f := f) h (by simp only [lf_pull, mx_T_pull, a0, c0, a1, c1, a2, tb1_s, tb2_s, tx_s, tx_n, lf1_s, lf1_n, i10, i00, i1n, ↓reduceIte]) (by simp only [mf_R_pull, b0, nd_pair1 b1 b2, tb1_s, tb2_s, tx_s, tx_n, lf1_s, lf1_n, i10, i00, i1n, ↓reduceIte])
  rcases nd_in p3 0 1000 σ τ with ⟨a3, b3⟩ | ⟨l3, u3, a3, c3, b3⟩
  · exact op_fail (f := f) h (by simp only [lf_pull, mx_T_pull, a0, c0, a1, c1, a2, c2, a3, tb1_s, tb2_s, tx_s, tx_n, lf1_s, lf1_n, i10, i00, i1n, ↓reduceIte]) (by simp only [mf_R_pull, b0, nd_pair2 b1 b2, b3, tb1_s, tb2_s, tx_s, tx_n, lf1_s, lf1_n, i10, i00, i1n, ↓reduceIte])
  obtain ⟨m, hm, hqm⟩ := nd_nat (n := 2) rfl l0 u0
  obtain ⟨j, hj, hq⟩ := nd_nat (n := 1000) rfl l3 u3
  have x1 : p0 * 36 + (p1 * 6 + p2) = nI (36 * m + 6 * k1 + k2) := by rw [show p1 * 6 + p2 = nI (6 * k1 + k2) from (nI_ix (c := 6) hp1 hp2).1, show p0 * 36 + nI (6 * k1 + k2) = _ from (nI_ix (c := 36) hqm rfl).1, Nat.add_assoc]
  have x2 : 36 * p0 + 6 * p1 + p2 = nI (36 * m + 6 * k1 + k2) := by rw [hqm, hp1, hp2]; show nI 36 * nI m + nI 6 * nI k1 + nI k2 = _; rw [pk_mul, pk_mul, nI_add, nI_add]
  have t : ∀ {α : Type} (o : Option α), tg (nI (36 * m + 6 * k1 + k2)) 108 o = o := fun o => tg_n (by omega) (by decide)
  have e : (nI (36 * m + 6 * k1 + k2)).toNatClampNeg = 36 * m + 6 * k1 + k2 := nI_clamp (by omega)
  have er : τ.2.1 13 (36 * m + 6 * k1 + k2) = σ.2.1 6 (36 * m + 6 * k1 + k2) := Rf_r h.2 6 (show 36 * m + 6 * k1 + k2 < 108 by omega)
  refine op_win (f := f) (v := σ.2.1 6 (36 * m + 6 * k1 + k2)) (σ' := tI σ 6 (36 * m + 6 * k1 + k2) p3) (τ' := tI (tF τ 0 0) 13 (36 * m + 6 * k1 + k2) p3) (by simp only [lf_pull, mx_T_pull, mf_T_pull, a0, c0, a1, c1, a2, c2, a3, c3, tb1_s, tb2_s, tx_s, tx_n, lf1_s, lf1_n, i10, i00, i1n, ↓reduceIte, mf_T_pairOf, mf_M_placeOf, x1, t, e]) (by simp only [mf_R_pull, b0, nd_pair2 b1 b2, b3, tb1_s, tb2_s, tx_s, tx_n, lf1_s, lf1_n, i10, i00, i1n, ↓reduceIte, x2, t, e, er]) rfl ?_
  rw [hq]
  exact Rel_I (a := 6) h (by decide) hj
theorem okp_link : ok_link Rel := by
  intro σ τ f p0 p1 p2 h
  have hN := Bg_N h.1
  have hZ := Bg_Z h.1
  have hS := Bg_S h.1
  rcases nd_street h p0 with ⟨a0, b0⟩ | ⟨k0, hk0, hp0, a0, c0, b0⟩
  · exact op_fail (f := f) h (by simp only [lf_link, mx_T_link, a0, tb1_s, tb2_s, tx_s, tx_n, lf1_s, lf1_n, i10, i00, i1n, ↓reduceIte]) (by simp only [mf_R_link, b0, tb1_s, tb2_s, tx_s, tx_n, lf1_s, lf1_n, i10, i00, i1n, ↓reduceIte])
  rcases nd_zone h p1 with ⟨a1, b1⟩ | ⟨k1, hk1, hp1, a1, c1, b1⟩
  · exact op_fail (f := f) h (by simp only [lf_link, mx_T_link, a0, c0, a1, tb1_s, tb2_s, tx_s, tx_n, lf1_s, lf1_n, i10, i00, i1n, ↓reduceIte]) (by simp only [mf_R_link, b0, nd_pair0 (q := p2) b1, tb1_s, tb2_s, tx_s, tx_n, lf1_s, lf1_n, i10, i00, i1n, ↓reduceIte])
  rcases nd_zone h p2 with ⟨a2, b2⟩ | ⟨k2, hk2, hp2, a2, c2, b2⟩
  · exact op_fail (f := f) h (by simp only [lf_link, mx_T_link, a0, c0, a1, c1, a2, tb1_s, tb2_s, tx_s, tx_n, lf1_s, lf1_n, i10, i00, i1n, ↓reduceIte]) (by simp only [mf_R_link, b0, nd_pair1 b1 b2, tb1_s, tb2_s, tx_s, tx_n, lf1_s, lf1_n, i10, i00, i1n, ↓reduceIte])
  have x1 : p0 * 36 + (p1 * 6 + p2) = nI (36 * k0 + 6 * k1 + k2) := by rw [show p1 * 6 + p2 = nI (6 * k1 + k2) from (nI_ix (c := 6) hp1 hp2).1, show p0 * 36 + nI (6 * k1 + k2) = _ from (nI_ix (c := 36) hp0 rfl).1, Nat.add_assoc]
  have x2 : 36 * p0 + 6 * p1 + p2 = nI (36 * k0 + 6 * k1 + k2) := by rw [hp0, hp1, hp2]; show nI 36 * nI k0 + nI 6 * nI k1 + nI k2 = _; rw [pk_mul, pk_mul, nI_add, nI_add]
  have t : ∀ {α : Type} (o : Option α), tg (nI (36 * k0 + 6 * k1 + k2)) 1440 o = o := fun o => tg_n (by omega) (by decide)
  have e : (nI (36 * k0 + 6 * k1 + k2)).toNatClampNeg = 36 * k0 + 6 * k1 + k2 := nI_clamp (by omega)
  have er : τ.2.1 15 (36 * k0 + 6 * k1 + k2) = σ.2.1 20 (36 * k0 + 6 * k1 + k2) := Rf_r h.2 20 (show 36 * k0 + 6 * k1 + k2 < 1440 by omega)
  exact op_win (f := f) (v := σ.2.1 20 (36 * k0 + 6 * k1 + k2)) (σ' := σ) (τ' := tF τ 0 0) (by simp only [lf_link, mx_T_link, mf_T_link, a0, c0, a1, c1, a2, c2, tb1_s, tb2_s, tx_s, tx_n, lf1_s, lf1_n, i10, i00, i1n, ↓reduceIte, mf_T_pairOf, mf_A_placeOf, x1, t, e]) (by simp only [mf_R_link, b0, nd_pair2 b1 b2, tb1_s, tb2_s, tx_s, tx_n, lf1_s, lf1_n, i10, i00, i1n, ↓reduceIte, x2, t, e, er]) rfl ⟨h.1, Rf_F0 h.2⟩
theorem okp_size : ok_size Rel := by
  intro σ τ f p0 p1 p2 h
  have hN := Bg_N h.1
  have hZ := Bg_Z h.1
  have hS := Bg_S h.1
  rcases nd_zone h p0 with ⟨a0, b0⟩ | ⟨k0, hk0, hp0, a0, c0, b0⟩
  · exact op_fail (f := f) h (by simp only [lf_size, mx_T_size, a0, tb1_s, tb2_s, tx_s, tx_n, lf1_s, lf1_n, i10, i00, i1n, ↓reduceIte]) (by simp only [mf_R_size, b0, tb1_s, tb2_s, tx_s, tx_n, lf1_s, lf1_n, i10, i00, i1n, ↓reduceIte])
  rcases nd_in p1 0 1 σ τ with ⟨a1, b1⟩ | ⟨l1, u1, a1, c1, b1⟩
  · exact op_fail (f := f) h (by simp only [lf_size, mx_T_size, a0, c0, a1, tb1_s, tb2_s, tx_s, tx_n, lf1_s, lf1_n, i10, i00, i1n, ↓reduceIte]) (by simp only [mf_R_size, b0, b1, tb1_s, tb2_s, tx_s, tx_n, lf1_s, lf1_n, i10, i00, i1n, ↓reduceIte])
  rcases nd_in p2 0 100000 σ τ with ⟨a2, b2⟩ | ⟨l2, u2, a2, c2, b2⟩
  · exact op_fail (f := f) h (by simp only [lf_size, mx_T_size, a0, c0, a1, c1, a2, tb1_s, tb2_s, tx_s, tx_n, lf1_s, lf1_n, i10, i00, i1n, ↓reduceIte]) (by simp only [mf_R_size, b0, b1, b2, tb1_s, tb2_s, tx_s, tx_n, lf1_s, lf1_n, i10, i00, i1n, ↓reduceIte])
  have t0 : ∀ {α : Type} (o : Option α), tg p0 6 o = o := fun o => tg_x hp0 (by omega) (by decide)
  have e0 : p0.toNatClampNeg = k0 := by rw [hp0]; exact nI_clamp (by omega)
  obtain ⟨j, hj, hq⟩ := nd_nat (n := 100000) rfl l2 u2
  have er1 : τ.2.1 1 k0 = σ.2.1 1 k0 := Rf_r h.2 1 (k := k0) (show k0 < 6 by omega)
  have er2 : τ.2.1 2 k0 = σ.2.1 2 k0 := Rf_r h.2 2 (k := k0) (show k0 < 6 by omega)
  by_cases hw : p1 = 0
  · refine op_win (f := f) (v := σ.2.1 1 k0) (σ' := tI σ 1 k0 p2) (τ' := tI (tF τ 0 0) 1 k0 p2) (by simp only [lf_size, mx_T_size, mf_T_size, a0, c0, a1, c1, a2, c2, tb1_s, tb2_s, tx_s, tx_n, lf1_s, lf1_n, i10, i00, i1n, ↓reduceIte, t0, e0, if_pos hw]) (by simp only [mf_R_size, b0, b1, b2, tb1_s, tb2_s, tx_s, tx_n, lf1_s, lf1_n, i10, i00, i1n, ↓reduceIte, t0, e0, er1, if_pos hw]) rfl ?_
    rw [hq]
    exact Rel_I (a := 1) h (by decide) hj
  · refine op_win (f := f) (v := σ.2.1 2 k0) (σ' := tI σ 2 k0 p2) (τ' := tI (tF τ 0 0) 2 k0 p2) (by simp only [lf_size, mx_T_size, mf_T_size, a0, c0, a1, c1, a2, c2, tb1_s, tb2_s, tx_s, tx_n, lf1_s, lf1_n, i10, i00, i1n, ↓reduceIte, t0, e0, if_neg hw]) (by simp only [mf_R_size, b0, b1, b2, tb1_s, tb2_s, tx_s, tx_n, lf1_s, lf1_n, i10, i00, i1n, ↓reduceIte, t0, e0, er2, if_neg hw]) rfl ?_
    rw [hq]
    exact Rel_I (a := 2) h (by decide) hj
theorem okp_count : ok_count Rel := by
  intro σ τ f p0 p1 h
  have hN := Bg_N h.1
  have hZ := Bg_Z h.1
  have hS := Bg_S h.1
  rcases nd_street h p0 with ⟨a0, b0⟩ | ⟨k0, hk0, hp0, a0, c0, b0⟩
  · exact op_fail (f := f) h (by simp only [lf_count, mx_T_count, a0, tb1_s, tb2_s, tx_s, tx_n, lf1_s, lf1_n, i10, i00, i1n, ↓reduceIte]) (by simp only [mf_R_count, b0, tb1_s, tb2_s, tx_s, tx_n, lf1_s, lf1_n, i10, i00, i1n, ↓reduceIte])
  rcases nd_in p1 (-1) 1000000 σ τ with ⟨a1, b1⟩ | ⟨l1, u1, a1, c1, b1⟩
  · exact op_fail (f := f) h (by simp only [lf_count, mx_T_count, a0, c0, a1, tb1_s, tb2_s, tx_s, tx_n, lf1_s, lf1_n, i10, i00, i1n, ↓reduceIte]) (by simp only [mf_R_count, b0, b1, tb1_s, tb2_s, tx_s, tx_n, lf1_s, lf1_n, i10, i00, i1n, ↓reduceIte])
  have t0 : ∀ {α : Type} (o : Option α), tg p0 40 o = o := fun o => tg_x hp0 (by omega) (by decide)
  have e0 : p0.toNatClampNeg = k0 := by rw [hp0]; exact nI_clamp (by omega)
  have er : τ.2.1 10 k0 = σ.2.1 14 k0 := h.2.2.2.2.1 k0 hk0
  refine op_win (f := f) (v := σ.2.1 14 k0) (σ' := tI σ 14 k0 p1) (τ' := tI (tF τ 0 0) 10 k0 p1) (by simp only [lf_count, mx_T_count, mf_T_count, a0, c0, a1, c1, tb1_s, tb2_s, tx_s, tx_n, lf1_s, lf1_n, i10, i00, i1n, ↓reduceIte, t0, e0]) (by simp only [mf_R_count, b0, b1, tb1_s, tb2_s, tx_s, tx_n, lf1_s, lf1_n, i10, i00, i1n, ↓reduceIte, t0, e0, er]) rfl ⟨?_, ?_⟩
  · obtain ⟨b1, b2, b3, b4, b5, b6⟩ := h.1
    refine ⟨⟨b1.1, b1.2.1, b1.2.2.1, b1.2.2.2.1, fun b j hj => ?_⟩, Bf_I b2 (by decide), ⟨fun j hj => ?_, fun j g1 g2 => ?_⟩, Br_I b4 (by decide), Bp_I b5 (by decide), Bz_I b6 (by decide)⟩
    · have hb : b ≠ 14 := fun e => by rw [e] at hj; exact absurd hj (by simp [bs])
      rw [tI_ne hb, qn_ne hb]; exact b1.2.2.2.2 b j hj
    · rw [tI_at, qn_at]
      split
      · by_cases hm : p1 < 0
        · left
          rw [Int32.lt_iff_toInt_lt] at l1 hm
          refine Int32.toInt_inj.mp ?_
          have v1 : (-1 : Int32).toInt = -1 := rfl
          have v2 : (0 : Int32).toInt = 0 := rfl
          omega
        · right
          obtain ⟨m, hm, hq⟩ := nd_nat (n := 1000000) rfl hm u1
          rw [hq, nI_clamp (by omega)]
          exact ⟨rfl, hm⟩
      · exact b3.1 j hj
    · rw [tI_at, if_neg (fun e => by have : qS (tI σ 14 k0 p1) = qS σ := rfl; omega)]; exact b3.2 j g1 g2
  · obtain ⟨r1, r2, r3, r4, r5, r6⟩ := h.2
    refine ⟨r1, fun b j hj => ?_, fun j hj => ?_, fun j hj => ?_, fun j hj => ?_, fun j hj => ?_⟩
    · have hb : b ≠ 14 := fun e => by rw [e] at hj; exact absurd hj (by simp [rs])
      rw [tI_ne hb, tI_ne (rm_ne b).2.2.2.2.1]; exact r2 b j hj
    · rw [tI_ne (by decide), tI_ne (by decide)]; exact r3 j hj
    · rw [tI_at, tI_at]; split
      · rfl
      · exact r4 j hj
    · rw [tI_ne (by decide), tI_ne (by decide)]; exact r5 j hj
    · rw [tI_ne (by decide)]; exact r6 j hj
theorem vp_nar_b1 : vp_nar .boolean 1 = 1 := rfl
theorem vp_nar_b0 : vp_nar .boolean 0 = 0 := rfl
theorem op_failo {σ τ : tS} {f : Nat → Int64} {L : Option (Int32 × tS × (Nat → Int64))} {R : Option (Int32 × tS)} (h : Rel σ τ) (e1 : L = some (1, σ, f)) (e2 : R = some (0, tF τ 0 1)) : ∃ (res : Int32 × tS × (Nat → Int64)) (bb : Int32) (τ' : tS), L = some res ∧ R = some (bb, τ') ∧ mf_R_thrown τ' = some (res.1, τ') ∧ (res.1 = 0 → res.2.2 0 = (if bb = 0 then 0 else 1)) ∧ Rel res.2.1 τ' :=
  ⟨(1, σ, f), 0, tF τ 0 1, e1, e2, rfl, fun (q : (1 : Int32) = 0) => absurd q (by decide), h.1, Rf_F0 h.2⟩
theorem okp_open : ok_open Rel := by
  intro σ τ f p0 p1 h01 h
  have hN := Bg_N h.1
  have hZ := Bg_Z h.1
  have hS := Bg_S h.1
  rcases nd_street h p0 with ⟨a0, b0⟩ | ⟨k0, hk0, hp0, a0, c0, b0⟩
  · exact op_failo (f := f) h (by simp only [lf_open, mx_T_open, a0, tb1_s, tb2_s, tx_s, tx_n, lf1_s, lf1_n, i10, i00, i1n, ↓reduceIte]) (by simp only [mf_R_open, b0, tb_0, tb1_s, tb2_s, tx_s, tx_n, lf1_s, lf1_n, i10, i00, i1n, ↓reduceIte])
  have t0 : ∀ {α : Type} (o : Option α), tg p0 40 o = o := fun o => tg_x hp0 (by omega) (by decide)
  have e0 : p0.toNatClampNeg = k0 := by rw [hp0]; exact nI_clamp (by omega)
  have r5 := h.2.2.2.2.2.1 k0 (by omega)
  have q13 := Bg_q h.1 13 (k := k0) (show k0 < 40 by omega)
  have b13 : qn σ 13 k0 ≤ 1 := Bg_b h.1 13 (k := k0) (show k0 < 40 by omega)
  have vn : vp_nar .boolean p1 = p1 := by rcases h01 with e | e <;> (rw [e]; rfl)
  have hv : σ.2.1 13 k0 = 0 ∨ σ.2.1 13 k0 = 1 := by rcases Nat.le_one_iff_eq_zero_or_eq_one.mp b13 with e | e <;> (rw [e] at q13; first | exact Or.inl q13 | exact Or.inr q13)
  have hRel : ∀ w : Int32, w = (if p1 = 0 then 1 else 0) → Rel (tI σ 13 k0 p1) (tI (tF τ 0 0) 9 k0 w) := by
    intro w hw
    have hj : ∃ j, j ≤ 1 ∧ p1 = nI j := h01.elim (fun e => ⟨0, by decide, e⟩) (fun e => ⟨1, by decide, e⟩)
    obtain ⟨j, hj, hq⟩ := hj
    refine ⟨by rw [hq]; exact Bnd_I h.1 (by decide) hj, ?_⟩
    obtain ⟨r1, r2, r3, r4, r5, r6⟩ := h.2
    refine ⟨r1, fun b j hj => ?_, fun j hj => ?_, fun j hj => ?_, fun j hj => ?_, fun j hj => ?_⟩
    · have hb : b ≠ 13 := fun e => by rw [e] at hj; exact absurd hj (by simp [rs])
      rw [tI_ne hb, tI_ne (rm_ne b).2.2.2.2.2]; exact r2 b j hj
    · rw [tI_ne (by decide), tI_ne (by decide)]; exact r3 j hj
    · rw [tI_ne (by decide), tI_ne (by decide)]; exact r4 j hj
    · rw [tI_at, tI_at]; split
      · have hs : ¬ qS (tI σ 13 k0 p1) ≤ j := by have : qS (tI σ 13 k0 p1) = qS σ := rfl; omega
        rw [hw]
        by_cases h0 : p1 = 0
        · rw [if_pos h0, if_neg (fun g => g.elim hs (fun g => g h0))]
        · rw [if_neg h0, if_pos (Or.inr h0)]
      · exact r5 j hj
    · rw [tI_ne (by decide)]; exact r6 j hj
  have hs : ¬ qS σ ≤ k0 := by omega
  rcases hv with e | e
  · have r9 : τ.2.1 9 k0 = 1 := by rw [r5, e]; simp [hs]
    by_cases h0 : p1 = 0
    · exact ⟨(0, tI σ 13 k0 p1, vp_updL f 0 0), 0, tI (tF τ 0 0) 9 k0 1, by simp only [lf_open, mx_T_open, mf_T_open, a0, c0, tb1_s, tb2_s, tx_s, tx_n, lf1_s, lf1_n, i10, i00, i1n, ↓reduceIte, t0, e0, e, tb_0, vn], by simp only [mf_R_open, b0, tb1_s, tb2_s, tx_s, tx_n, lf1_s, lf1_n, i10, i00, i1n, ↓reduceIte, t0, e0, r9, h0, tb_0, tb_1, vp_nar_b1, vp_nar_b0], rfl, fun _ => rfl, hRel 1 (by rw [if_pos h0])⟩
    · exact ⟨(0, tI σ 13 k0 p1, vp_updL f 0 0), 0, tI (tF τ 0 0) 9 k0 0, by simp only [lf_open, mx_T_open, mf_T_open, a0, c0, tb1_s, tb2_s, tx_s, tx_n, lf1_s, lf1_n, i10, i00, i1n, ↓reduceIte, t0, e0, e, tb_0, vn], by simp only [mf_R_open, b0, tb1_s, tb2_s, tx_s, tx_n, lf1_s, lf1_n, i10, i00, i1n, ↓reduceIte, t0, e0, r9, h0, tb_0, tb_1, vp_nar_b1, vp_nar_b0], rfl, fun _ => rfl, hRel 0 (by rw [if_neg h0])⟩
  · have r9 : τ.2.1 9 k0 = 0 := by rw [r5, e]; simp [hs]
    by_cases h0 : p1 = 0
    · exact ⟨(0, tI σ 13 k0 p1, vp_updL f 0 1), 1, tI (tF τ 0 0) 9 k0 1, by simp only [lf_open, mx_T_open, mf_T_open, a0, c0, tb1_s, tb2_s, tx_s, tx_n, lf1_s, lf1_n, i10, i00, i1n, ↓reduceIte, t0, e0, e, tb_1, vn], by simp only [mf_R_open, b0, tb1_s, tb2_s, tx_s, tx_n, lf1_s, lf1_n, i10, i00, i1n, ↓reduceIte, t0, e0, r9, h0, tb_0, tb_1, vp_nar_b1, vp_nar_b0], rfl, fun _ => rfl, hRel 1 (by rw [if_pos h0])⟩
    · exact ⟨(0, tI σ 13 k0 p1, vp_updL f 0 1), 1, tI (tF τ 0 0) 9 k0 0, by simp only [lf_open, mx_T_open, mf_T_open, a0, c0, tb1_s, tb2_s, tx_s, tx_n, lf1_s, lf1_n, i10, i00, i1n, ↓reduceIte, t0, e0, e, tb_1, vn], by simp only [mf_R_open, b0, tb1_s, tb2_s, tx_s, tx_n, lf1_s, lf1_n, i10, i00, i1n, ↓reduceIte, t0, e0, r9, h0, tb_0, tb_1, vp_nar_b1, vp_nar_b0], rfl, fun _ => rfl, hRel 0 (by rw [if_neg h0])⟩
