/-! MODES AND SUMS -/
def mo (A : tS) (pair : Nat) (m : Nat) : Nat := qn A 6 (36 * m + pair)
theorem nI_36 {a b : Nat} : nI a * 36 + nI b = nI (36 * a + b) ∧ 36 * nI a + nI b = nI (36 * a + b) := nI_ix (c := 36) rfl rfl
theorem nI_6 {a b : Nat} : nI a * 6 + nI b = nI (6 * a + b) ∧ 6 * nI a + nI b = nI (6 * a + b) := nI_ix (c := 6) rfl rfl
theorem by_loop {A : tS} (hB : Bnd A) {pair mode n : Nat} (hp : pair < 36) (hmo : mode < 3) (hn : n ≤ 1000000) : ∀ (k f i : Nat) (σ : tS), i + k = 3 → k < f → cC σ A → (∀ m, m < i → σ.2.2 3 m = lN (mo A pair m)) → ∃ σ', ml_M_tripsBy_3 f (nI mode) (nI pair) (nI n) (nI i) σ = some (nI (sh n (mo A pair) 3 mode), σ') ∧ cC σ' A ∧ ∀ a, a ≠ 22 → σ'.2.1 a = σ.2.1 a := by
  intro k
  induction k with
  | zero =>
    intro f i σ h1 h2 hc hs
    obtain ⟨f, rfl⟩ : ∃ q, f = q + 1 := ⟨f - 1, by omega⟩
    have e : i = 3 := by omega
    subst e
    obtain ⟨σ', r1, r2, r3, r4⟩ := shareH8 (m := 3) (n := n) (by decide) (by decide) hn (num := mo A pair) (fun k hk => Nat.le_trans (Bg_b hB 6 (k := 36 * k + pair) (show 36 * k + pair < 108 by omega)) (show (1000 : Nat) ≤ 1000000000 by decide)) hs
    show ∃ σ', ms_M_tripsBy_3 (ml_M_tripsBy_3 f) (nI mode) (nI pair) (nI n) (nI 3) σ = _ ∧ _
    unfold ms_M_tripsBy_3
    have r1' : mf_H8_shareOut (nI n) 3 σ = some σ' := r1
    rw [if_pos (by decide), r1', tb1_s, tg_n hmo (by decide), nI_clamp (by omega), r4 mode hmo]
    exact ⟨σ', rfl, cC_t ⟨r2, fun a _ _ _ _ h5 => r3 a h5⟩ hc, r3⟩
  | succ k ih =>
    intro f i σ h1 h2 hc hs
    obtain ⟨f, rfl⟩ : ∃ q, f = q + 1 := ⟨f - 1, by omega⟩
    have b6 : qn A 6 (36 * i + pair) ≤ 1000 := Bg_b hB 6 (k := 36 * i + pair) (show 36 * i + pair < 108 by omega)
    show ∃ σ', ms_M_tripsBy_3 (ml_M_tripsBy_3 f) (nI mode) (nI pair) (nI n) (nI i) σ = _ ∧ _
    unfold ms_M_tripsBy_3 mf_M_placeOf
    rw [if_neg (show ¬ (3 : Int32) ≤ nI i from nI_ge (b := 3) (by omega) (by decide)), tb2_s, nI_36.1, tg_n (by omega) (by decide), tg_n (by omega) (by decide), nI_clamp (by omega), nI_clamp (by omega), hc.2 6 (by decide) (by decide) (by decide) (by decide) (by decide), Bg_q hB 6 (k := 36 * i + pair) (show 36 * i + pair < 108 by omega), nI_l (by omega), nI_1]
    exact ih f (i + 1) (tJ σ 3 i (lN (qn A 6 (36 * i + pair)))) (by omega) (by omega) hc (fun m hm => by
      rw [tJ_at]; split
      · rename_i e; rw [e]; rfl
      · exact hs m (by omega))
theorem tripsBy_ok {A : tS} (hB : Bnd A) {pair mode n : Nat} (hp : pair < 36) (hmo : mode < 3) (hn : n ≤ 1000000) {σ : tS} (hc : cC σ A) : ∃ σ', mf_M_tripsBy (nI mode) (nI pair) (nI n) σ = some (nI (sh n (mo A pair) 3 mode), σ') ∧ cC σ' A ∧ ∀ a, a ≠ 22 → σ'.2.1 a = σ.2.1 a :=
  by_loop hB hp hmo hn 3 4096 0 σ (by decide) (by decide) hc (fun m hm => by omega)
theorem byR_loop {A : tS} (hB : Bnd A) {pair mode : Nat} (hp : pair < 36) (hmo : mode < 3) : ∀ (k f i : Nat) (τ : tS), i + k = 3 → k < f → Rf τ A → (∀ m, m < i → τ.2.2 1 m = lN (mo A pair m)) → ∃ τ', ml_R_byMode_2 f (nI mode) (nI pair) (nI i) τ = some (nI (sh (qn A 4 pair) (mo A pair) 3 mode), τ') ∧ Rf τ' A ∧ τ'.1 = τ.1 ∧ (∀ a, a ≠ 17 → τ'.2.1 a = τ.2.1 a) ∧ ∀ a, a ≠ 1 → a ≠ 2 → τ'.2.2 a = τ.2.2 a := by
  have h4 : pair < bs 4 := hp
  have b4 : qn A 4 pair ≤ 1000000 := Bg_b hB 4 h4
  intro k
  induction k with
  | zero =>
    intro f i τ h1 h2 hc hs
    obtain ⟨f, rfl⟩ : ∃ q, f = q + 1 := ⟨f - 1, by omega⟩
    have e : i = 3 := by omega
    subst e
    have e4 : τ.2.1 12 pair = nI (qn A 4 pair) := (Rf_r hc 4 (k := pair) hp).trans (Bg_q hB 4 h4)
    obtain ⟨τ', r1, r2, r3, r3', r4⟩ := shareR (m := 3) (n := qn A 4 pair) (by decide) (by decide) b4 (num := mo A pair) (fun k hk => Nat.le_trans (Bg_b hB 6 (k := 36 * k + pair) (show 36 * k + pair < 108 by omega)) (show (1000 : Nat) ≤ 1000000000 by decide)) hs
    show ∃ τ', ms_R_byMode_2 (ml_R_byMode_2 f) (nI mode) (nI pair) (nI 3) τ = _ ∧ _
    unfold ms_R_byMode_2
    have r1' : mf_R_share (lN (qn A 4 pair)) 3 τ = some τ' := r1
    rw [if_pos (by decide), tg_n hp (by decide), nI_clamp (by omega), e4, nI_l (by omega), r1', tb1_s, tg_n (by omega) (by decide), nI_clamp (by omega), r4 mode hmo]
    exact ⟨τ', rfl, Rf_o hc (fun i _ _ => by rw [r2]) (fun a h _ _ => r3 a h) (r3' 0 (by decide)), r2, r3, fun a _ h => r3' a h⟩
  | succ k ih =>
    intro f i τ h1 h2 hc hs
    obtain ⟨f, rfl⟩ : ∃ q, f = q + 1 := ⟨f - 1, by omega⟩
    have hk6 : 36 * i + pair < 108 := by omega
    have b6 : qn A 6 (36 * i + pair) ≤ 1000 := Bg_b hB 6 (k := 36 * i + pair) hk6
    have e6 : τ.2.1 13 (36 * i + pair) = nI (qn A 6 (36 * i + pair)) := (Rf_r hc 6 (k := 36 * i + pair) hk6).trans (Bg_q hB 6 (k := 36 * i + pair) hk6)
    show ∃ τ', ms_R_byMode_2 (ml_R_byMode_2 f) (nI mode) (nI pair) (nI i) τ = _ ∧ _
    unfold ms_R_byMode_2
    rw [if_neg (show ¬ (3 : Int32) ≤ nI i from nI_ge (b := 3) (by omega) (by decide)), nI_36.2, tg_n (by omega) (by decide), tg_n (by omega) (by decide), nI_clamp (by omega), nI_clamp (by omega), e6, nI_l (by omega), nI_1]
    obtain ⟨τ', r1, r2, r3, r4, r5⟩ := ih f (i + 1) (tJ τ 1 i (lN (qn A 6 (36 * i + pair)))) (by omega) (by omega) (Rf_Js (by decide) hc) (fun m hm => by
      rw [tJ_at]; split
      · rename_i e; rw [e]; rfl
      · exact hs m (by omega))
    exact ⟨τ', r1, r2, r3, r4, fun a h1 h2 => by rw [r5 a h1 h2]; exact tJ_ne h1⟩
theorem byMode_ok {A : tS} (hB : Bnd A) {pair mode : Nat} (hp : pair < 36) (hmo : mode < 3) {τ : tS} (hc : Rf τ A) : ∃ τ', mf_R_byMode (nI mode) (nI pair) τ = some (nI (sh (qn A 4 pair) (mo A pair) 3 mode), τ') ∧ Rf τ' A ∧ τ'.1 = τ.1 ∧ (∀ a, a ≠ 17 → τ'.2.1 a = τ.2.1 a) ∧ ∀ a, a ≠ 1 → a ≠ 2 → τ'.2.2 a = τ.2.2 a :=
  byR_loop hB hp hmo 3 4096 0 τ (by decide) (by decide) hc (fun m hm => by omega)
theorem okp_chosen : ok_chosen Rel := by
  intro σ τ f p0 p1 p2 h
  obtain ⟨eZ, hZ⟩ := Bg_Z h.1
  rcases nd_in p0 0 2 σ τ with ⟨a0, b0⟩ | ⟨l0, u0, a0, c0, b0⟩
  · exact op_fail (f := f) h (by simp only [lf_chosen, mx_T_chosen, a0, tx_s, lf1_s]) (by simp only [mf_R_chosen, b0, tb2_s, ↓reduceIte, i10])
  rcases nd_zone h p1 with ⟨a1, b1⟩ | ⟨i, hi, hp1, a1, c1, b1⟩
  · exact op_fail (f := f) h (by simp only [lf_chosen, mx_T_chosen, a0, c0, a1, tb1_s, tx_n, tx_s, lf1_s]) (by simp only [mf_R_chosen, b0, nd_pair0 (q := p2) b1, tb2_s, ↓reduceIte, i10, i1n])
  rcases nd_zone h p2 with ⟨a2, b2⟩ | ⟨j, hj, hp2, a2, c2, b2⟩
  · exact op_fail (f := f) h (by simp only [lf_chosen, mx_T_chosen, a0, c0, a1, c1, a2, tb1_s, tx_n, tx_s, lf1_s]) (by simp only [mf_R_chosen, b0, nd_pair1 b1 b2, tb2_s, ↓reduceIte, i10, i1n])
  obtain ⟨m, hm, hp0⟩ := nd_nat (n := 2) rfl l0 u0
  subst hp0 hp1 hp2
  have h36 : 6 * i + j < 36 := by omega
  have b4 : qn σ 4 (6 * i + j) ≤ 1000000 := Bg_b h.1 4 (k := 6 * i + j) h36
  obtain ⟨σ', q1, q2, q3⟩ := tripsBy_ok h.1 (pair := 6 * i + j) (mode := m) h36 (by omega) b4 (cC_r σ)
  obtain ⟨τ', r1, r2, r3, r4, r5⟩ := byMode_ok h.1 (pair := 6 * i + j) (mode := m) h36 (by omega) (Rf_F0 (v := 0) h.2)
  have C1 : (nI (6 * i + j)).toNatClampNeg = 6 * i + j := nI_clamp (by omega)
  have T1 : ∀ {α : Type} (o : Option α), tg (nI (6 * i + j)) 36 o = o := fun o => tg_n h36 (by decide)
  exact op_win (f := f) (v := nI (sh (qn σ 4 (6 * i + j)) (mo σ (6 * i + j)) 3 m)) (σ' := σ') (τ' := τ') (by simp only [lf_chosen, mx_T_chosen, mf_T_chosen, mf_T_pairOf, a0, c0, a1, c1, a2, c2, tb1_s, tb2_s, tx_n, lf1_n, nI_6.1, T1, C1, Bg_q h.1 4 (k := 6 * i + j) h36, q1]) (by simp only [mf_R_chosen, b0, nd_pair2 b1 b2, tb2_s, ↓reduceIte, i00, i1n, nI_6.2, r1]) (by rw [r3]; rfl) ⟨Bnd_c q2 h.1, Rf_c q2 r2⟩
/-! sums of the table -/
def cs (A : tS) (j : Nat) : Nat := sm 6 (fun i => qn A 4 (6 * i + j))
def cf (A : tS) (i : Nat) : Nat := sm 6 (fun j => qn A 4 (6 * i + j))
theorem sm_z {f : Nat → Nat} {n : Nat} : ∀ d, (∀ k, n ≤ k → k < n + d → f k = 0) → sm (n + d) f = sm n f := by
  intro d
  induction d with
  | zero => intro _; rfl
  | succ d ih =>
    intro h
    show sm (n + d) f + f (n + d) = _
    rw [ih (fun k h1 h2 => h k h1 (by omega)), h (n + d) (by omega) (by omega)]; omega
theorem q4_0 {A : tS} (hB : Bnd A) {i j : Nat} (hi : i < 6) (hj : j < 6) (h : qZ A ≤ i ∨ qZ A ≤ j) : qn A 4 (6 * i + j) = 0 := by
  unfold qn; rw [hB.2.2.2.2.2 i j hi hj h]; rfl
theorem cs_Z {A : tS} (hB : Bnd A) {j : Nat} (hj : j < 6) : cs A j = sm (qZ A) (fun i => qn A 4 (6 * i + j)) := by
  have hZ := (Bg_Z hB).2
  have := sm_z (f := fun i => qn A 4 (6 * i + j)) (n := qZ A) (6 - qZ A) (fun k h1 h2 => q4_0 hB (by omega) hj (Or.inl h1))
  rw [Nat.add_sub_cancel' hZ] at this
  exact this
theorem cf_Z {A : tS} (hB : Bnd A) {i : Nat} (hi : i < 6) : cf A i = sm (qZ A) (fun j => qn A 4 (6 * i + j)) := by
  have hZ := (Bg_Z hB).2
  have := sm_z (f := fun j => qn A 4 (6 * i + j)) (n := qZ A) (6 - qZ A) (fun k h1 h2 => q4_0 hB hi (by omega) (Or.inr h1))
  rw [Nat.add_sub_cancel' hZ] at this
  exact this
theorem cs_le {A : tS} (hB : Bnd A) {j : Nat} (hj : j < 6) : cs A j ≤ 6000000 := by
  have := sm_bd (f := fun i => qn A 4 (6 * i + j)) (c := 1000000) (m := 6) (fun k hk => Bg_b hB 4 (k := 6 * k + j) (show 6 * k + j < 36 by omega))
  unfold cs; omega
theorem cf_le {A : tS} (hB : Bnd A) {i : Nat} (hi : i < 6) : cf A i ≤ 6000000 := by
  have := sm_bd (f := fun j => qn A 4 (6 * i + j)) (c := 1000000) (m := 6) (fun k hk => Bg_b hB 4 (k := 6 * i + k) (show 6 * i + k < 36 by omega))
  unfold cf; omega
theorem sumTo_l {A : tS} (hB : Bnd A) {j : Nat} (hj : j < 6) : ∀ (k f i : Nat), i + k = 6 → k < f → ml_B_sumTo_4 f (nI j) (nI (sm i (fun i => qn A 4 (6 * i + j)))) (nI i) A = some (nI (cs A j), A) := by
  intro k
  induction k with
  | zero =>
    intro f i h1 h2
    obtain ⟨f, rfl⟩ : ∃ q, f = q + 1 := ⟨f - 1, by omega⟩
    have e : i = 6 := by omega
    subst e
    show ms_B_sumTo_4 (ml_B_sumTo_4 f) (nI j) _ (nI 6) A = _
    unfold ms_B_sumTo_4
    rw [if_pos (by decide)]; rfl
  | succ k ih =>
    intro f i h1 h2
    obtain ⟨f, rfl⟩ : ∃ q, f = q + 1 := ⟨f - 1, by omega⟩
    show ms_B_sumTo_4 (ml_B_sumTo_4 f) (nI j) _ (nI i) A = _
    unfold ms_B_sumTo_4 mf_T_pairOf
    rw [if_neg (show ¬ (6 : Int32) ≤ nI i from nI_ge (b := 6) (by omega) (by decide)), tb2_s, nI_6.1, tg_n (by omega) (by decide), nI_clamp (by omega), Bg_q hB 4 (k := 6 * i + j) (show 6 * i + j < 36 by omega), nI_add, nI_1]
    exact ih f (i + 1) (by omega) (by omega)
theorem sumTo_ok {A : tS} (hB : Bnd A) {j : Nat} (hj : j < 6) : mf_B_sumTo (nI j) A = some (nI (cs A j), A) := sumTo_l hB hj 6 4096 0 (by decide) (by decide)
theorem sumFrom_l {A : tS} (hB : Bnd A) {i : Nat} (hi : i < 6) : ∀ (k f j : Nat), j + k = 6 → k < f → ml_B_sumFrom_4 f (nI i) (nI (sm j (fun j => qn A 4 (6 * i + j)))) (nI j) A = some (nI (cf A i), A) := by
  intro k
  induction k with
  | zero =>
    intro f j h1 h2
    obtain ⟨f, rfl⟩ : ∃ q, f = q + 1 := ⟨f - 1, by omega⟩
    have e : j = 6 := by omega
    subst e
    show ms_B_sumFrom_4 (ml_B_sumFrom_4 f) (nI i) _ (nI 6) A = _
    unfold ms_B_sumFrom_4
    rw [if_pos (by decide)]; rfl
  | succ k ih =>
    intro f j h1 h2
    obtain ⟨f, rfl⟩ : ∃ q, f = q + 1 := ⟨f - 1, by omega⟩
    show ms_B_sumFrom_4 (ml_B_sumFrom_4 f) (nI i) _ (nI j) A = _
    unfold ms_B_sumFrom_4 mf_T_pairOf
    rw [if_neg (show ¬ (6 : Int32) ≤ nI j from nI_ge (b := 6) (by omega) (by decide)), tb2_s, nI_6.1, tg_n (by omega) (by decide), nI_clamp (by omega), Bg_q hB 4 (k := 6 * i + j) (show 6 * i + j < 36 by omega), nI_add, nI_1]
    exact ih f (j + 1) (by omega) (by omega)
theorem sumFrom_ok {A : tS} (hB : Bnd A) {i : Nat} (hi : i < 6) : mf_B_sumFrom (nI i) A = some (nI (cf A i), A) := sumFrom_l hB hi 6 4096 0 (by decide) (by decide)
theorem sumToR_l {A τ : tS} (hB : Bnd A) (hR : Rf τ A) {j : Nat} (hj : j < 6) : ∀ (k f i : Nat), i + k = qZ A → k < f → ml_R_sumTo_5 f (nI j) (lN (sm i (fun i => qn A 4 (6 * i + j)))) (nI i) τ = some (lN (cs A j), τ) := by
  obtain ⟨eZ, hZ⟩ := Bg_Z hB
  have eR : τ.1 2 = nI (qZ A) := by rw [hR.1.2.1]; exact eZ
  intro k
  induction k with
  | zero =>
    intro f i h1 h2
    obtain ⟨f, rfl⟩ : ∃ q, f = q + 1 := ⟨f - 1, by omega⟩
    have e : i = qZ A := by omega
    subst e
    show ms_R_sumTo_5 (ml_R_sumTo_5 f) (nI j) _ (nI (qZ A)) τ = _
    unfold ms_R_sumTo_5
    rw [if_pos (by rw [eR]; exact Int32.le_refl _), cs_Z hB hj]
  | succ k ih =>
    intro f i h1 h2
    obtain ⟨f, rfl⟩ : ∃ q, f = q + 1 := ⟨f - 1, by omega⟩
    have h36 : 6 * i + j < 36 := by omega
    have b4 : qn A 4 (6 * i + j) ≤ 1000000 := Bg_b hB 4 (k := 6 * i + j) h36
    have e4 : τ.2.1 12 (6 * i + j) = nI (qn A 4 (6 * i + j)) := (Rf_r hR 4 (k := 6 * i + j) h36).trans (Bg_q hB 4 (k := 6 * i + j) h36)
    show ms_R_sumTo_5 (ml_R_sumTo_5 f) (nI j) _ (nI i) τ = _
    unfold ms_R_sumTo_5
    rw [if_neg (by rw [eR]; exact nI_ge (by omega) (by omega)), nI_6.2, tg_n h36 (by decide), nI_clamp (by omega), e4, nI_l (by omega), lN_add, nI_1]
    exact ih f (i + 1) (by omega) (by omega)
theorem sumToR_ok {A τ : tS} (hB : Bnd A) (hR : Rf τ A) {j : Nat} (hj : j < 6) : mf_R_sumTo (nI j) τ = some (lN (cs A j), τ) := sumToR_l hB hR hj (qZ A) 4096 0 (by omega) (by have := (Bg_Z hB).2; omega)
theorem sumR_l {A τ : tS} (hB : Bnd A) (hR : Rf τ A) {z : Nat} (hz : z < 6) {v2 : Int32} : ∀ (k f i : Nat), i + k = qZ A → k < f → ml_R_sum_40 f (nI z) v2 (nI (sm i (fun i => if v2 = 0 then qn A 4 (6 * z + i) else qn A 4 (6 * i + z)))) (nI i) τ = some (nI (if v2 = 0 then cf A z else cs A z), τ) := by
  obtain ⟨eZ, hZ⟩ := Bg_Z hB
  have eR : τ.1 2 = nI (qZ A) := by rw [hR.1.2.1]; exact eZ
  intro k
  induction k with
  | zero =>
    intro f i h1 h2
    obtain ⟨f, rfl⟩ : ∃ q, f = q + 1 := ⟨f - 1, by omega⟩
    have e : i = qZ A := by omega
    subst e
    show ms_R_sum_40 (ml_R_sum_40 f) (nI z) v2 _ (nI (qZ A)) τ = _
    unfold ms_R_sum_40
    rw [if_pos (by rw [eR]; exact Int32.le_refl _)]
    by_cases h0 : v2 = 0
    · simp only [if_pos h0]; rw [cf_Z hB hz]
    · simp only [if_neg h0]; rw [cs_Z hB hz]
  | succ k ih =>
    intro f i h1 h2
    obtain ⟨f, rfl⟩ : ∃ q, f = q + 1 := ⟨f - 1, by omega⟩
    have h36 : 6 * i + z < 36 := by omega
    have h36' : 6 * z + i < 36 := by omega
    have e4 : τ.2.1 12 (6 * i + z) = nI (qn A 4 (6 * i + z)) := (Rf_r hR 4 (k := 6 * i + z) h36).trans (Bg_q hB 4 (k := 6 * i + z) h36)
    have e4' : τ.2.1 12 (6 * z + i) = nI (qn A 4 (6 * z + i)) := (Rf_r hR 4 (k := 6 * z + i) h36').trans (Bg_q hB 4 (k := 6 * z + i) h36')
    show ms_R_sum_40 (ml_R_sum_40 f) (nI z) v2 _ (nI i) τ = _
    unfold ms_R_sum_40
    rw [if_neg (by rw [eR]; exact nI_ge (by omega) (by omega))]
    have := ih f (i + 1) (by omega) (by omega)
    by_cases h0 : v2 = 0
    · rw [if_pos h0, nI_6.2, tg_n h36' (by decide), nI_clamp (by omega), e4', nI_add, nI_1]
      rw [← this]
      congr 2
      show sm i _ + _ = sm i _ + (if v2 = 0 then qn A 4 (6 * z + i) else qn A 4 (6 * i + z))
      rw [if_pos h0]
    · rw [if_neg h0, nI_6.2, tg_n h36 (by decide), nI_clamp (by omega), e4, nI_add, nI_1]
      rw [← this]
      congr 2
      show sm i _ + _ = sm i _ + (if v2 = 0 then qn A 4 (6 * z + i) else qn A 4 (6 * i + z))
      rw [if_neg h0]
theorem okp_sum : ok_sum Rel := by
  intro σ τ f p0 p1 h
  obtain ⟨eZ, hZ⟩ := Bg_Z h.1
  rcases nd_zone h p0 with ⟨a0, b0⟩ | ⟨z, hz, hp0, a0, c0, b0⟩
  · exact op_fail (f := f) h (by simp only [lf_sum, mx_T_sum, a0, tx_s, lf1_s]) (by simp only [mf_R_sum, b0, tb2_s, ↓reduceIte, i10])
  rcases nd_in p1 0 1 σ τ with ⟨a1, b1⟩ | ⟨l1, u1, a1, c1, b1⟩
  · exact op_fail (f := f) h (by simp only [lf_sum, mx_T_sum, a0, c0, a1, tb1_s, tx_n, tx_s, lf1_s]) (by simp only [mf_R_sum, b0, b1, tb2_s, ↓reduceIte, i10, i1n])
  subst hp0
  have r := sumR_l h.1 (Rf_F0 (v := 0) h.2) (z := z) (by omega) (v2 := p1) (qZ σ) 4096 0 (by omega) (by omega)
  have r' : ml_R_sum_40 4096 (nI z) p1 0 0 (tF τ 0 0) = some (nI (if p1 = 0 then cf σ z else cs σ z), tF τ 0 0) := r
  have q1 := sumFrom_ok h.1 (i := z) (by omega)
  have q2 := sumTo_ok h.1 (j := z) (by omega)
  refine op_win (f := f) (v := nI (if p1 = 0 then cf σ z else cs σ z)) (σ' := σ) (τ' := tF τ 0 0) ?_ (by simp only [mf_R_sum, b0, b1, tb2_s, ↓reduceIte, i00, i1n, r']) rfl ⟨h.1, Rf_F0 h.2⟩
  by_cases h0 : p1 = 0
  · simp only [lf_sum, mx_T_sum, mf_T_sum, a0, c0, a1, c1, tb1_s, tb2_s, tx_n, lf1_n, if_pos h0, q1]
  · simp only [lf_sum, mx_T_sum, mf_T_sum, a0, c0, a1, c1, tb1_s, tb2_s, tx_n, lf1_n, if_neg h0, q2]
