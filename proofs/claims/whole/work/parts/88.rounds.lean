/-! THE ROUNDS -/
def FP (A : tS) : Prop := ∀ j, j < qZ A → A.2.1 5 j = nI (qn A 5 j) ∧ 1 ≤ qn A 5 j ∧ qn A 5 j ≤ 1000000
theorem Rel_4 {σ τ : tS} {i j n : Nat} (h : Rel σ τ) (hi : i < qZ σ) (hj : j < qZ σ) (hn : n ≤ 1000000) : Rel (tI σ 4 (6 * i + j) (nI n)) (tI τ 12 (6 * i + j) (nI n)) := by
  obtain ⟨b1, b2, b3, b4, b5, b6⟩ := h.1
  have hZ := (Bg_Z h.1).2
  refine ⟨⟨Bg_I b1 hn, Bf_I b2 (by decide), Bc_I b3 (by decide), Br_I b4 (by decide), Bp_I b5 (by decide), fun i' j' hi' hj' hz => ?_⟩, Rf_I (a := 4) (by decide) h.2⟩
  replace hz : qZ σ ≤ i' ∨ qZ σ ≤ j' := hz
  rw [tI_at, if_neg (by omega)]
  exact b6 i' j' hi' hj' hz
theorem put_ok {i : Nat} {x : Nat → Nat} : ∀ (k f j : Nat) (σ τ : tS), j + k = qZ σ → k < f → i < qZ σ → Rel σ τ → (∀ k, k < qZ σ → σ.2.1 21 k = nI (x k) ∧ τ.2.1 17 k = nI (x k) ∧ x k ≤ 1000000) → ∃ σ' τ' v v', ml_B_shareAllPeople_73 f (nI i) (nI j) σ = some (nI i, v, σ') ∧ ml_R_oneRound_69 f (nI i) (nI j) τ = some (nI i, v', τ') ∧ Rel σ' τ' ∧ σ'.1 = σ.1 ∧ (∀ a, a ≠ 4 → σ'.2.1 a = σ.2.1 a) ∧ τ'.1 = τ.1 := by
  intro k
  induction k with
  | zero =>
    intro f j σ τ h1 h2 hi h hx
    obtain ⟨f, rfl⟩ : ∃ q, f = q + 1 := ⟨f - 1, by omega⟩
    obtain ⟨eZ, hZ⟩ := Bg_Z h.1
    have eR : τ.1 2 = nI (qZ σ) := by rw [h.2.1.2.1]; exact eZ
    have e : j = qZ σ := by omega
    refine ⟨σ, τ, nI j, nI j, ?_, ?_, h, rfl, fun _ _ => rfl, rfl⟩
    · show ms_B_shareAllPeople_73 (ml_B_shareAllPeople_73 f) (nI i) (nI j) σ = _
      unfold ms_B_shareAllPeople_73
      rw [if_pos (by rw [eZ, e]; exact Int32.le_refl _)]
    · show ms_R_oneRound_69 (ml_R_oneRound_69 f) (nI i) (nI j) τ = _
      unfold ms_R_oneRound_69
      rw [if_pos (by rw [eR, e]; exact Int32.le_refl _)]
  | succ k ih =>
    intro f j σ τ h1 h2 hi h hx
    obtain ⟨f, rfl⟩ : ∃ q, f = q + 1 := ⟨f - 1, by omega⟩
    obtain ⟨eZ, hZ⟩ := Bg_Z h.1
    have eR : τ.1 2 = nI (qZ σ) := by rw [h.2.1.2.1]; exact eZ
    obtain ⟨x1, x2, x3⟩ := hx j (by omega)
    obtain ⟨σ', τ', v, v', r1, r2, r3, r4, r5, r6⟩ := ih f (j + 1) (tI σ 4 (6 * i + j) (nI (x j))) (tI τ 12 (6 * i + j) (nI (x j))) (show j + 1 + k = qZ σ by omega) (by omega) hi (Rel_4 h hi (by omega) x3) (fun k hk => by
      rw [tI_ne (by decide), tI_ne (by decide)]; exact hx k hk)
    refine ⟨σ', τ', v, v', ?_, ?_, r3, r4, fun a ha => by rw [r5 a ha, tI_ne ha], r6⟩
    · show ms_B_shareAllPeople_73 (ml_B_shareAllPeople_73 f) (nI i) (nI j) σ = _
      unfold ms_B_shareAllPeople_73 mf_T_pairOf
      rw [if_neg (by rw [eZ]; exact nI_ge (by omega) (by omega)), tb2_s, nI_6.1, tg_n (by omega) (by decide), tg_n (by omega) (by decide), nI_clamp (by omega), nI_clamp (by omega), x1, nI_1]
      exact r1
    · show ms_R_oneRound_69 (ml_R_oneRound_69 f) (nI i) (nI j) τ = _
      unfold ms_R_oneRound_69
      rw [if_neg (by rw [eR]; exact nI_ge (by omega) (by omega)), nI_6.2, tg_n (by omega) (by decide), tg_n (by omega) (by decide), nI_clamp (by omega), nI_clamp (by omega), x2, nI_1]
      exact r2
theorem num_ok {A : tS} (hB : Bnd A) (hF : FP A) {i : Nat} (hi : i < qZ A) : ∀ (k f j : Nat) (σ : tS), j + k = qZ A → k < f → cC σ A → (∀ k, k < j → σ.2.2 1 k = lN (qn A 3 (6 * i + k) * qn A 5 k)) → ∃ σ' v, ml_B_shareAllPeople_12 f (nI i) (nI j) σ = some (nI i, v, σ') ∧ cC σ' A ∧ ∀ k, k < qZ A → σ'.2.2 1 k = lN (qn A 3 (6 * i + k) * qn A 5 k) := by
  obtain ⟨eZ, hZ⟩ := Bg_Z hB
  intro k
  induction k with
  | zero =>
    intro f j σ h1 h2 hc hx
    obtain ⟨f, rfl⟩ : ∃ q, f = q + 1 := ⟨f - 1, by omega⟩
    have e : j = qZ A := by omega
    refine ⟨σ, nI j, ?_, hc, by rw [← e]; exact hx⟩
    show ms_B_shareAllPeople_12 (ml_B_shareAllPeople_12 f) (nI i) (nI j) σ = _
    unfold ms_B_shareAllPeople_12
    rw [if_pos (by rw [hc.1, eZ, e]; exact Int32.le_refl _)]
  | succ k ih =>
    intro f j σ h1 h2 hc hx
    obtain ⟨f, rfl⟩ : ∃ q, f = q + 1 := ⟨f - 1, by omega⟩
    obtain ⟨f1, f2, f3⟩ := hF j (by omega)
    have h36 : 6 * i + j < 36 := by omega
    have b3 : qn A 3 (6 * i + j) ≤ 1000 := Bg_b hB 3 (k := 6 * i + j) h36
    show ∃ σ' v, ms_B_shareAllPeople_12 (ml_B_shareAllPeople_12 f) (nI i) (nI j) σ = _ ∧ _
    unfold ms_B_shareAllPeople_12 mf_T_pairOf
    rw [if_neg (by rw [hc.1, eZ]; exact nI_ge (by omega) (by omega)), tb2_s, nI_6.1, tg_n h36 (by decide), tg_n (by omega) (by decide), tg_n (by omega) (by decide), nI_clamp (by omega), nI_clamp (by omega), hc.2 3 (by decide) (by decide) (by decide) (by decide) (by decide), hc.2 5 (by decide) (by decide) (by decide) (by decide) (by decide), Bg_q hB 3 (k := 6 * i + j) h36, f1, nI_l (by omega), nI_l (by omega), lN_mul, nI_1]
    exact ih f (j + 1) (tJ σ 1 j (lN (qn A 3 (6 * i + j) * qn A 5 j))) (by omega) (by omega) hc (fun k hk => by
      rw [tJ_at]; split
      · rename_i e; rw [e]
      · exact hx k (by omega))
theorem numR_ok {A : tS} (hB : Bnd A) (hF : FP A) {i : Nat} (hi : i < qZ A) : ∀ (k f j : Nat) (τ : tS), j + k = qZ A → k < f → Rf τ A → (∀ k, k < j → τ.2.2 1 k = lN (qn A 3 (6 * i + k) * qn A 5 k)) → ∃ τ' v, ml_R_oneRound_12 f (nI i) (nI j) τ = some (nI i, v, τ') ∧ Rf τ' A ∧ τ'.1 = τ.1 ∧ ∀ k, k < qZ A → τ'.2.2 1 k = lN (qn A 3 (6 * i + k) * qn A 5 k) := by
  obtain ⟨eZ, hZ⟩ := Bg_Z hB
  intro k
  induction k with
  | zero =>
    intro f j τ h1 h2 hc hx
    obtain ⟨f, rfl⟩ : ∃ q, f = q + 1 := ⟨f - 1, by omega⟩
    have e : j = qZ A := by omega
    refine ⟨τ, nI j, ?_, hc, rfl, by rw [← e]; exact hx⟩
    show ms_R_oneRound_12 (ml_R_oneRound_12 f) (nI i) (nI j) τ = _
    unfold ms_R_oneRound_12
    rw [if_pos (by rw [hc.1.2.1, eZ, e]; exact Int32.le_refl _)]
  | succ k ih =>
    intro f j τ h1 h2 hc hx
    obtain ⟨f, rfl⟩ : ∃ q, f = q + 1 := ⟨f - 1, by omega⟩
    obtain ⟨f1, f2, f3⟩ := hF j (by omega)
    have h36 : 6 * i + j < 36 := by omega
    have b3 : qn A 3 (6 * i + j) ≤ 1000 := Bg_b hB 3 (k := 6 * i + j) h36
    have e3 : τ.2.1 11 (6 * i + j) = nI (qn A 3 (6 * i + j)) := (Rf_r hc 3 (k := 6 * i + j) h36).trans (Bg_q hB 3 (k := 6 * i + j) h36)
    have e5 : τ.2.1 16 j = nI (qn A 5 j) := (Rf_r hc 5 (k := j) (show j < 6 by omega)).trans f1
    show ∃ τ' v, ms_R_oneRound_12 (ml_R_oneRound_12 f) (nI i) (nI j) τ = _ ∧ _
    unfold ms_R_oneRound_12
    rw [if_neg (by rw [hc.1.2.1, eZ]; exact nI_ge (by omega) (by omega)), nI_6.2, tg_n h36 (by decide), tg_n (by omega) (by decide), tg_n (by omega) (by decide), nI_clamp (by omega), nI_clamp (by omega), e3, e5, nI_l (by omega), nI_l (by omega), lN_mul, nI_1]
    obtain ⟨τ', v, r1, r2, r3, r4⟩ := ih f (j + 1) (tJ τ 1 j (lN (qn A 3 (6 * i + j) * qn A 5 j))) (by omega) (by omega) (Rf_Js (by decide) hc) (fun k hk => by
      rw [tJ_at]; split
      · rename_i e; rw [e]
      · exact hx k (by omega))
    exact ⟨τ', v, r1, r2, r3, r4⟩
theorem FP_o {A A' : tS} (h : FP A) (h1 : A'.1 = A.1) (h5 : A'.2.1 5 = A.2.1 5) : FP A' := by
  intro j hj
  have eZ : qZ A' = qZ A := by unfold qZ; rw [h1]
  have eq : qn A' 5 j = qn A 5 j := by unfold qn; rw [h5]
  rw [eZ] at hj
  rw [h5, eq]; exact h j hj
theorem one_ok : ∀ (k f i : Nat) (σ τ : tS), i + k = qZ σ → k < f → Rel σ τ → FP σ → ∃ σ' τ', ml_B_shareAllPeople_2 f (nI i) σ = some σ' ∧ ml_R_oneRound_2 f (nI i) τ = some τ' ∧ Rel σ' τ' ∧ FP σ' ∧ σ'.1 = σ.1 ∧ τ'.1 = τ.1 := by
  intro k
  induction k with
  | zero =>
    intro f i σ τ h1 h2 h hF
    obtain ⟨f, rfl⟩ : ∃ q, f = q + 1 := ⟨f - 1, by omega⟩
    obtain ⟨eZ, hZ⟩ := Bg_Z h.1
    have eR : τ.1 2 = nI (qZ σ) := by rw [h.2.1.2.1]; exact eZ
    have e : i = qZ σ := by omega
    refine ⟨σ, τ, ?_, ?_, h, hF, rfl, rfl⟩
    · show ms_B_shareAllPeople_2 (ml_B_shareAllPeople_2 f) (nI i) σ = _
      unfold ms_B_shareAllPeople_2
      rw [if_pos (by rw [eZ, e]; exact Int32.le_refl _)]
    · show ms_R_oneRound_2 (ml_R_oneRound_2 f) (nI i) τ = _
      unfold ms_R_oneRound_2
      rw [if_pos (by rw [eR, e]; exact Int32.le_refl _)]
  | succ k ih =>
    intro f i σ τ h1 h2 h hF
    obtain ⟨f, rfl⟩ : ∃ q, f = q + 1 := ⟨f - 1, by omega⟩
    obtain ⟨eZ, hZ⟩ := Bg_Z h.1
    have eR : τ.1 2 = nI (qZ σ) := by rw [h.2.1.2.1]; exact eZ
    have hi : i < qZ σ := by omega
    have hi6 : i < 6 := by omega
    have b1 : qn σ 1 i ≤ 100000 := Bg_b h.1 1 (k := i) hi6
    obtain ⟨σ1, v1, q1, q2, q3⟩ := num_ok h.1 hF hi (qZ σ) 4096 0 σ (by omega) (by omega) (cC_r σ) (fun k hk => by omega)
    obtain ⟨τ1, w1, t1, t2, t2', t3⟩ := numR_ok h.1 hF hi (qZ σ) 4096 0 τ (by omega) (by omega) h.2 (fun k hk => by omega)
    have hnum : ∀ k, k < qZ σ → qn σ 3 (6 * i + k) * qn σ 5 k ≤ 1000000000 := fun k hk => by
      have a1 : qn σ 3 (6 * i + k) ≤ 1000 := Bg_b h.1 3 (k := 6 * i + k) (show 6 * i + k < 36 by omega)
      have a2 := (hF k hk).2.2
      have : qn σ 3 (6 * i + k) * qn σ 5 k ≤ 1000 * 1000000 := Nat.mul_le_mul a1 a2
      omega
    obtain ⟨σ2, s1, s2, s3, s4⟩ := shareH7 (m := qZ σ) (n := qn σ 1 i) (by omega) hZ (by omega) (num := fun k => qn σ 3 (6 * i + k) * qn σ 5 k) hnum q3
    obtain ⟨τ2, u1, u2, u3, u3', u4⟩ := shareR (m := qZ σ) (n := qn σ 1 i) (by omega) hZ (by omega) (num := fun k => qn σ 3 (6 * i + k) * qn σ 5 k) hnum t3
    have hc2 : cC σ2 σ := cC_t ⟨s2, fun a _ _ _ h4 _ => s3 a h4⟩ q2
    have hR2 : Rf τ2 σ := Rf_o t2 (fun i _ _ => by rw [u2]) (fun a ha _ _ => u3 a ha) (u3' 0 (by decide))
    have hrel2 : Rel σ2 τ2 := ⟨Bnd_c hc2 h.1, Rf_c hc2 hR2⟩
    have eq2 : qZ σ2 = qZ σ := by unfold qZ; rw [hc2.1]
    obtain ⟨σ3, τ3, v3, v3', p1, p2, p3, p4, p5, p6⟩ := put_ok (i := i) (x := fun k => sh (qn σ 1 i) (fun k => qn σ 3 (6 * i + k) * qn σ 5 k) (qZ σ) k) (qZ σ) 4096 0 σ2 τ2 (by omega) (by omega) (by omega) hrel2 (fun k hk => by
      rw [eq2] at hk
      exact ⟨s4 k hk, u4 k hk, Nat.le_trans (sh_le hk) (by omega)⟩)
    have e1 : σ3.1 = σ.1 := p4.trans hc2.1
    have eq3 : qZ σ3 = qZ σ := by unfold qZ; rw [e1]
    have e5 : σ3.2.1 5 = σ.2.1 5 := by rw [p5 5 (by decide), hc2.2 5 (by decide) (by decide) (by decide) (by decide) (by decide)]
    obtain ⟨σ', τ', r1, r2, r3, r4, r5, r6⟩ := ih f (i + 1) σ3 τ3 (by omega) (by omega) p3 (FP_o hF e1 e5)
    have eP : σ1.2.1 1 i = nI (qn σ 1 i) := by rw [q2.2 1 (by decide) (by decide) (by decide) (by decide) (by decide)]; exact Bg_q h.1 1 (k := i) hi6
    have eP' : τ1.2.1 1 i = nI (qn σ 1 i) := (Rf_r t2 1 (k := i) hi6).trans (Bg_q h.1 1 (k := i) hi6)
    have eZ1 : σ1.1 1 = nI (qZ σ) := by rw [q2.1]; exact eZ
    have eZ1' : τ1.1 2 = nI (qZ σ) := by rw [t2']; exact eR
    have q1' : ml_B_shareAllPeople_12 4096 (nI i) 0 σ = some (nI i, v1, σ1) := q1
    have t1' : ml_R_oneRound_12 4096 (nI i) 0 τ = some (nI i, w1, τ1) := t1
    have p1' : ml_B_shareAllPeople_73 4096 (nI i) 0 σ2 = some (nI i, v3, σ3) := p1
    have p2' : ml_R_oneRound_69 4096 (nI i) 0 τ2 = some (nI i, v3', τ3) := p2
    refine ⟨σ', τ', ?_, ?_, r3, r4, r5.trans e1, by rw [r6, p6, u2, t2']⟩
    · show ms_B_shareAllPeople_2 (ml_B_shareAllPeople_2 f) (nI i) σ = _
      unfold ms_B_shareAllPeople_2
      rw [if_neg (by rw [eZ]; exact nI_ge (by omega) (by omega)), q1', tb1_s]
      simp only []
      rw [tg_n hi6 (by decide), nI_clamp (by omega), eP, eZ1, s1, tb1_s, p1', tb1_s]
      simp only []
      rw [nI_1]; exact r1
    · show ms_R_oneRound_2 (ml_R_oneRound_2 f) (nI i) τ = _
      unfold ms_R_oneRound_2
      rw [if_neg (by rw [eR]; exact nI_ge (by omega) (by omega)), t1', tb1_s]
      simp only []
      rw [tg_n hi6 (by decide), nI_clamp (by omega), eP', eZ1', nI_l (by omega), u1, tb1_s, p2', tb1_s]
      simp only []
      rw [nI_1]; exact r2
theorem round_ok {σ τ : tS} (h : Rel σ τ) (hF : FP σ) : ∃ σ' τ', mf_B_shareAllPeople σ = some σ' ∧ mf_R_oneRound τ = some τ' ∧ Rel σ' τ' ∧ FP σ' ∧ σ'.1 = σ.1 ∧ τ'.1 = τ.1 :=
  one_ok (qZ σ) 4096 0 σ τ (by omega) (by have := (Bg_Z h.1).2; omega) h hF
/-! whether the jobs are met -/
def mt1 (A : tS) (b j : Nat) : Bool := decide (cs A j ≤ qn A 2 j + b) && decide (qn A 2 j ≤ cs A j + b)
def mt (A : tS) (b : Nat) : Nat → Bool
  | 0 => true
  | j + 1 => mt A b j && mt1 A b j
theorem mt_no {A : tS} {b j : Nat} (h : mt1 A b j = false) : ∀ d, mt A b (j + 1 + d) = false := by
  intro d
  induction d with
  | zero => show (mt A b j && mt1 A b j) = false; rw [h, Bool.and_false]
  | succ d ih => show (mt A b (j + 1 + d) && _) = false; rw [ih, Bool.false_and]
theorem mt1_iff {A : tS} {b j : Nat} : mt1 A b j = true ↔ cs A j ≤ qn A 2 j + b ∧ qn A 2 j ≤ cs A j + b := by
  unfold mt1; simp only [Bool.and_eq_true, decide_eq_true_eq]
theorem met_l {A : tS} (hB : Bnd A) {b : Nat} (hb : b ≤ 100000) : ∀ (k f j : Nat), j + k = qZ A → k < f → mt A b j = true → ml_B_isMet_2 f (nI b) (nI j) A = some (bI (mt A b (qZ A)), A) := by
  obtain ⟨eZ, hZ⟩ := Bg_Z hB
  intro k
  induction k with
  | zero =>
    intro f j h1 h2 hm
    obtain ⟨f, rfl⟩ : ∃ q, f = q + 1 := ⟨f - 1, by omega⟩
    have e : j = qZ A := by omega
    show ms_B_isMet_2 (ml_B_isMet_2 f) (nI b) (nI j) A = _
    unfold ms_B_isMet_2
    rw [if_pos (by rw [eZ, e]; exact Int32.le_refl _), tb_1, ← e, hm]; rfl
  | succ k ih =>
    intro f j h1 h2 hm
    obtain ⟨f, rfl⟩ : ∃ q, f = q + 1 := ⟨f - 1, by omega⟩
    have hj6 : j < 6 := by omega
    have hc := cs_le hB hj6
    have b2 : qn A 2 j ≤ 100000 := Bg_b hB 2 (k := j) hj6
    show ms_B_isMet_2 (ml_B_isMet_2 f) (nI b) (nI j) A = _
    unfold ms_B_isMet_2
    rw [if_neg (by rw [eZ]; exact nI_ge (by omega) (by omega)), sumTo_ok hB hj6, tb2_s, tg_n hj6 (by decide), nI_clamp (by omega), Bg_q hB 2 (k := j) hj6, nI_1]
    have key : ((if 0 ≤ nI (cs A j) - nI (qn A 2 j) then nI (cs A j) - nI (qn A 2 j) else 0 - (nI (cs A j) - nI (qn A 2 j))) ≤ nI b) ↔ mt1 A b j = true := by
      rw [mt1_iff]
      by_cases hle : qn A 2 j ≤ cs A j
      · rw [pk_sub hle, if_pos (nI_pos' (by omega)), nI_leI (by omega) (by omega)]; omega
      · have hneg := pk_sneg (a := cs A j) (b := qn A 2 j) (by omega) (by omega)
        rw [if_neg (by rw [Int32.le_iff_toInt_le]; rw [Int32.lt_iff_toInt_lt] at hneg; omega), Int32.zero_sub, Int32.neg_sub, pk_sub (by omega), nI_leI (by omega) (by omega)]; omega
    by_cases hq : mt1 A b j = true
    · rw [if_pos (key.mpr hq)]
      exact ih f (j + 1) (by omega) (by omega) (by show (mt A b j && mt1 A b j) = true; rw [hm, hq]; rfl)
    · rw [if_neg (fun q => hq (key.mp q)), tb_0]
      have := mt_no (A := A) (b := b) (j := j) (by simpa using hq) (qZ A - (j + 1))
      rw [Nat.add_sub_cancel' (by omega)] at this
      rw [this]; rfl
theorem met_ok {A : tS} (hB : Bnd A) {b : Nat} (hb : b ≤ 100000) : mf_B_isMet (nI b) A = some (bI (mt A b (qZ A)), A) := met_l hB hb (qZ A) 4096 0 (by omega) (by have := (Bg_Z hB).2; omega) rfl
theorem l_sub_t {a b : Nat} (ha : a < 2 ^ 31) (hb : b < 2 ^ 31) : (lN a - lN b).toInt = (a : Int) - b := by
  rw [Int64.toInt_sub, pk_lT (by omega), pk_lT (by omega), Int.bmod_eq_of_le (by omega) (by omega)]
theorem metR_l {A τ : tS} (hB : Bnd A) (hR : Rf τ A) {b : Nat} (hb : b ≤ 100000) : ∀ (k f j : Nat), j + k = qZ A → k < f → ml_R_isMet_4 f (nI b) (bI (mt A b j)) (nI j) τ = some (bI (mt A b (qZ A)), τ) := by
  obtain ⟨eZ, hZ⟩ := Bg_Z hB
  have eR : τ.1 2 = nI (qZ A) := by rw [hR.1.2.1]; exact eZ
  intro k
  induction k with
  | zero =>
    intro f j h1 h2
    obtain ⟨f, rfl⟩ : ∃ q, f = q + 1 := ⟨f - 1, by omega⟩
    have e : j = qZ A := by omega
    show ms_R_isMet_4 (ml_R_isMet_4 f) (nI b) (bI (mt A b j)) (nI j) τ = _
    unfold ms_R_isMet_4
    rw [if_pos (by rw [eR, e]; exact Int32.le_refl _), e]
    unfold bI
    split
    · rw [tb_1]
    · rw [tb_0]
  | succ k ih =>
    intro f j h1 h2
    obtain ⟨f, rfl⟩ : ∃ q, f = q + 1 := ⟨f - 1, by omega⟩
    have hj6 : j < 6 := by omega
    have hc := cs_le hB hj6
    have b2 : qn A 2 j ≤ 100000 := Bg_b hB 2 (k := j) hj6
    have e2 : τ.2.1 2 j = nI (qn A 2 j) := (Rf_r hR 2 (k := j) hj6).trans (Bg_q hB 2 (k := j) hj6)
    have next := ih f (j + 1) (by omega) (by omega)
    have hs : mt A b (j + 1) = (mt A b j && mt1 A b j) := rfl
    have k1 : (0 < lg_cmp (lN (cs A j) - (nI (qn A 2 j)).toInt64) ((nI b).toInt64)) ↔ qn A 2 j + b < cs A j := by
      rw [lg_cmp_gt, Int64.lt_iff_toInt_lt, nI_l (by omega), nI_l (by omega), l_sub_t (by omega) (by omega), pk_lT (by omega)]; omega
    have k2 : (lg_cmp (lN (cs A j) - (nI (qn A 2 j)).toInt64) ((-nI b).toInt64) < 0) ↔ cs A j + b < qn A 2 j := by
      have en : ((-nI b).toInt64).toInt = -(b : Int) := by
        rw [Int32.toInt_toInt64, ← Int32.zero_sub]
        show (nI 0 - nI b).toInt = _
        rw [pk_sub_toInt (by decide) (by omega)]; omega
      rw [lg_cmp_lt, Int64.lt_iff_toInt_lt, nI_l (by omega), l_sub_t (by omega) (by omega), en]; omega
    show ms_R_isMet_4 (ml_R_isMet_4 f) (nI b) (bI (mt A b j)) (nI j) τ = _
    unfold ms_R_isMet_4
    rw [if_neg (by rw [eR]; exact nI_ge (by omega) (by omega)), sumToR_ok hB hR hj6, tb2_s, tg_n hj6 (by decide), nI_clamp (by omega), e2, nI_1]
    rcases hm : mt A b j with _ | _
    · rw [hs, hm, Bool.false_and] at next
      rw [if_pos (show bI false = 0 from rfl)]; exact next
    · rw [hs, hm, Bool.true_and] at next
      rw [if_neg (show ¬ bI true = 0 by decide)]
      by_cases c1 : qn A 2 j + b < cs A j
      · have : mt1 A b j = false := by
          have : ¬ mt1 A b j = true := fun q => by have := mt1_iff.mp q; omega
          simpa using this
        rw [this] at next
        rw [if_pos (k1.mpr c1)]; exact next
      · rw [if_neg (fun q => c1 (k1.mp q))]
        by_cases c2 : cs A j + b < qn A 2 j
        · have : mt1 A b j = false := by
            have : ¬ mt1 A b j = true := fun q => by have := mt1_iff.mp q; omega
            simpa using this
          rw [this] at next
          rw [if_pos (k2.mpr c2)]; exact next
        · have : mt1 A b j = true := mt1_iff.mpr ⟨by omega, by omega⟩
          rw [this] at next
          rw [if_neg (fun q => c2 (k2.mp q))]; exact next
theorem metR_ok {A τ : tS} (hB : Bnd A) (hR : Rf τ A) {b : Nat} (hb : b ≤ 100000) : mf_R_isMet (nI b) τ = some (bI (mt A b (qZ A)), τ) := metR_l hB hR hb (qZ A) 4096 0 (by omega) (by have := (Bg_Z hB).2; omega)
/-! the factors change -/
theorem Rel_5 {σ τ : tS} {j n : Nat} (h : Rel σ τ) (hj : j < qZ σ) (h1 : 1 ≤ n) (hn : n ≤ 1000000) : Rel (tI σ 5 j (nI n)) (tI τ 16 j (nI n)) := by
  obtain ⟨b1, b2, b3, b4, b5, b6⟩ := h.1
  have hZ := (Bg_Z h.1).2
  refine ⟨⟨⟨b1.1, b1.2.1, b1.2.2.1, b1.2.2.2.1, fun b k hk => ?_⟩, ⟨fun k hk => ?_, fun k g1 g2 => ?_⟩, Bc_I b3 (by decide), Br_I b4 (by decide), Bp_I b5 (by decide), Bz_I b6 (by decide)⟩, Rf_I (a := 5) (by decide) h.2⟩
  · have hb : b ≠ 5 := fun e => by rw [e] at hk; exact absurd hk (by simp [bs])
    rw [tI_ne hb, qn_ne hb]; exact b1.2.2.2.2 b k hk
  · rw [tI_at, qn_at]
    split
    · right; rw [nI_clamp (by omega)]; exact ⟨rfl, h1, hn⟩
    · exact b2.1 k hk
  · replace g1 : qZ σ ≤ k := g1
    rw [tI_at, if_neg (by omega)]; exact b2.2 k g1 g2
theorem FP_5 {σ : tS} {j n : Nat} (h : FP σ) (h1 : 1 ≤ n) (hn : n ≤ 1000000) : FP (tI σ 5 j (nI n)) := by
  intro k hk
  rw [tI_at, qn_at]
  split
  · rw [nI_clamp (by omega)]; exact ⟨rfl, h1, hn⟩
  · exact h k hk
def nf (x : Nat) : Nat := if x < 1 then 1 else if 1000000 < x then 1000000 else x
theorem nf_b (x : Nat) : 1 ≤ nf x ∧ nf x ≤ 1000000 := by unfold nf; split <;> (try split) <;> omega
theorem change_ok (v1 v2 v3 : Int32) : ∀ (k f j : Nat) (σ τ : tS), j + k = qZ σ → k < f → Rel σ τ → FP σ → ∃ σ' τ' v4, ml_B_changeFactors_2 f (nI j) σ = some σ' ∧ ml_R_rounds_95 f v1 v2 v3 (nI j) τ = some (v1, v2, v3, v4, τ') ∧ Rel σ' τ' ∧ FP σ' ∧ σ'.1 = σ.1 ∧ τ'.1 = τ.1 := by
  intro k
  induction k with
  | zero =>
    intro f j σ τ h1 h2 h hF
    obtain ⟨f, rfl⟩ : ∃ q, f = q + 1 := ⟨f - 1, by omega⟩
    obtain ⟨eZ, hZ⟩ := Bg_Z h.1
    have eR : τ.1 2 = nI (qZ σ) := by rw [h.2.1.2.1]; exact eZ
    have e : j = qZ σ := by omega
    refine ⟨σ, τ, nI j, ?_, ?_, h, hF, rfl, rfl⟩
    · show ms_B_changeFactors_2 (ml_B_changeFactors_2 f) (nI j) σ = _
      unfold ms_B_changeFactors_2
      rw [if_pos (by rw [eZ, e]; exact Int32.le_refl _)]
    · show ms_R_rounds_95 (ml_R_rounds_95 f) v1 v2 v3 (nI j) τ = _
      unfold ms_R_rounds_95
      rw [if_pos (by rw [eR, e]; exact Int32.le_refl _)]
  | succ k ih =>
    intro f j σ τ h1 h2 h hF
    obtain ⟨f, rfl⟩ : ∃ q, f = q + 1 := ⟨f - 1, by omega⟩
    obtain ⟨eZ, hZ⟩ := Bg_Z h.1
    have eR : τ.1 2 = nI (qZ σ) := by rw [h.2.1.2.1]; exact eZ
    have hj6 : j < 6 := by omega
    have hc := cs_le h.1 hj6
    have b2 : qn σ 2 j ≤ 100000 := Bg_b h.1 2 (k := j) hj6
    obtain ⟨f1, f2, f3⟩ := hF j (by omega)
    have e2 : τ.2.1 2 j = nI (qn σ 2 j) := (Rf_r h.2 2 (k := j) hj6).trans (Bg_q h.1 2 (k := j) hj6)
    have e5 : τ.2.1 16 j = nI (qn σ 5 j) := (Rf_r h.2 5 (k := j) hj6).trans f1
    have hx : qn σ 5 j * qn σ 2 j ≤ 1000000 * 100000 := Nat.mul_le_mul f3 b2
    have hxd : qn σ 5 j * qn σ 2 j / cs σ j ≤ qn σ 5 j * qn σ 2 j := Nat.div_le_self _ _
    have T1 : ∀ {α : Type} (o : Option α), tg (nI j) 6 o = o := fun o => tg_n hj6 (by decide)
    have C1 : (nI j).toNatClampNeg = j := nI_clamp (by omega)
    by_cases h0 : cs σ j = 0
    · obtain ⟨σ', τ', v4, r1, r2, r⟩ := ih f (j + 1) σ τ (by omega) (by omega) h hF
      refine ⟨σ', τ', v4, ?_, ?_, r⟩
      · show ms_B_changeFactors_2 (ml_B_changeFactors_2 f) (nI j) σ = _
        unfold ms_B_changeFactors_2
        rw [if_neg (by rw [eZ]; exact nI_ge (by omega) (by omega)), sumTo_ok h.1 hj6, tb2_s, h0, if_pos (show nI 0 ≤ 0 from i00), nI_1]; exact r1
      · show ms_R_rounds_95 (ml_R_rounds_95 f) v1 v2 v3 (nI j) τ = _
        unfold ms_R_rounds_95
        rw [if_neg (by rw [eR]; exact nI_ge (by omega) (by omega)), sumToR_ok h.1 h.2 hj6, tb2_s, h0, if_pos (show lg_cmp (lN 0) 0 ≤ 0 by decide), nI_1]; exact r2
    · obtain ⟨g1, g2⟩ := nf_b (qn σ 5 j * qn σ 2 j / cs σ j)
      obtain ⟨σ', τ', v4, r1, r2, r⟩ := ih f (j + 1) (tI σ 5 j (nI (nf (qn σ 5 j * qn σ 2 j / cs σ j)))) (tI τ 16 j (nI (nf (qn σ 5 j * qn σ 2 j / cs σ j)))) (show j + 1 + k = qZ σ by omega) (by omega) (Rel_5 h (by omega) g1 g2) (FP_5 hF g1 g2)
      refine ⟨σ', τ', v4, ?_, ?_, r⟩
      · show ms_B_changeFactors_2 (ml_B_changeFactors_2 f) (nI j) σ = _
        unfold ms_B_changeFactors_2
        rw [if_neg (by rw [eZ]; exact nI_ge (by omega) (by omega)), sumTo_ok h.1 hj6, tb2_s, if_neg (nI_nle (by omega) (by omega)), nI_l (n := cs σ j) (by omega), tz_n (by omega) (by omega)]
        simp only [T1, C1, f1, Bg_q h.1 2 (k := j) hj6, nI_1]
        rw [nI_l (by omega), nI_l (by omega), lN_mul, pk_lDiv (by omega) (by omega) (by omega)]
        have en : ((if (if (1000000 : Int64) < lN (qn σ 5 j * qn σ 2 j / cs σ j) then (1000000 : Int64) else lN (qn σ 5 j * qn σ 2 j / cs σ j)) < (1 : Int64) then (1 : Int64) else (if (1000000 : Int64) < lN (qn σ 5 j * qn σ 2 j / cs σ j) then (1000000 : Int64) else lN (qn σ 5 j * qn σ 2 j / cs σ j)))).toInt32 = nI (nf (qn σ 5 j * qn σ 2 j / cs σ j)) := by
          unfold nf
          by_cases a1 : 1000000 < qn σ 5 j * qn σ 2 j / cs σ j
          · rw [if_pos (show (1000000 : Int64) < lN (qn σ 5 j * qn σ 2 j / cs σ j) from (pk_lLT (a := 1000000) (by decide) (by omega)).mpr a1), if_neg (show ¬ (1000000 : Int64) < 1 by decide), if_neg (by omega), if_pos a1]; rfl
          · rw [if_neg (show ¬ (1000000 : Int64) < lN (qn σ 5 j * qn σ 2 j / cs σ j) from fun q => a1 ((pk_lLT (a := 1000000) (by decide) (by omega)).mp q))]
            by_cases a2 : qn σ 5 j * qn σ 2 j / cs σ j < 1
            · rw [if_pos (show lN (qn σ 5 j * qn σ 2 j / cs σ j) < (1 : Int64) from (pk_lLT (b := 1) (by omega) (by decide)).mpr a2), if_pos a2]; rfl
            · rw [if_neg (show ¬ lN (qn σ 5 j * qn σ 2 j / cs σ j) < (1 : Int64) from fun q => a2 ((pk_lLT (b := 1) (by omega) (by decide)).mp q)), if_neg a2, if_neg a1, lN_i]
        rw [en]; exact r1
      · show ms_R_rounds_95 (ml_R_rounds_95 f) v1 v2 v3 (nI j) τ = _
        unfold ms_R_rounds_95
        rw [if_neg (by rw [eR]; exact nI_ge (by omega) (by omega)), sumToR_ok h.1 h.2 hj6, tb2_s, if_neg (by
          rw [lg_cmp_le]
          show ¬ lN (cs σ j) ≤ lN 0
          rw [pk_lLE (by omega) (by decide)]; omega)]
        simp only [T1, C1, e2, e5, nI_1]
        rw [tz_n (by omega) (by omega), nI_l (by omega), nI_l (by omega), lN_mul, pk_lDiv (by omega) (by omega) (by omega)]
        by_cases a2 : qn σ 5 j * qn σ 2 j / cs σ j < 1
        · rw [show nf (qn σ 5 j * qn σ 2 j / cs σ j) = 1 from if_pos a2] at r2
          rw [if_neg (by rw [lg_cmp_ge]; exact fun q => by have := (pk_lLE (a := 1) (by decide) (by omega)).mp q; omega)]
          exact r2
        · rw [if_pos (by rw [lg_cmp_ge]; exact (pk_lLE (a := 1) (by decide) (by omega)).mpr (by omega))]
          by_cases a1 : 1000000 < qn σ 5 j * qn σ 2 j / cs σ j
          · rw [show nf (qn σ 5 j * qn σ 2 j / cs σ j) = 1000000 by unfold nf; rw [if_neg a2, if_pos a1]] at r2
            rw [if_neg (by rw [lg_cmp_le]; exact fun q => by have := (pk_lLE (b := 1000000) (by omega) (by decide)).mp q; omega)]
            exact r2
          · rw [show nf (qn σ 5 j * qn σ 2 j / cs σ j) = qn σ 5 j * qn σ 2 j / cs σ j by unfold nf; rw [if_neg a2, if_neg a1]] at r2
            rw [if_pos (by rw [lg_cmp_le]; exact (pk_lLE (b := 1000000) (by omega) (by decide)).mpr (by omega)), lN_i]
            exact r2
theorem go_ok {most b : Nat} (hm : most ≤ 50) (hb : b ≤ 100000) : ∀ (k f r : Nat) (σ τ : tS), r + k = most → k + 1 < f → Rel σ τ → FP σ → ∃ v σ' τ', ml_B_goRounds_31 f (nI most) (nI b) (nI r) σ = some (v, σ') ∧ tb1 (mf_R_oneRound τ) (fun s => ml_R_rounds_79 f (nI most) (nI b) (nI r) s) = some (v, τ') ∧ Rel σ' τ' ∧ τ'.1 = τ.1 := by
  intro k
  induction k with
  | zero =>
    intro f r σ τ h1 h2 h hF
    obtain ⟨f, rfl⟩ : ∃ q, f = q + 1 + 1 := ⟨f - 2, by omega⟩
    have e : r = most := by omega
    subst e
    obtain ⟨σ1, τ1, q1, q2, q3, q4, q5, q6⟩ := round_ok h hF
    have m1 := met_ok q3.1 hb
    have m2 := metR_ok q3.1 q3.2 hb
    rw [q2, tb1_s]
    rcases hmt : mt σ1 b (qZ σ1) with _ | _
    · rw [hmt] at m1 m2
      refine ⟨-nI r, σ1, τ1, ?_, ?_, q3, q6⟩
      · show ms_B_goRounds_31 (ml_B_goRounds_31 (f + 1)) (nI r) (nI b) (nI r) σ = _
        unfold ms_B_goRounds_31
        rw [if_neg (nI_nlt (Nat.le_refl _) (by omega)), q1, tb1_s, m1, tb2_s, if_pos (show bI false = 0 from rfl), if_pos (Int32.le_refl _), nI_1]
        show ms_B_goRounds_31 (ml_B_goRounds_31 f) (nI r) (nI b) (nI (r + 1)) σ1 = _
        unfold ms_B_goRounds_31
        rw [if_pos (nI_lt (by omega) (by omega))]
      · show ms_R_rounds_79 (ml_R_rounds_79 (f + 1)) (nI r) (nI b) (nI r) τ1 = _
        unfold ms_R_rounds_79
        rw [m2, tb2_s, if_pos (show bI false = 0 from rfl), if_pos (Int32.le_refl _), m2, tb2_s, if_pos (show bI false = 0 from rfl)]
    · rw [hmt] at m1 m2
      refine ⟨nI r, σ1, τ1, ?_, ?_, q3, q6⟩
      · show ms_B_goRounds_31 (ml_B_goRounds_31 (f + 1)) (nI r) (nI b) (nI r) σ = _
        unfold ms_B_goRounds_31
        rw [if_neg (nI_nlt (Nat.le_refl _) (by omega)), q1, tb1_s, m1, tb2_s, if_neg (show ¬ bI true = 0 by decide)]
      · show ms_R_rounds_79 (ml_R_rounds_79 (f + 1)) (nI r) (nI b) (nI r) τ1 = _
        unfold ms_R_rounds_79
        rw [m2, tb2_s, if_neg (show ¬ bI true = 0 by decide), m2, tb2_s, if_neg (show ¬ bI true = 0 by decide)]
  | succ k ih =>
    intro f r σ τ h1 h2 h hF
    obtain ⟨f, rfl⟩ : ∃ q, f = q + 1 := ⟨f - 1, by omega⟩
    obtain ⟨σ1, τ1, q1, q2, q3, q4, q5, q6⟩ := round_ok h hF
    have m1 := met_ok q3.1 hb
    have m2 := metR_ok q3.1 q3.2 hb
    rw [q2, tb1_s]
    rcases hmt : mt σ1 b (qZ σ1) with _ | _
    · rw [hmt] at m1 m2
      obtain ⟨σ2, τ2, v4, c1, c2, c3, c4, c5, c6⟩ := change_ok (nI most) (nI b) (nI r) (qZ σ1) 4096 0 σ1 τ1 (by omega) (by have := (Bg_Z q3.1).2; omega) q3 q4
      have c1' : mf_B_changeFactors σ1 = some σ2 := c1
      have c2' : ml_R_rounds_95 4096 (nI most) (nI b) (nI r) 0 τ1 = some (nI most, nI b, nI r, v4, τ2) := c2
      obtain ⟨v, σ', τ', r1, r2, r3, r4⟩ := ih f (r + 1) σ2 τ2 (by omega) (by omega) c3 c4
      refine ⟨v, σ', τ', ?_, ?_, r3, by rw [r4, c6, q6]⟩
      · show ms_B_goRounds_31 (ml_B_goRounds_31 f) (nI most) (nI b) (nI r) σ = _
        unfold ms_B_goRounds_31
        rw [if_neg (nI_nlt (by omega) (by omega)), q1, tb1_s, m1, tb2_s, if_pos (show bI false = 0 from rfl), if_neg (nI_ge (by omega) (by omega)), c1', tb1_s, nI_1]
        exact r1
      · show ms_R_rounds_79 (ml_R_rounds_79 f) (nI most) (nI b) (nI r) τ1 = _
        unfold ms_R_rounds_79
        rw [m2, tb2_s, if_pos (show bI false = 0 from rfl), if_neg (nI_ge (by omega) (by omega)), c2', tb1_s]
        simp only [nI_1]
        exact r2
    · rw [hmt] at m1 m2
      refine ⟨nI r, σ1, τ1, ?_, ?_, q3, q6⟩
      · show ms_B_goRounds_31 (ml_B_goRounds_31 f) (nI most) (nI b) (nI r) σ = _
        unfold ms_B_goRounds_31
        rw [if_neg (nI_nlt (by omega) (by omega)), q1, tb1_s, m1, tb2_s, if_neg (show ¬ bI true = 0 by decide)]
      · show ms_R_rounds_79 (ml_R_rounds_79 f) (nI most) (nI b) (nI r) τ1 = _
        unfold ms_R_rounds_79
        rw [m2, tb2_s, if_neg (show ¬ bI true = 0 by decide), m2, tb2_s, if_neg (show ¬ bI true = 0 by decide)]
/-! the first factors -/
theorem first_ok {most b : Nat} (hm1 : 1 ≤ most) (hm : most ≤ 50) (hb : b ≤ 100000) : ∀ (k f j : Nat) (σ τ : tS), j + k = 6 → k < f → Rel σ τ → (∀ i, i < j → i < qZ σ → σ.2.1 5 i = nI 1000) → ∃ v σ' τ', (if j ≤ qZ σ then ml_B_goRounds_3 f (nI most) (nI b) (nI j) σ else ml_B_goRounds_31 4096 (nI most) (nI b) 1 σ) = some (v, σ') ∧ ml_R_rounds_40 f (nI most) (nI b) (nI j) τ = some (v, τ') ∧ Rel σ' τ' ∧ τ'.1 = τ.1 := by
  intro k
  have fin : ∀ (σ τ : tS), Rel σ τ → (∀ i, i < 6 → i < qZ σ → σ.2.1 5 i = nI 1000) → ∃ v σ' τ', ml_B_goRounds_31 4096 (nI most) (nI b) 1 σ = some (v, σ') ∧ tb1 (mf_R_oneRound τ) (fun s => ml_R_rounds_79 4096 (nI most) (nI b) 1 s) = some (v, τ') ∧ Rel σ' τ' ∧ τ'.1 = τ.1 := by
    intro σ τ h hs
    have hZ := (Bg_Z h.1).2
    exact go_ok hm hb (most - 1) 4096 1 σ τ (by omega) (by omega) h (fun j hj => by
      have e := hs j (by omega) hj
      have : qn σ 5 j = 1000 := by unfold qn; rw [e]; rfl
      rw [this]; exact ⟨e, by decide, by decide⟩)
  induction k with
  | zero =>
    intro f j σ τ h1 h2 h hs
    obtain ⟨f, rfl⟩ : ∃ q, f = q + 1 := ⟨f - 1, by omega⟩
    obtain ⟨eZ, hZ⟩ := Bg_Z h.1
    have e : j = 6 := by omega
    subst e
    obtain ⟨v, σ', τ', r1, r2, r3⟩ := fin σ τ h hs
    refine ⟨v, σ', τ', ?_, ?_, r3⟩
    · split
      · show ms_B_goRounds_3 (ml_B_goRounds_3 f) (nI most) (nI b) (nI 6) σ = _
        unfold ms_B_goRounds_3
        rw [if_pos (by rw [eZ]; exact nI_le hZ (by decide))]; exact r1
      · exact r1
    · show ms_R_rounds_40 (ml_R_rounds_40 f) (nI most) (nI b) (nI 6) τ = _
      unfold ms_R_rounds_40
      rw [if_pos (by decide)]; exact r2
  | succ k ih =>
    intro f j σ τ h1 h2 h hs
    obtain ⟨f, rfl⟩ : ∃ q, f = q + 1 := ⟨f - 1, by omega⟩
    obtain ⟨eZ, hZ⟩ := Bg_Z h.1
    have eR : τ.1 2 = nI (qZ σ) := by rw [h.2.1.2.1]; exact eZ
    have hj6 : j < 6 := by omega
    by_cases hj : j < qZ σ
    · obtain ⟨v, σ', τ', r1, r2, r3⟩ := ih f (j + 1) (tI σ 5 j (nI 1000)) (tI τ 16 j (nI 1000)) (by omega) (by omega) (Rel_5 h hj (by decide) (by decide)) (fun i h1 h2 => by
        rw [tI_at]; split
        · rfl
        · exact hs i (by omega) h2)
      rw [if_pos (show j + 1 ≤ qZ (tI σ 5 j (nI 1000)) from hj)] at r1
      refine ⟨v, σ', τ', ?_, ?_, r3⟩
      · rw [if_pos (by omega)]
        show ms_B_goRounds_3 (ml_B_goRounds_3 f) (nI most) (nI b) (nI j) σ = _
        unfold ms_B_goRounds_3
        rw [if_neg (by rw [eZ]; exact nI_ge hj (by omega)), tg_n hj6 (by decide), nI_clamp (by omega), nI_1]; exact r1
      · show ms_R_rounds_40 (ml_R_rounds_40 f) (nI most) (nI b) (nI j) τ = _
        unfold ms_R_rounds_40
        rw [if_neg (show ¬ (6 : Int32) ≤ nI j from nI_ge (b := 6) hj6 (by decide)), if_neg (by rw [eR]; exact nI_ge hj (by omega)), tg_n hj6 (by decide), nI_clamp (by omega), nI_1]; exact r2
    · have e5 : τ.2.1 16 j = -1 := by rw [show τ.2.1 16 j = σ.2.1 5 j from Rf_r h.2 5 (k := j) hj6]; exact h.1.2.1.2 j (by omega) hj6
      have hR' : Rf (tI τ 16 j (-1)) σ := by
        obtain ⟨r1, r2, r3, r4, r5, r6⟩ := h.2
        refine ⟨r1, fun a k hk => ?_, fun k hk => ?_, fun k hk => ?_, fun k hk => ?_, r6⟩
        · by_cases ea : rm a = 16
          · rw [ea, tI_at]
            have := r2 a k hk
            rw [ea] at this
            split
            · rename_i ek; rw [← this, ek, e5]
            · exact this
          · rw [tI_ne ea]; exact r2 a k hk
        · rw [tI_ne (by decide)]; exact r3 k hk
        · rw [tI_ne (by decide)]; exact r4 k hk
        · rw [tI_ne (by decide)]; exact r5 k hk
      obtain ⟨v, σ', τ', r1, r2, r3⟩ := ih f (j + 1) σ (tI τ 16 j (-1)) (by omega) (by omega) ⟨h.1, hR'⟩ (fun i h1 h2 => hs i (by omega) h2)
      rw [if_neg (by omega)] at r1
      refine ⟨v, σ', τ', ?_, ?_, r3⟩
      · split
        · show ms_B_goRounds_3 (ml_B_goRounds_3 f) (nI most) (nI b) (nI j) σ = _
          unfold ms_B_goRounds_3
          rw [if_pos (by rw [eZ]; exact nI_le (by omega) (by omega))]; exact r1
        · exact r1
      · show ms_R_rounds_40 (ml_R_rounds_40 f) (nI most) (nI b) (nI j) τ = _
        unfold ms_R_rounds_40
        rw [if_neg (show ¬ (6 : Int32) ≤ nI j from nI_ge (b := 6) hj6 (by decide)), if_pos (by rw [eR]; exact nI_le (by omega) (by omega)), tg_n hj6 (by decide), nI_clamp (by omega), nI_1]; exact r2
theorem okp_rounds : ok_rounds Rel := by
  intro σ τ f p0 p1 h
  rcases nd_in p0 1 50 σ τ with ⟨a0, b0⟩ | ⟨l0, u0, a0, c0, b0⟩
  · exact op_fail (f := f) h (by simp only [lf_rounds, mx_T_rounds, a0, tx_s, lf1_s]) (by simp only [mf_R_rounds, b0, tb2_s, ↓reduceIte, i10])
  rcases nd_in p1 0 100000 σ τ with ⟨a1, b1⟩ | ⟨l1, u1, a1, c1, b1⟩
  · exact op_fail (f := f) h (by simp only [lf_rounds, mx_T_rounds, a0, c0, a1, tb1_s, tx_n, tx_s, lf1_s]) (by simp only [mf_R_rounds, b0, b1, tb2_s, ↓reduceIte, i10, i1n])
  have l0' : ¬ p0 < 0 := by
    rw [Int32.lt_iff_toInt_lt] at *
    have v1 : (1 : Int32).toInt = 1 := rfl
    have v2 : (0 : Int32).toInt = 0 := rfl
    omega
  obtain ⟨most, hm, hp0⟩ := nd_nat (n := 50) rfl l0' u0
  obtain ⟨b, hb, hp1⟩ := nd_nat (n := 100000) rfl l1 u1
  have hm1 : 1 ≤ most := by
    rw [hp0, Int32.lt_iff_toInt_lt, nI_toInt (by omega)] at l0
    have v1 : (1 : Int32).toInt = 1 := rfl
    omega
  subst hp0 hp1
  obtain ⟨v, σ', τ', r1, r2, r3, r4⟩ := first_ok hm1 hm hb 6 4096 0 σ (tF τ 0 0) (by decide) (by decide) ⟨h.1, Rf_F0 h.2⟩ (fun i h1 _ => by omega)
  rw [if_pos (Nat.zero_le _)] at r1
  have r1' : mf_B_goRounds (nI most) (nI b) σ = some (v, σ') := r1
  have r2' : ml_R_rounds_40 4096 (nI most) (nI b) 0 (tF τ 0 0) = some (v, τ') := r2
  exact op_win (f := f) (v := v) (σ' := σ') (τ' := τ') (by simp only [lf_rounds, mx_T_rounds, mf_T_rounds, a0, c0, a1, c1, tb1_s, tb2_s, tx_n, lf1_n, r1']) (by simp only [mf_R_rounds, b0, b1, tb2_s, ↓reduceIte, i00, i1n, r2']) (by rw [r4]; rfl) r3
