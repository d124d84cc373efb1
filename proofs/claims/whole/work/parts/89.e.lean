/-! THE GAP -/
def sJ : Nat → (Nat → Int64) → Int64
  | 0, _ => 0
  | n + 1, f => sJ n f + f n
theorem sJ_add {f g : Nat → Int64} : ∀ n, sJ n (fun k => f k + g k) = sJ n f + sJ n g := by
  intro n
  induction n with
  | zero => rfl
  | succ n ih =>
    show sJ n (fun k => f k + g k) + (f n + g n) = sJ n f + f n + (sJ n g + g n)
    rw [ih, Int64.add_assoc, Int64.add_assoc, ← Int64.add_assoc (sJ n g), Int64.add_comm (sJ n g) (f n), Int64.add_assoc]
theorem sJ_swap (F : Nat → Nat → Int64) (m : Nat) : ∀ n, sJ n (fun i => sJ m (fun j => F i j)) = sJ m (fun j => sJ n (fun i => F i j)) := by
  intro n
  induction n with
  | zero =>
    show 0 = sJ m (fun _ => 0)
    induction m with
    | zero => rfl
    | succ m ih => show 0 = sJ m (fun _ => 0) + 0; rw [← ih]; rfl
  | succ n ih =>
    show sJ n (fun i => sJ m (fun j => F i j)) + sJ m (fun j => F n j) = sJ m (fun j => sJ n (fun i => F i j) + F n j)
    rw [ih, sJ_add]
theorem sJ_sub (a b c : Int64) : a - b - c = a - (b + c) := by
  rw [Int64.sub_eq_add_neg, Int64.sub_eq_add_neg, Int64.sub_eq_add_neg, Int64.neg_add, Int64.add_assoc, Int64.sub_eq_add_neg]
/-- what a pair takes off -/
def xg (A : tS) (i j : Nat) : Int64 := if wD (gA A (tm A)) (qn A 0 j) (qn A 0 i) = wI then 0 else (A.2.1 19 (6 * i + j)).toInt64 * lN (wD (gA A (tm A)) (qn A 0 j) (qn A 0 i) / 64)
theorem gl_ok {A : tS} (hB : Bnd A) {j : Nat} (hj : j < qZ A) : ∀ (k f i : Nat) (σ : tS), i + k = qZ A → k < f → cC σ A → (∀ v, v < 12 → σ.2.2 0 v = lN (wD (gA A (tm A)) (qn A 0 j) v)) → ml_T_leastTimeTo_5 f (nI j) (sJ i (fun i' => xg A i' j)) (nI i) σ = some (sJ (qZ A) (fun i' => xg A i' j), σ) := by
  obtain ⟨eZ, hZ⟩ := Bg_Z hB
  obtain ⟨eN, hN⟩ := Bg_N hB
  have hk := gA_k hB (tm_le A)
  have hz : qn A 0 j < 12 := by have := hB.2.2.2.2.1.1 j hj; omega
  intro k
  induction k with
  | zero =>
    intro f i σ h1 h2 hc hco
    obtain ⟨f, rfl⟩ : ∃ q, f = q + 1 := ⟨f - 1, by omega⟩
    have e : i = qZ A := by omega
    show ms_T_leastTimeTo_5 (ml_T_leastTimeTo_5 f) (nI j) _ (nI i) σ = _
    unfold ms_T_leastTimeTo_5
    rw [if_pos (by rw [hc.1, eZ, e]; exact Int32.le_refl _), e]
  | succ k ih =>
    intro f i σ h1 h2 hc hco
    obtain ⟨f, rfl⟩ : ∃ q, f = q + 1 := ⟨f - 1, by omega⟩
    have hi : i < qZ A := by omega
    have hu : qn A 0 i < 12 := by have := hB.2.2.2.2.1.1 i hi; omega
    have e0 : σ.2.1 0 i = nI (qn A 0 i) := by rw [hc.2 0 (by decide) (by decide) (by decide) (by decide) (by decide)]; exact Bg_q hB 0 (k := i) (show i < 6 by omega)
    have e19 : σ.2.1 19 = A.2.1 19 := hc.2 19 (by decide) (by decide) (by decide) (by decide) (by decide)
    have next := ih f (i + 1) σ (by omega) (by omega) hc hco
    have hs : sJ (i + 1) (fun i' => xg A i' j) = sJ i (fun i' => xg A i' j) + xg A i j := rfl
    show ms_T_leastTimeTo_5 (ml_T_leastTimeTo_5 f) (nI j) _ (nI i) σ = _
    unfold ms_T_leastTimeTo_5 mf_T_pairOf
    rw [if_neg (by rw [hc.1, eZ]; exact nI_ge (by omega) (by omega)), tg_n (by omega) (by decide), nI_clamp (by omega), e0, timeFrom_ok hk hz hco hu, tb2_s]
    by_cases hq : wD (gA A (tm A)) (qn A 0 j) (qn A 0 i) = wI
    · rw [if_pos hq, if_pos rfl, nI_1]
      have hx : xg A i j = 0 := if_pos hq
      rw [hs, hx, Int64.add_zero] at next
      exact next
    · have hb := wV_b (wD_V hk hz) hu hq
      have hx : xg A i j = (A.2.1 19 (6 * i + j)).toInt64 * lN (wD (gA A (tm A)) (qn A 0 j) (qn A 0 i) / 64) := if_neg hq
      rw [if_neg hq, if_neg (fun q => by have := (wx_n (o := some (wD (gA A (tm A)) (qn A 0 j) (qn A 0 i) / 64)) (fun q hq => by cases hq; omega)).mp q; cases this), tb2_s, nI_6.1, tg_n (by omega) (by decide), nI_clamp (by omega), e19, nI_l (by omega), nI_1]
      rw [hs, hx] at next
      exact next
theorem go_l {A : tS} (hB : Bnd A) : ∀ (k f j : Nat) (b : Int64) (σ : tS), j + k = qZ A → k < f → cC σ A → (∀ s, s < qS A → σ.2.1 16 s = nI (tm A s)) → ∃ σ', ml_T_gap_58 f (b - sJ j (fun j' => sJ (qZ A) (fun i' => xg A i' j'))) (nI j) σ = some (b - sJ (qZ A) (fun j' => sJ (qZ A) (fun i' => xg A i' j')), σ') ∧ cC σ' A := by
  obtain ⟨eZ, hZ⟩ := Bg_Z hB
  obtain ⟨eN, hN⟩ := Bg_N hB
  have hk := gA_k hB (tm_le A)
  intro k
  induction k with
  | zero =>
    intro f j b σ h1 h2 hc h16
    obtain ⟨f, rfl⟩ : ∃ q, f = q + 1 := ⟨f - 1, by omega⟩
    have e : j = qZ A := by omega
    refine ⟨σ, ?_, hc⟩
    show ms_T_gap_58 (ml_T_gap_58 f) _ (nI j) σ = _
    unfold ms_T_gap_58
    rw [if_pos (by rw [hc.1, eZ, e]; exact Int32.le_refl _), e]
  | succ k ih =>
    intro f j b σ h1 h2 hc h16
    obtain ⟨f, rfl⟩ : ∃ q, f = q + 1 := ⟨f - 1, by omega⟩
    have hj : j < qZ A := by omega
    have hz : qn A 0 j < 12 := by have := hB.2.2.2.2.1.1 j hj; omega
    have e0 : σ.2.1 0 j = nI (qn A 0 j) := by rw [hc.2 0 (by decide) (by decide) (by decide) (by decide) (by decide)]; exact Bg_q hB 0 (k := j) (show j < 6 by omega)
    obtain ⟨σ1, q1, q2, q3, q4, q5⟩ := aim_ok hk hz (gA_C hB hc h16)
    have hc1 : cC σ1 A := cC_t ⟨q2, fun a _ a2 _ _ _ => q3 a a2⟩ hc
    have q6 : mf_T_leastTimeTo (nI j) σ1 = some (sJ (qZ A) (fun i' => xg A i' j), σ1) := gl_ok hB hj (qZ A) 4096 0 σ1 (by omega) (by omega) hc1 q4
    obtain ⟨σ', r1, r2⟩ := ih f (j + 1) b σ1 (by omega) (by omega) hc1 (fun s hs => by rw [q3 16 (by decide)]; exact h16 s hs)
    have hs : b - sJ (j + 1) (fun j' => sJ (qZ A) (fun i' => xg A i' j')) = b - sJ j (fun j' => sJ (qZ A) (fun i' => xg A i' j')) - sJ (qZ A) (fun i' => xg A i' j) := by
      rw [sJ_sub]; rfl
    rw [hs] at r1
    refine ⟨σ', ?_, r2⟩
    show ms_T_gap_58 (ml_T_gap_58 f) _ (nI j) σ = _
    unfold ms_T_gap_58
    rw [if_neg (by rw [hc.1, eZ]; exact nI_ge (by omega) (by omega)), tg_n (by omega) (by decide), nI_clamp (by omega), e0, q1, tb1_s, q6, tb2_s, nI_1]
    exact r1
def xb (A : tS) (s : Nat) : Int64 := lN (qn A 15 s) * lN (tm A s)
theorem gs_l {A : tS} (hB : Bnd A) : ∀ (k f i : Nat) (σ : tS), i + k = qS A → k < f → cC σ A → (∀ s, s < qS A → σ.2.1 16 s = nI (tm A s)) → ml_T_gap_15 f (sJ i (xb A)) (nI i) σ = ml_T_gap_58 4096 (sJ (qS A) (xb A)) 0 σ := by
  obtain ⟨eS, hS⟩ := Bg_S hB
  intro k
  induction k with
  | zero =>
    intro f i σ h1 h2 hc h16
    obtain ⟨f, rfl⟩ : ∃ q, f = q + 1 := ⟨f - 1, by omega⟩
    have e : i = qS A := by omega
    rw [show ml_T_gap_15 (f + 1) = ms_T_gap_15 (ml_T_gap_15 f) from rfl]
    unfold ms_T_gap_15
    rw [if_pos (by rw [hc.1, eS, e]; exact Int32.le_refl _), e]
  | succ k ih =>
    intro f i σ h1 h2 hc h16
    obtain ⟨f, rfl⟩ : ∃ q, f = q + 1 := ⟨f - 1, by omega⟩
    have hi4 : i < 40 := by omega
    have b15 : qn A 15 i ≤ 500000000 := Bg_b hB 15 (k := i) hi4
    have btm := tm_le A i
    have e15 : σ.2.1 15 i = nI (qn A 15 i) := by rw [hc.2 15 (by decide) (by decide) (by decide) (by decide) (by decide)]; exact Bg_q hB 15 (k := i) hi4
    rw [show ml_T_gap_15 (f + 1) = ms_T_gap_15 (ml_T_gap_15 f) from rfl]
    unfold ms_T_gap_15
    rw [if_neg (by rw [hc.1, eS]; exact nI_ge (by omega) (by omega)), tg_n hi4 (by decide), tg_n hi4 (by decide), nI_clamp (by omega), e15, h16 i (by omega), nI_l (by omega), nI_l (by omega), nI_1]
    exact ih f (i + 1) σ (by omega) (by omega) hc h16
theorem rgs_l {A : tS} (hB : Bnd A) : ∀ (k f i : Nat) (τ : tS), i + k = qS A → k < f → Rf τ A → (∀ s, s < qS A → τ.2.2 3 s = lN (tm A s)) → ml_R_gap_13 f (sJ i (xb A)) (nI i) τ = ml_R_gap_45 4096 (sJ (qS A) (xb A)) 0 τ := by
  obtain ⟨eS, hS⟩ := Bg_S hB
  intro k
  induction k with
  | zero =>
    intro f i τ h1 h2 hc h3
    obtain ⟨f, rfl⟩ : ∃ q, f = q + 1 := ⟨f - 1, by omega⟩
    have e : i = qS A := by omega
    rw [show ml_R_gap_13 (f + 1) = ms_R_gap_13 (ml_R_gap_13 f) from rfl]
    unfold ms_R_gap_13
    rw [if_pos (by rw [hc.1.2.2.1, eS, e]; exact Int32.le_refl _), e]
  | succ k ih =>
    intro f i τ h1 h2 hc h3
    obtain ⟨f, rfl⟩ : ∃ q, f = q + 1 := ⟨f - 1, by omega⟩
    have hi4 : i < 40 := by omega
    have b15 : qn A 15 i ≤ 500000000 := Bg_b hB 15 (k := i) hi4
    have eV : τ.2.2 0 i = lN (qn A 15 i) := by rw [hc.2.2.2.2.2 i hi4, Bg_q hB 15 (k := i) hi4, nI_l (by omega)]
    rw [show ml_R_gap_13 (f + 1) = ms_R_gap_13 (ml_R_gap_13 f) from rfl]
    unfold ms_R_gap_13
    rw [if_neg (by rw [hc.1.2.2.1, eS]; exact nI_ge (by omega) (by omega)), tg_n hi4 (by decide), tg_n hi4 (by decide), nI_clamp (by omega), eV, h3 i (by omega), nI_1]
    exact ih f (i + 1) τ (by omega) (by omega) hc h3
theorem rgi_l {A : tS} (hB : Bnd A) {i : Nat} (hi : i < qZ A) : ∀ (k f j : Nat) (b : Int64) (τ : tS), j + k = qZ A → k < f → Rf τ A → (∀ s, s < qS A → τ.2.2 3 s = lN (tm A s)) → ∃ τ' v, ml_R_gap_56 f (b - sJ j (fun j' => xg A i j')) (nI i) (nI j) τ = some (b - sJ (qZ A) (fun j' => xg A i j'), nI i, v, τ') ∧ Rf τ' A ∧ (∀ s, s < qS A → τ'.2.2 3 s = lN (tm A s)) := by
  obtain ⟨eZ, hZ⟩ := Bg_Z hB
  obtain ⟨eN, hN⟩ := Bg_N hB
  have hk := gA_k hB (tm_le A)
  have hu := hB.2.2.2.2.1.1 i hi
  intro k
  induction k with
  | zero =>
    intro f j b τ h1 h2 hc h3
    obtain ⟨f, rfl⟩ : ∃ q, f = q + 1 := ⟨f - 1, by omega⟩
    have e : j = qZ A := by omega
    refine ⟨τ, nI j, ?_, hc, h3⟩
    show ms_R_gap_56 (ml_R_gap_56 f) _ (nI i) (nI j) τ = _
    unfold ms_R_gap_56
    rw [if_pos (by rw [hc.1.2.1, eZ, e]; exact Int32.le_refl _), e]
  | succ k ih =>
    intro f j b τ h1 h2 hc h3
    obtain ⟨f, rfl⟩ : ∃ q, f = q + 1 := ⟨f - 1, by omega⟩
    have hj : j < qZ A := by omega
    have hz := hB.2.2.2.2.1.1 j hj
    obtain ⟨τ1, w1, w2, w3, w4, w5⟩ := findNear_ok hk hz (gA_R hB hc h3)
    have hR1 : Rf τ1 A := Rf_o hc (fun i _ _ => by rw [w2]) (fun a _ h2 _ => w3 a h2) (w4 0 (by decide))
    have h31 : ∀ s, s < qS A → τ1.2.2 3 s = lN (tm A s) := fun s hs => by rw [w4 3 (by decide)]; exact h3 s hs
    have e0 : τ.2.1 0 j = nI (qn A 0 j) := (Rf_r hc 0 (k := j) (show j < 6 by omega)).trans (Bg_q hB 0 (k := j) (show j < 6 by omega))
    have e1 : τ1.2.1 0 i = nI (qn A 0 i) := (Rf_r hR1 0 (k := i) (show i < 6 by omega)).trans (Bg_q hB 0 (k := i) (show i < 6 by omega))
    have e14 : τ1.2.1 14 (6 * i + j) = A.2.1 19 (6 * i + j) := Rf_r hR1 19 (k := 6 * i + j) (show 6 * i + j < 36 by omega)
    have w6 := (w5 _ hu).1
    obtain ⟨τ', v, r1, r2, r3⟩ := ih f (j + 1) b τ1 (by omega) (by omega) hR1 h31
    have hs : b - sJ (j + 1) (fun j' => xg A i j') = b - sJ j (fun j' => xg A i j') - xg A i j := by rw [sJ_sub]; rfl
    rw [hs] at r1
    refine ⟨τ', v, ?_, r2, r3⟩
    show ms_R_gap_56 (ml_R_gap_56 f) _ (nI i) (nI j) τ = _
    unfold ms_R_gap_56
    rw [if_neg (by rw [hc.1.2.1, eZ]; exact nI_ge (by omega) (by omega)), tg_n (by omega) (by decide), nI_clamp (n := j) (by omega), e0, w1, tb1_s, tg_n (by omega) (by decide), nI_clamp (n := i) (by omega), e1, tg_n (by omega) (by decide), nI_clamp (by omega), w6, nI_6.2, nI_1]
    have hb := wV_b (wD_V hk (show qn A 0 j < 12 by omega)) (show qn A 0 i < 12 by omega)
    by_cases hq : wD (gA A (tm A)) (qn A 0 j) (qn A 0 i) = wI
    · have hx : xg A i j = 0 := if_pos hq
      rw [hx] at r1
      rw [if_pos ((dn_f (fun q => absurd hq q)).mpr hq)]
      exact r1
    · have hx : xg A i j = (A.2.1 19 (6 * i + j)).toInt64 * lN (wD (gA A (tm A)) (qn A 0 j) (qn A 0 i) / 64) := if_neg hq
      rw [hx] at r1
      rw [if_neg (fun q => hq ((dn_f (fun _ => (hb hq).2)).mp q)), tg_n (by omega) (by decide), nI_clamp (by omega), e14, dn_n hq]
      exact r1
theorem rgo_l {A : tS} (hB : Bnd A) : ∀ (k f i : Nat) (b : Int64) (τ : tS), i + k = qZ A → k < f → Rf τ A → (∀ s, s < qS A → τ.2.2 3 s = lN (tm A s)) → ∃ τ', ml_R_gap_45 f (b - sJ i (fun i' => sJ (qZ A) (fun j' => xg A i' j'))) (nI i) τ = some (b - sJ (qZ A) (fun i' => sJ (qZ A) (fun j' => xg A i' j')), τ') ∧ Rf τ' A := by
  obtain ⟨eZ, hZ⟩ := Bg_Z hB
  intro k
  induction k with
  | zero =>
    intro f i b τ h1 h2 hc h3
    obtain ⟨f, rfl⟩ : ∃ q, f = q + 1 := ⟨f - 1, by omega⟩
    have e : i = qZ A := by omega
    refine ⟨τ, ?_, hc⟩
    show ms_R_gap_45 (ml_R_gap_45 f) _ (nI i) τ = _
    unfold ms_R_gap_45
    rw [if_pos (by rw [hc.1.2.1, eZ, e]; exact Int32.le_refl _), e]
  | succ k ih =>
    intro f i b τ h1 h2 hc h3
    obtain ⟨f, rfl⟩ : ∃ q, f = q + 1 := ⟨f - 1, by omega⟩
    obtain ⟨τ1, v, q1, q2, q3⟩ := rgi_l hB (i := i) (by omega) (qZ A) 4096 0 (b - sJ i (fun i' => sJ (qZ A) (fun j' => xg A i' j'))) τ (by omega) (by omega) hc h3
    have z0 : ∀ x : Int64, x - sJ 0 (fun j' => xg A i j') = x := fun x => Int64.sub_zero x
    rw [z0] at q1
    have q1' : ml_R_gap_56 4096 (b - sJ i (fun i' => sJ (qZ A) (fun j' => xg A i' j'))) (nI i) 0 τ = some (b - sJ i (fun i' => sJ (qZ A) (fun j' => xg A i' j')) - sJ (qZ A) (fun j' => xg A i j'), nI i, v, τ1) := q1
    obtain ⟨τ', r1, r2⟩ := ih f (i + 1) b τ1 (by omega) (by omega) q2 q3
    have hs : b - sJ (i + 1) (fun i' => sJ (qZ A) (fun j' => xg A i' j')) = b - sJ i (fun i' => sJ (qZ A) (fun j' => xg A i' j')) - sJ (qZ A) (fun j' => xg A i j') := by rw [sJ_sub]; rfl
    rw [hs] at r1
    refine ⟨τ', ?_, r2⟩
    show ms_R_gap_45 (ml_R_gap_45 f) _ (nI i) τ = _
    unfold ms_R_gap_45
    rw [if_neg (by rw [hc.1.2.1, eZ]; exact nI_ge (by omega) (by omega)), q1', tb1_s]
    simp only [nI_1]
    exact r1
theorem okp_gap : ok_gap Rel := by
  intro σ τ h
  have hZ := (Bg_Z h.1).2
  have hS := (Bg_S h.1).2
  obtain ⟨σ1, q1, q2, q3, q4⟩ := holdTimes_ok h.1 (cC_r σ)
  obtain ⟨τ1, t1, t2, t3, t4, t5⟩ := takeTimes_ok h.1 (Rf_F0 (v := 0) h.2)
  have s1 := gs_l h.1 (qS σ) 4096 0 σ1 (by omega) (by omega) q2 q4
  have s1' : ml_T_gap_15 4096 0 0 σ1 = ml_T_gap_58 4096 (sJ (qS σ) (xb σ)) 0 σ1 := s1
  have u1 := rgs_l h.1 (qS σ) 4096 0 τ1 (by omega) (by omega) t2 t5
  have u1' : ml_R_gap_13 4096 0 0 τ1 = ml_R_gap_45 4096 (sJ (qS σ) (xb σ)) 0 τ1 := u1
  obtain ⟨σ2, s2, s3⟩ := go_l h.1 (qZ σ) 4096 0 (sJ (qS σ) (xb σ)) σ1 (by omega) (by omega) q2 q4
  obtain ⟨τ2, u2, u3⟩ := rgo_l h.1 (qZ σ) 4096 0 (sJ (qS σ) (xb σ)) τ1 (by omega) (by omega) t2 t5
  have z1 : ∀ x : Int64, x - sJ 0 (fun j' => sJ (qZ σ) (fun i' => xg σ i' j')) = x := fun x => Int64.sub_zero x
  have z2 : ∀ x : Int64, x - sJ 0 (fun i' => sJ (qZ σ) (fun j' => xg σ i' j')) = x := fun x => Int64.sub_zero x
  rw [z1] at s2
  rw [z2, sJ_swap] at u2
  refine ⟨sJ (qS σ) (xb σ) - sJ (qZ σ) (fun j' => sJ (qZ σ) (fun i' => xg σ i' j')), σ2, τ2, ?_, ?_, Bnd_c s3 h.1, Rf_c s3 u3⟩
  · unfold mf_T_gap
    rw [q1, tb1_s, s1']; exact s2
  · unfold mf_R_gap
    rw [t1, tb1_s, u1']; exact u2
