/-! ASSIGNING: both together -/
theorem dv_le {a b n : Nat} (h : 0 < n) : (a + b) / n ≤ a / n + b / n + 1 := by
  have e1 := Nat.div_add_mod a n
  have e2 := Nat.div_add_mod b n
  have m1 := Nat.mod_lt a h
  have m2 := Nat.mod_lt b h
  have : (a + b) / n < a / n + b / n + 2 := by
    refine Nat.div_lt_of_lt_mul ?_
    rw [Nat.mul_add, Nat.mul_add]
    omega
  omega
theorem gp_le {d p n : Nat} (hd : d ≤ 1000000) (h : 0 < n) : gp d p n ≤ 1000000 / n + 1 := by
  have e : d * (p + 1) = d * p + d := Nat.mul_succ d p
  have a1 := dv_le (a := d * p) (b := d) h
  have a2 : d / n ≤ 1000000 / n := Nat.div_le_div_right hd
  unfold gp
  rw [e]
  generalize (d * p + d) / n = X at *
  generalize d * p / n = Y at *
  generalize d / n = Z at *
  generalize 1000000 / n = Q at *
  omega
def Cn (n : Nat) : Nat := 396 * (1000000 / n + 1)
theorem E1_0 {A : tS} (hB : Bnd A) {t : Nat → Nat} (ht : ∀ s, t s ≤ 1000000) {p n i j : Nat} (hn1 : 1 ≤ n) (hi : i < qZ A) (hj : j < qZ A) (s : Nat) : E1 A t p n i j 0 s ≤ (1000000 / n + 1) * 11 := by
  have hZ := (Bg_Z hB).2
  have hN := (Bg_N hB).2
  have hk := gA_k hB ht
  have hu := hB.2.2.2.2.1.1 i hi
  have hz := hB.2.2.2.2.1.1 j hj
  show eV (gA A t) (qn A 0 j) (qn A 0 i) (gp (dd A i j) p n) s ≤ _
  unfold eV
  split
  · exact Nat.zero_le _
  · rename_i hq
    have hV := wD_V hk (show qn A 0 j < 12 by omega)
    have hl := (wP_l hk hV (wD_s hk (show qn A 0 j < 12 by omega)) _ (qn A 0 i) hq rfl).1
    have hb := wV_b hV (show qn A 0 i < 12 by omega) hq
    have hc : (wP (gA A t) (wD (gA A t) (qn A 0 j)) (qn A 0 i)).count s ≤ (wP (gA A t) (wD (gA A t) (qn A 0 j)) (qn A 0 i)).length := List.count_le_length
    exact Nat.mul_le_mul (gp_le (dd_le hB (by omega) (by omega)) (by omega)) (by omega)
theorem E1_s {A : tS} (hB : Bnd A) {t : Nat → Nat} (ht : ∀ s, t s ≤ 1000000) {p n : Nat} (hn1 : 1 ≤ n) (s : Nat) : sm (qZ A) (fun j => sm (qZ A) (fun i => E1 A t p n i j 0 s)) ≤ Cn n := by
  have hZ := (Bg_Z hB).2
  have h1 : sm (qZ A) (fun j => sm (qZ A) (fun i => E1 A t p n i j 0 s)) ≤ qZ A * (qZ A * ((1000000 / n + 1) * 11)) := sm_bd (fun j hj => sm_bd (fun i hi => E1_0 hB ht hn1 hi hj s))
  have h2 : qZ A * (qZ A * ((1000000 / n + 1) * 11)) ≤ 6 * (6 * ((1000000 / n + 1) * 11)) := Nat.mul_le_mul hZ (Nat.mul_le_mul_right _ hZ)
  unfold Cn
  omega
theorem Cn_n {n p : Nat} (hn8 : n ≤ 8) (hp : p ≤ n) : p * Cn n ≤ 500000000 := by
  have h1 : p * Cn n ≤ n * Cn n := Nat.mul_le_mul_right _ hp
  have h2 : n * (1000000 / n) ≤ 1000000 := Nat.mul_div_le _ _
  have h3 : n * Cn n = 396 * (n * (1000000 / n) + n) := by
    unfold Cn
    rw [Nat.mul_left_comm, Nat.mul_add, Nat.mul_one]
  omega
theorem allp_ok {A : tS} (hB : Bnd A) {n : Nat} (hn : A.1 3 = nI n) (hn1 : 1 ≤ n) (hn8 : n ≤ 8) : ∀ (k f p : Nat) (V : Nat → Nat) (U W : Nat → Int32) (L : Int32) (σ τ : tS), p + k = n → k < f → (∀ s, s < 40 → V s ≤ p * Cn n) → cC σ (aX A V U W L) → (∀ i' j', j' < qZ A → i' < qZ A → σ.2.1 18 (6 * i' + j') = nI (dd A i' j')) → Rf τ (aX A V U W L) → ∃ V' U' W' L' σ' τ', ml_T_assignAll_25 f (nI n) (nI p) σ = some σ' ∧ ml_R_assignAll_76 f (nI n) (nI p) τ = some τ' ∧ (∀ s, s < 40 → V' s ≤ 500000000) ∧ cC σ' (aX A V' U' W' L') ∧ Rf τ' (aX A V' U' W' L') ∧ τ'.1 0 = τ.1 0 := by
  have hZ := (Bg_Z hB).2
  intro k
  induction k with
  | zero =>
    intro f p V U W L σ τ h1 h2 hV hc h18 hR
    obtain ⟨f, rfl⟩ : ∃ q, f = q + 1 := ⟨f - 1, by omega⟩
    have e : p = n := by omega
    subst e
    refine ⟨V, U, W, L, σ, τ, ?_, ?_, fun s hs => Nat.le_trans (hV s hs) (Cn_n hn8 (Nat.le_refl _)), hc, hR, rfl⟩
    · show ms_T_assignAll_25 (ml_T_assignAll_25 f) (nI p) (nI p) σ = _
      unfold ms_T_assignAll_25
      rw [if_pos (Int32.le_refl _)]
    · show ms_R_assignAll_76 (ml_R_assignAll_76 f) (nI p) (nI p) τ = _
      unfold ms_R_assignAll_76
      rw [if_pos (Int32.le_refl _)]
  | succ k ih =>
    intro f p V U W L σ τ h1 h2 hV hc h18 hR
    obtain ⟨f, rfl⟩ : ∃ q, f = q + 1 := ⟨f - 1, by omega⟩
    have hV5 : ∀ s, s < 40 → V s ≤ 500000000 := fun s hs => Nat.le_trans (hV s hs) (Cn_n hn8 (by omega))
    have hBX : Bnd (aX A V U W L) := Bnd_X hB hV5
    have ht := tm_le (aX A V U W L)
    obtain ⟨σ1, q1, q2, q3⟩ := part_ok (U := U) (W := W) (L := L) hB hV5 hn hn1 hn8 (show p < 8 by omega) hc h18
    obtain ⟨τ1, t1, t2, t3, t4, t5⟩ := takeTimes_ok hBX hR
    have hq0 : rQ A (tm (aX A V U W L)) V U W L (fun c x => sm 0 (fun i' => sm (qZ A) (fun j' => E1 A (tm (aX A V U W L)) p n i' j' c x))) τ1 := by
      refine ⟨?_, fun s hs => ?_, t5⟩
      · have : aY A V U W L (fun c x => sm 0 (fun i' => sm (qZ A) (fun j' => E1 A (tm (aX A V U W L)) p n i' j' c x))) = aX A V U W L := aY_0
        rw [this]; exact Rv_of t2
      · rw [t2.2.2.2.2.2 s hs]
        show (nI (V s)).toInt64 = lN (V s + 0)
        rw [nI_l (by have := hV5 s hs; omega), Nat.add_zero]
    obtain ⟨τ2, v, s1, s2, s3⟩ := partRO hB ht hn1 hn8 (show p < 8 by omega) (qZ A) 4096 0 τ1 (by omega) (by omega) hq0
    have s1' : ml_R_assignAll_87 4096 (nI n) (nI p) 0 τ1 = some (nI n, nI p, v, τ2) := s1
    have esw : (fun c x => sm (qZ A) (fun i' => sm (qZ A) (fun j' => E1 A (tm (aX A V U W L)) p n i' j' c x))) = fun c x => sm (qZ A) (fun j' => sm (qZ A) (fun i' => E1 A (tm (aX A V U W L)) p n i' j' c x)) := by
      funext c x
      exact sm_swap (fun i' j' => E1 A (tm (aX A V U W L)) p n i' j' c x) (qZ A) (qZ A)
    rw [esw] at s2
    have hV' : ∀ s, s < 40 → V s + sm (qZ A) (fun j' => sm (qZ A) (fun i' => E1 A (tm (aX A V U W L)) p n i' j' 0 s)) ≤ (p + 1) * Cn n := fun s hs => by
      have a1 := hV s hs
      have a2 := E1_s (p := p) hB ht hn1 s
      rw [Nat.add_mul]; omega
    have hRf2 : Rf τ2 (aY A V U W L (fun c x => sm (qZ A) (fun j' => sm (qZ A) (fun i' => E1 A (tm (aX A V U W L)) p n i' j' c x)))) := Rf_of s2.1 (fun s hs => by
      rw [s2.2.1 s hs]
      show _ = (nI (V s + _)).toInt64
      rw [nI_l (Nat.lt_of_le_of_lt (hV' s hs) (Nat.lt_of_le_of_lt (Cn_n hn8 (by omega)) (by decide)))])
    obtain ⟨V', U', W', L', σ', τ', r1, r2, r3, r4, r5, r6⟩ := ih f (p + 1) _ _ _ _ σ1 τ2 (by omega) (by omega) hV' q2 q3 hRf2
    refine ⟨V', U', W', L', σ', τ', ?_, ?_, r3, r4, r5, by rw [r6, s3, t3]⟩
    · show ms_T_assignAll_25 (ml_T_assignAll_25 f) (nI n) (nI p) σ = _
      unfold ms_T_assignAll_25
      rw [if_neg (nI_ge (by omega) (by omega)), q1, tb1_s, nI_1]; exact r1
    · show ms_R_assignAll_76 (ml_R_assignAll_76 f) (nI n) (nI p) τ = _
      unfold ms_R_assignAll_76
      rw [if_neg (nI_ge (by omega) (by omega)), t1, tb1_s, s1', tb1_s]
      simp only [nI_1]; exact r2
/-! the reference's zeros -/
theorem z12_s (f : Nat) : ml_R_assignAll_12 (f + 1) = ms_R_assignAll_12 (ml_R_assignAll_12 f) := rfl
theorem z33_s (f : Nat) : ml_R_assignAll_33 (f + 1) = ms_R_assignAll_33 (ml_R_assignAll_33 f) := rfl
theorem z55_s (f : Nat) : ml_R_assignAll_55 (f + 1) = ms_R_assignAll_55 (ml_R_assignAll_55 f) := rfl
theorem z12_ok (v1 : Int32) : ∀ (k f i : Nat) (τ : tS), i + k = 40 → k < f → (∀ s, s < i → τ.2.2 0 s = 0) → ∃ τ', ml_R_assignAll_12 f v1 (nI i) τ = ml_R_assignAll_33 4096 v1 0 τ' ∧ τ'.1 = τ.1 ∧ τ'.2.1 = τ.2.1 ∧ ∀ s, s < 40 → τ'.2.2 0 s = 0 := by
  intro k
  induction k with
  | zero =>
    intro f i τ h1 h2 hs
    obtain ⟨f, rfl⟩ : ∃ q, f = q + 1 := ⟨f - 1, by omega⟩
    have e : i = 40 := by omega
    subst e
    refine ⟨τ, ?_, rfl, rfl, hs⟩
    rw [z12_s]
    unfold ms_R_assignAll_12
    rw [if_pos (by decide)]
  | succ k ih =>
    intro f i τ h1 h2 hs
    obtain ⟨f, rfl⟩ : ∃ q, f = q + 1 := ⟨f - 1, by omega⟩
    obtain ⟨τ', r1, r2, r3, r4⟩ := ih f (i + 1) (tJ τ 0 i 0) (by omega) (by omega) (fun s hs' => by
      rw [tJ_at]; split
      · rfl
      · exact hs s (by omega))
    refine ⟨τ', ?_, r2, r3, r4⟩
    rw [z12_s]
    unfold ms_R_assignAll_12
    rw [if_neg (show ¬ (40 : Int32) ≤ nI i from nI_ge (b := 40) (by omega) (by decide)), tg_n (by omega) (by decide), nI_clamp (by omega), nI_1]; exact r1
theorem z33_ok (v1 : Int32) : ∀ (k f i : Nat) (τ : tS), i + k = 1440 → k < f → (∀ s, s < i → τ.2.1 15 s = 0) → ∃ τ', ml_R_assignAll_33 f v1 (nI i) τ = ml_R_assignAll_55 4096 v1 0 τ' ∧ τ'.1 = τ.1 ∧ (∀ a, a ≠ 15 → τ'.2.1 a = τ.2.1 a) ∧ τ'.2.2 = τ.2.2 ∧ ∀ s, s < 1440 → τ'.2.1 15 s = 0 := by
  intro k
  induction k with
  | zero =>
    intro f i τ h1 h2 hs
    obtain ⟨f, rfl⟩ : ∃ q, f = q + 1 := ⟨f - 1, by omega⟩
    have e : i = 1440 := by omega
    subst e
    refine ⟨τ, ?_, rfl, fun _ _ => rfl, rfl, hs⟩
    rw [z33_s]
    unfold ms_R_assignAll_33
    rw [if_pos (by decide)]
  | succ k ih =>
    intro f i τ h1 h2 hs
    obtain ⟨f, rfl⟩ : ∃ q, f = q + 1 := ⟨f - 1, by omega⟩
    obtain ⟨τ', r1, r2, r3, r4, r5⟩ := ih f (i + 1) (tI τ 15 i 0) (by omega) (by omega) (fun s hs' => by
      rw [tI_at]; split
      · rfl
      · exact hs s (by omega))
    refine ⟨τ', ?_, r2, fun a ha => by rw [r3 a ha, tI_ne ha], r4, r5⟩
    rw [z33_s]
    unfold ms_R_assignAll_33
    rw [if_neg (show ¬ (1440 : Int32) ≤ nI i from nI_ge (b := 1440) (by omega) (by decide)), tg_n (by omega) (by decide), nI_clamp (by omega), nI_1]; exact r1
theorem z55_ok (v1 : Int32) : ∀ (k f i : Nat) (τ : tS), i + k = 36 → k < f → (∀ s, s < i → τ.2.1 14 s = 0) → ∃ τ', ml_R_assignAll_55 f v1 (nI i) τ = ml_R_assignAll_76 4096 v1 0 τ' ∧ τ'.1 = τ.1 ∧ (∀ a, a ≠ 14 → τ'.2.1 a = τ.2.1 a) ∧ τ'.2.2 = τ.2.2 ∧ ∀ s, s < 36 → τ'.2.1 14 s = 0 := by
  intro k
  induction k with
  | zero =>
    intro f i τ h1 h2 hs
    obtain ⟨f, rfl⟩ : ∃ q, f = q + 1 := ⟨f - 1, by omega⟩
    have e : i = 36 := by omega
    subst e
    refine ⟨τ, ?_, rfl, fun _ _ => rfl, rfl, hs⟩
    rw [z55_s]
    unfold ms_R_assignAll_55
    rw [if_pos (by decide)]
  | succ k ih =>
    intro f i τ h1 h2 hs
    obtain ⟨f, rfl⟩ : ∃ q, f = q + 1 := ⟨f - 1, by omega⟩
    obtain ⟨τ', r1, r2, r3, r4, r5⟩ := ih f (i + 1) (tI τ 14 i 0) (by omega) (by omega) (fun s hs' => by
      rw [tI_at]; split
      · rfl
      · exact hs s (by omega))
    refine ⟨τ', ?_, r2, fun a ha => by rw [r3 a ha, tI_ne ha], r4, r5⟩
    rw [z55_s]
    unfold ms_R_assignAll_55
    rw [if_neg (show ¬ (36 : Int32) ≤ nI i from nI_ge (b := 36) (by omega) (by decide)), tg_n (by omega) (by decide), nI_clamp (by omega), nI_1]; exact r1
theorem assign_ok {σ τ : tS} (h : Rel σ τ) {n : Nat} (hn1 : 1 ≤ n) (hn8 : n ≤ 8) : ∃ σ' τ', mf_T_assignAll (nI n) σ = some σ' ∧ mf_R_assignAll (nI n) τ = some τ' ∧ Rel σ' τ' ∧ τ'.1 0 = τ.1 0 ∧ σ'.1 3 = nI n := by
  obtain ⟨b1, b2, b3, b4, b5, b6⟩ := h.1
  have hBA : Bnd (tF σ 3 (nI n)) := by
    refine ⟨⟨b1.1, b1.2.1, b1.2.2.1, ⟨?_, ?_⟩, b1.2.2.2.2⟩, b2, b3, b4, b5, b6⟩
    · show nI n = nI ((nI n).toNatClampNeg); rw [nI_clamp (by omega)]
    · show (nI n).toNatClampNeg ≤ 8; rw [nI_clamp (by omega)]; exact hn8
  have hc0 : cC (tIf (tIf (tIf (tF (tF σ 3 (nI n)) 4 0) 19 0) 20 0) 15 0) (aX (tF σ 3 (nI n)) (fun _ => 0) (fun _ => 0) (fun _ => 0) 0) := by
    refine ⟨rfl, fun a _ _ _ _ _ => ?_⟩
    show (if a = 15 then (fun _ => (0 : Int32)) else if a = 20 then (fun _ => (0 : Int32)) else if a = 19 then (fun _ => (0 : Int32)) else σ.2.1 a) = (if a = 15 then (fun k => nI 0) else if a = 19 then (fun _ => (0 : Int32)) else if a = 20 then (fun _ => (0 : Int32)) else σ.2.1 a)
    by_cases e15 : a = 15
    · rw [if_pos e15, if_pos e15]; rfl
    · rw [if_neg e15, if_neg e15]
      by_cases e20 : a = 20
      · rw [if_pos e20, if_neg (by omega), if_pos e20]
      · rw [if_neg e20]
        by_cases e19 : a = 19
        · rw [if_pos e19, if_pos e19]
        · rw [if_neg e19, if_neg e19, if_neg e20]
  have hBX : Bnd (aX (tF σ 3 (nI n)) (fun _ => 0) (fun _ => 0) (fun _ => 0) 0) := Bnd_X hBA (fun _ _ => Nat.zero_le _)
  obtain ⟨σ1, q1, q2, q3⟩ := gather_ok hBX hc0
  obtain ⟨τ1, t1, t2, t3, t4⟩ := z12_ok (nI n) 40 4096 0 (tF (tF τ 4 (nI n)) 5 0) (by decide) (by decide) (fun s hs => by omega)
  obtain ⟨τ2, u1, u2, u3, u4, u5⟩ := z33_ok (nI n) 1440 4096 0 τ1 (by decide) (by decide) (fun s hs => by omega)
  obtain ⟨τ3, w1, w2, w3, w4, w5⟩ := z55_ok (nI n) 36 4096 0 τ2 (by decide) (by decide) (fun s hs => by omega)
  have e15 : ∀ x, x < 1440 → τ3.2.1 15 x = 0 := fun x hx => by rw [w3 15 (by decide)]; exact u5 x hx
  have eI : ∀ a, a ≠ 14 → a ≠ 15 → τ3.2.1 a = τ.2.1 a := fun a h14 h15 => by rw [w3 a h14, u3 a h15, t3]; rfl
  have eF : τ3.1 = (tF (tF τ 4 (nI n)) 5 0).1 := by rw [w2, u2, t2]
  have hR3 : Rf τ3 (aX (tF σ 3 (nI n)) (fun _ => 0) (fun _ => 0) (fun _ => 0) 0) := by
    obtain ⟨⟨r11, r12, r13, r14, r15⟩, r2, r3, r4, r5, r6⟩ := h.2
    refine ⟨⟨by rw [eF]; exact r11, by rw [eF]; exact r12, by rw [eF]; exact r13, by rw [eF]; rfl, by rw [eF]; rfl⟩, fun a k hk => ?_, fun k hk => ?_, fun k hk => ?_, fun k hk => ?_, fun k hk => ?_⟩
    · by_cases e19 : a = 19
      · subst e19; exact w5 k hk
      · by_cases e20 : a = 20
        · subst e20; exact e15 k hk
        · have e15' : a ≠ 15 := fun e => by rw [e] at hk; exact rs_15 hk
          rw [eI (rm a) (fun e => e19 (rm_14 e)) (fun e => e20 (rm_15 e)), aX_ne ⟨e15', e19, e20⟩]
          exact r2 a k hk
    · rw [eI 7 (by decide) (by decide)]; exact r3 k hk
    · rw [eI 10 (by decide) (by decide)]; exact r4 k hk
    · rw [eI 9 (by decide) (by decide)]; exact r5 k hk
    · rw [w4, u4, t4 k hk]; rfl
  obtain ⟨V', U', W', L', σ', τ', r1, r2, r3, r4, r5, r6⟩ := allp_ok hBA (n := n) rfl hn1 hn8 n 4096 0 (fun _ => 0) (fun _ => 0) (fun _ => 0) 0 σ1 τ3 (by omega) (by omega) (fun _ _ => Nat.zero_le _) q2 q3 hR3
  refine ⟨σ', τ', ?_, ?_, ⟨Bnd_c r4 (Bnd_X hBA r3), Rf_c r4 r5⟩, by rw [r6, eF]; rfl, by rw [r4.1]; rfl⟩
  · unfold mf_T_assignAll mf_A_begin
    rw [tb1_s, q1, tb1_s]
    exact r1
  · show ml_R_assignAll_12 4096 (nI n) 0 (tF (tF τ 4 (nI n)) 5 0) = _
    have t1' : ml_R_assignAll_12 4096 (nI n) 0 (tF (tF τ 4 (nI n)) 5 0) = ml_R_assignAll_33 4096 (nI n) 0 τ1 := t1
    have u1' : ml_R_assignAll_33 4096 (nI n) 0 τ1 = ml_R_assignAll_55 4096 (nI n) 0 τ2 := u1
    have w1' : ml_R_assignAll_55 4096 (nI n) 0 τ2 = ml_R_assignAll_76 4096 (nI n) 0 τ3 := w1
    rw [t1', u1', w1']
    exact r2
theorem okp_assign : ok_assign Rel := by
  intro σ τ f p0 h
  rcases nd_in p0 1 8 σ τ with ⟨a0, b0⟩ | ⟨l0, u0, a0, c0, b0⟩
  · exact op_fail (f := f) h (by simp only [lf_assign, mx_T_assign, a0, tx_s, lf1_s]) (by simp only [mf_R_assign, b0, tb2_s, ↓reduceIte, i10])
  have l0' : ¬ p0 < 0 := by
    rw [Int32.lt_iff_toInt_lt] at *
    have v1 : (1 : Int32).toInt = 1 := rfl
    have v2 : (0 : Int32).toInt = 0 := rfl
    omega
  obtain ⟨n, hn, hp0⟩ := nd_nat (n := 8) rfl l0' u0
  have hn1 : 1 ≤ n := by
    rw [hp0, Int32.lt_iff_toInt_lt, nI_toInt (by omega)] at l0
    have v1 : (1 : Int32).toInt = 1 := rfl
    omega
  subst hp0
  obtain ⟨σ', τ', r1, r2, r3, r4, r5⟩ := assign_ok (τ := tF τ 0 0) ⟨h.1, Rf_F0 h.2⟩ hn1 hn
  exact op_win (f := f) (v := σ'.1 4) (σ' := σ') (τ' := τ') (by simp only [lf_assign, mx_T_assign, mf_T_assign, a0, c0, tb1_s, tb2_s, tx_n, lf1_n, r1]) (by simp only [mf_R_assign, b0, tb2_s, ↓reduceIte, i00, i1n, r2, tb1_s, r3.2.1.2.2.2.2]) (by rw [r4]; rfl) r3
