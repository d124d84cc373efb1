/-! TIMES, AND WHAT IS ASKED OF WAYS -/
def cC (σ A : tS) : Prop := σ.1 = A.1 ∧ ∀ a, a ≠ 16 → a ≠ 17 → a ≠ 18 → a ≠ 21 → a ≠ 22 → σ.2.1 a = A.2.1 a
theorem cC_r (A : tS) : cC A A := ⟨rfl, fun _ _ _ _ _ _ => rfl⟩
theorem cC_t {σ ρ A : tS} (h : cC σ ρ) (h' : cC ρ A) : cC σ A := ⟨h.1.trans h'.1, fun a a1 a2 a3 a4 a5 => (h.2 a a1 a2 a3 a4 a5).trans (h'.2 a a1 a2 a3 a4 a5)⟩
theorem cC_I {σ A : tS} {a k : Nat} {v : Int32} (h : cC σ A) (ha : a = 16 ∨ a = 17 ∨ a = 18 ∨ a = 21 ∨ a = 22) : cC (tI σ a k v) A := ⟨h.1, fun b b1 b2 b3 b4 b5 => by rw [tI_ne (by omega)]; exact h.2 b b1 b2 b3 b4 b5⟩
theorem bs_c {a k : Nat} (h : k < bs a) : a < 16 := by
  unfold bs at h
  by_cases e : a < 16
  · exact e
  · rw [if_neg (by omega), if_neg (by omega), if_neg (by omega), if_neg (by omega), if_neg (by omega), if_neg (by omega)] at h; omega
theorem rs_c {a k : Nat} (h : k < rs a) : a ≠ 16 ∧ a ≠ 17 ∧ a ≠ 18 ∧ a ≠ 21 ∧ a ≠ 22 := by
  refine ⟨?_, ?_, ?_, ?_, ?_⟩ <;> (intro e; subst e; exact absurd h (by simp [rs]))
theorem Bnd_c {σ A : tS} (h : cC σ A) (hB : Bnd A) : Bnd σ := by
  obtain ⟨h1, h2⟩ := h
  obtain ⟨b1, b2, b3, b4, b5, b6⟩ := hB
  have e : ∀ a, a < 16 → σ.2.1 a = A.2.1 a := fun a ha => h2 a (by omega) (by omega) (by omega) (by omega) (by omega)
  have q : ∀ a k, a < 16 → qn σ a k = qn A a k := fun a k ha => by unfold qn; rw [e a ha]
  have eN : qN σ = qN A := by unfold qN; rw [h1]
  have eZ : qZ σ = qZ A := by unfold qZ; rw [h1]
  have eS : qS σ = qS A := by unfold qS; rw [h1]
  have eP : qP σ = qP A := by unfold qP; rw [h1]
  refine ⟨⟨?_, ?_, ?_, ?_, fun a k hk => ?_⟩, ⟨fun k hk => ?_, fun k g1 g2 => ?_⟩, ⟨fun k hk => ?_, fun k g1 g2 => ?_⟩, fun k hk => ?_, ⟨fun k hk => ?_, fun k hk => ?_⟩, fun i j hi hj hz => ?_⟩
  · rw [eN, h1]; exact b1.1
  · rw [eZ, h1]; exact b1.2.1
  · rw [eS, h1]; exact b1.2.2.1
  · rw [eP, h1]; exact b1.2.2.2.1
  · rw [e a (bs_c hk), q a k (bs_c hk)]; exact b1.2.2.2.2 a k hk
  · rw [e 5 (by decide), q 5 k (by decide)]; exact b2.1 k hk
  · rw [e 5 (by decide)]; rw [eZ] at g1; exact b2.2 k g1 g2
  · rw [e 14 (by decide), q 14 k (by decide)]; exact b3.1 k hk
  · rw [e 14 (by decide)]; rw [eS] at g1; exact b3.2 k g1 g2
  · rw [q 11 k (by decide)]; exact b4 k hk
  · rw [q 0 k (by decide), eN]; rw [eZ] at hk; exact b5.1 k hk
  · rw [q 7 k (by decide), q 8 k (by decide), eN]; rw [eS] at hk; exact b5.2 k hk
  · rw [e 4 (by decide)]; rw [eZ] at hz; exact b6 i j hi hj hz
theorem Rf_c {σ A τ : tS} (h : cC σ A) (hR : Rf τ A) : Rf τ σ := by
  obtain ⟨h1, h2⟩ := h
  obtain ⟨r1, r2, r3, r4, r5, r6⟩ := hR
  have e : ∀ a, a < 16 → σ.2.1 a = A.2.1 a := fun a ha => h2 a (by omega) (by omega) (by omega) (by omega) (by omega)
  have eS : qS σ = qS A := by unfold qS; rw [h1]
  refine ⟨by rw [h1]; exact r1, fun a k hk => ?_, fun k hk => ?_, fun k hk => ?_, fun k hk => ?_, fun k hk => ?_⟩
  · obtain ⟨a1, a2, a3, a4, a5⟩ := rs_c hk
    rw [h2 a a1 a2 a3 a4 a5]; exact r2 a k hk
  · rw [e 11 (by decide)]; rw [eS] at hk; exact r3 k hk
  · rw [e 14 (by decide)]; rw [eS] at hk; exact r4 k hk
  · rw [e 13 (by decide), eS]; exact r5 k hk
  · rw [e 15 (by decide)]; exact r6 k hk
theorem Rf_o {τ τ' A : tS} (h : Rf τ A) (h1 : ∀ i, i ≠ 0 → i ≠ 6 → τ'.1 i = τ.1 i) (h2 : ∀ a, a ≠ 17 → a ≠ 18 → a ≠ 19 → τ'.2.1 a = τ.2.1 a) (h3 : τ'.2.2 0 = τ.2.2 0) : Rf τ' A := by
  obtain ⟨r1, r2, r3, r4, r5, r6⟩ := h
  refine ⟨by rw [h1 1 (by decide) (by decide), h1 2 (by decide) (by decide), h1 3 (by decide) (by decide), h1 4 (by decide) (by decide), h1 5 (by decide) (by decide)]; exact r1, fun a k hk => ?_, fun k hk => ?_, fun k hk => ?_, fun k hk => ?_, fun k hk => ?_⟩
  · have := rm_ne a
    rw [h2 (rm a) (by omega) (by omega) (by omega)]; exact r2 a k hk
  · rw [h2 7 (by decide) (by decide) (by decide)]; exact r3 k hk
  · rw [h2 10 (by decide) (by decide) (by decide)]; exact r4 k hk
  · rw [h2 9 (by decide) (by decide) (by decide)]; exact r5 k hk
  · rw [h3]; exact r6 k hk
theorem tz_n {α : Type} {n : Nat} {o : Option α} (h0 : 0 < n) (h : n < 2 ^ 63) : tz (lN n) o = o := if_neg (fun q => by
  have q' : lN n = lN 0 := q
  rw [pk_lEQ h (by decide)] at q'
  omega)
def tm0 (A : tS) (s : Nat) : Nat := qn A 9 s + qn A 10 s * qn A 15 s / qn A 11 s + qn A 12 s
def tm (A : tS) (s : Nat) : Nat := if 1000000 < tm0 A s then 1000000 else tm0 A s
theorem tm_le (A : tS) (s : Nat) : tm A s ≤ 1000000 := by unfold tm; split <;> omega
theorem tm0_b {A : tS} (hB : Bnd A) {s : Nat} (hs : s < 40) : qn A 10 s * qn A 15 s ≤ 500000000000 ∧ tm0 A s ≤ 600000000000 := by
  have b1 : qn A 9 s ≤ 1000 := Bg_b hB 9 (k := s) hs
  have b2 : qn A 10 s ≤ 1000 := Bg_b hB 10 (k := s) hs
  have b3 : qn A 15 s ≤ 500000000 := Bg_b hB 15 (k := s) hs
  have b4 : qn A 12 s ≤ 1000 := Bg_b hB 12 (k := s) hs
  have m : qn A 10 s * qn A 15 s ≤ 1000 * 500000000 := Nat.mul_le_mul b2 b3
  have d : qn A 10 s * qn A 15 s / qn A 11 s ≤ qn A 10 s * qn A 15 s := Nat.div_le_self _ _
  unfold tm0
  omega
theorem timeOf_ok {σ A : tS} (hB : Bnd A) (h : cC σ A) {s : Nat} (hs : s < 40) : mf_S_timeOf (nI s) σ = some (nI (tm A s), σ) := by
  have T1 : ∀ {α : Type} (o : Option α), tg (nI s) 40 o = o := fun o => tg_n hs (by decide)
  have C1 : (nI s).toNatClampNeg = s := nI_clamp (by omega)
  have e : ∀ a, a < 16 → σ.2.1 a = A.2.1 a := fun a ha => h.2 a (by omega) (by omega) (by omega) (by omega) (by omega)
  have b1 : qn A 9 s ≤ 1000 := Bg_b hB 9 (k := s) hs
  have b2 : qn A 10 s ≤ 1000 := Bg_b hB 10 (k := s) hs
  have b3 : qn A 15 s ≤ 500000000 := Bg_b hB 15 (k := s) hs
  have b4 : qn A 12 s ≤ 1000 := Bg_b hB 12 (k := s) hs
  have b5 : qn A 11 s ≤ 1000000 := Bg_b hB 11 (k := s) hs
  have b6 : 1 ≤ qn A 11 s := hB.2.2.2.1 s hs
  obtain ⟨m1, m2⟩ := tm0_b hB hs
  unfold mf_S_timeOf
  simp only [T1, C1, e 9 (by decide), e 10 (by decide), e 11 (by decide), e 12 (by decide), e 15 (by decide), Bg_q hB 9 (k := s) hs, Bg_q hB 10 (k := s) hs, Bg_q hB 11 (k := s) hs, Bg_q hB 12 (k := s) hs, Bg_q hB 15 (k := s) hs]
  rw [nI_l (by omega), nI_l (by omega), nI_l (by omega), nI_l (by omega), nI_l (by omega), lN_mul, pk_lDiv (by omega) (by omega) (by omega), lN_add, lN_add]
  rw [tz_n (by omega) (by omega)]
  show some ((if lN 1000000 < lN (tm0 A s) then lN 1000000 else lN (tm0 A s)).toInt32, σ) = _
  unfold tm
  by_cases hc : 1000000 < tm0 A s
  · rw [if_pos hc, if_pos (by rw [pk_lLT (by decide) (by omega)]; exact hc), lN_i]
  · rw [if_neg hc, if_neg (by rw [pk_lLT (by decide) (by omega)]; exact hc), lN_i]
theorem hold_ok {A : tS} (hB : Bnd A) : ∀ (k m i : Nat) (σ : tS), i + k = qS A → k < m → cC σ A → (∀ s, s < i → σ.2.1 16 s = nI (tm A s)) → ∃ σ', ml_W_holdTimes_2 m (nI i) σ = some σ' ∧ cC σ' A ∧ (∀ a, a ≠ 16 → σ'.2.1 a = σ.2.1 a) ∧ ∀ s, s < qS A → σ'.2.1 16 s = nI (tm A s) := by
  obtain ⟨eS, hS⟩ := Bg_S hB
  intro k
  induction k with
  | zero =>
    intro m i σ h1 h2 hc ht
    obtain ⟨m, rfl⟩ : ∃ q, m = q + 1 := ⟨m - 1, by omega⟩
    have e : i = qS A := by omega
    refine ⟨σ, ?_, hc, fun _ _ => rfl, by rw [← e]; exact ht⟩
    show ms_W_holdTimes_2 (ml_W_holdTimes_2 m) (nI i) σ = _
    unfold ms_W_holdTimes_2
    rw [if_pos (by rw [hc.1, eS, e]; exact Int32.le_refl _)]
  | succ k ih =>
    intro m i σ h1 h2 hc ht
    obtain ⟨m, rfl⟩ : ∃ q, m = q + 1 := ⟨m - 1, by omega⟩
    show ∃ σ', ms_W_holdTimes_2 (ml_W_holdTimes_2 m) (nI i) σ = _ ∧ _
    unfold ms_W_holdTimes_2
    rw [if_neg (by rw [hc.1, eS]; exact nI_ge (by omega) (by omega)), timeOf_ok hB hc (by omega), tb2_s, tg_n (by omega) (by decide), nI_clamp (by omega), nI_1]
    obtain ⟨σ', r1, r2, r3, r4⟩ := ih m (i + 1) (tI σ 16 i (nI (tm A i))) (by omega) (by omega) (cC_I hc (Or.inl rfl)) (fun s hs => by
      rw [tI_at]; split
      · rename_i q; rw [q]
      · exact ht s (by omega))
    exact ⟨σ', r1, r2, fun a ha => by rw [r3 a ha, tI_ne ha], r4⟩
theorem holdTimes_ok {σ A : tS} (hB : Bnd A) (hc : cC σ A) : ∃ σ', mf_W_holdTimes σ = some σ' ∧ cC σ' A ∧ (∀ a, a ≠ 16 → σ'.2.1 a = σ.2.1 a) ∧ ∀ s, s < qS A → σ'.2.1 16 s = nI (tm A s) :=
  hold_ok hB (qS A) 4096 0 σ (by omega) (by have := (Bg_S hB).2; omega) hc (fun s hs => by omega)
theorem timeR_ok {τ A : tS} (hB : Bnd A) (h : Rf τ A) {s : Nat} (hs : s < qS A) : mf_R_timeOf (nI s) τ = some (lN (tm A s), τ) := by
  obtain ⟨eS, hS⟩ := Bg_S hB
  have hs4 : s < 40 := by omega
  have T1 : ∀ {α : Type} (o : Option α), tg (nI s) 40 o = o := fun o => tg_n (by omega) (by decide)
  have C1 : (nI s).toNatClampNeg = s := nI_clamp (by omega)
  have b1 : qn A 9 s ≤ 1000 := Bg_b hB 9 (k := s) hs4
  have b2 : qn A 10 s ≤ 1000 := Bg_b hB 10 (k := s) hs4
  have b3 : qn A 15 s ≤ 500000000 := Bg_b hB 15 (k := s) hs4
  have b4 : qn A 12 s ≤ 1000 := Bg_b hB 12 (k := s) hs4
  have b5 : qn A 11 s ≤ 1000000 := Bg_b hB 11 (k := s) hs4
  have b6 : 1 ≤ qn A 11 s := hB.2.2.2.1 s hs4
  obtain ⟨m1, m2⟩ := tm0_b hB hs4
  have e5 : τ.2.1 5 s = nI (qn A 9 s) := (Rf_r h 9 (k := s) hs4).trans (Bg_q hB 9 (k := s) hs4)
  have e6 : τ.2.1 6 s = nI (qn A 10 s) := (Rf_r h 10 (k := s) hs4).trans (Bg_q hB 10 (k := s) hs4)
  have e8 : τ.2.1 8 s = nI (qn A 12 s) := (Rf_r h 12 (k := s) hs4).trans (Bg_q hB 12 (k := s) hs4)
  have e7 : τ.2.1 7 s = nI (qn A 11 s) := (h.2.2.1 s hs).trans (Bg_q hB 11 (k := s) hs4)
  have eV : τ.2.2 0 s = lN (qn A 15 s) := by rw [h.2.2.2.2.2 s hs4, Bg_q hB 15 (k := s) hs4, nI_l (by omega)]
  unfold mf_R_timeOf
  simp only [T1, C1, e5, e6, e7, e8, eV]
  rw [nI_l (by omega), nI_l (by omega), nI_l (by omega), nI_l (by omega), lN_mul, pk_lDiv (by omega) (by omega) (by omega), lN_add, lN_add]
  rw [tz_n (by omega) (by omega)]
  show (if lg_cmp (lN (tm0 A s)) (lN 1000000) ≤ 0 then some (lN (tm0 A s), τ) else some (lN 1000000, τ)) = _
  unfold tm
  by_cases hc : 1000000 < tm0 A s
  · rw [if_pos hc, if_neg (by rw [lg_cmp_le, pk_lLE (by omega) (by decide)]; omega)]
  · rw [if_neg hc, if_pos (by rw [lg_cmp_le, pk_lLE (by omega) (by decide)]; omega)]
theorem take_ok {A : tS} (hB : Bnd A) : ∀ (k m i : Nat) (τ : tS), i + k = qS A → k < m → Rf τ A → (∀ s, s < i → τ.2.2 3 s = lN (tm A s)) → ∃ τ', ml_R_takeTimes_2 m (nI i) τ = some τ' ∧ Rf τ' A ∧ τ'.1 = τ.1 ∧ τ'.2.1 = τ.2.1 ∧ ∀ s, s < qS A → τ'.2.2 3 s = lN (tm A s) := by
  obtain ⟨eS, hS⟩ := Bg_S hB
  intro k
  induction k with
  | zero =>
    intro m i τ h1 h2 hc ht
    obtain ⟨m, rfl⟩ : ∃ q, m = q + 1 := ⟨m - 1, by omega⟩
    have e : i = qS A := by omega
    refine ⟨τ, ?_, hc, rfl, rfl, by rw [← e]; exact ht⟩
    show ms_R_takeTimes_2 (ml_R_takeTimes_2 m) (nI i) τ = _
    unfold ms_R_takeTimes_2
    rw [if_pos (by rw [hc.1.2.2.1, eS, e]; exact Int32.le_refl _)]
  | succ k ih =>
    intro m i τ h1 h2 hc ht
    obtain ⟨m, rfl⟩ : ∃ q, m = q + 1 := ⟨m - 1, by omega⟩
    show ∃ τ', ms_R_takeTimes_2 (ml_R_takeTimes_2 m) (nI i) τ = _ ∧ _
    unfold ms_R_takeTimes_2
    rw [if_neg (by rw [hc.1.2.2.1, eS]; exact nI_ge (by omega) (by omega)), timeR_ok hB hc (by omega), tb2_s, tg_n (by omega) (by decide), nI_clamp (by omega), nI_1]
    obtain ⟨τ', r1, r2, r3, r4, r5⟩ := ih m (i + 1) (tJ τ 3 i (lN (tm A i))) (by omega) (by omega) (Rf_Js (by decide) hc) (fun s hs => by
      rw [tJ_at]; split
      · rename_i q; rw [q]
      · exact ht s (by omega))
    exact ⟨τ', r1, r2, r3, r4, r5⟩
theorem takeTimes_ok {τ A : tS} (hB : Bnd A) (hc : Rf τ A) : ∃ τ', mf_R_takeTimes τ = some τ' ∧ Rf τ' A ∧ τ'.1 = τ.1 ∧ τ'.2.1 = τ.2.1 ∧ ∀ s, s < qS A → τ'.2.2 3 s = lN (tm A s) :=
  take_ok hB (qS A) 4096 0 τ (by omega) (by have := (Bg_S hB).2; omega) hc (fun s hs => by omega)
/-! the net of a state, with times that are held -/
def gA (A : tS) (t : Nat → Nat) : wG := (qS A, qn A 7, qn A 8, t, qn A 13)
theorem gA_k {A : tS} (hB : Bnd A) {t : Nat → Nat} (ht : ∀ s, t s ≤ 1000000) : wGk (gA A t) := fun s hs => by
  have hN := (Bg_N hB).2
  obtain ⟨h1, h2⟩ := hB.2.2.2.2.1.2 s hs
  exact ⟨show qn A 7 s < 12 by omega, show qn A 8 s < 12 by omega, ht s⟩
theorem gA_C {σ A : tS} (hB : Bnd A) (h : cC σ A) {t : Nat → Nat} (ht : ∀ s, s < qS A → σ.2.1 16 s = nI (t s)) : nC (gA A t) σ := by
  obtain ⟨eS, hS⟩ := Bg_S hB
  have e : ∀ a, a < 16 → σ.2.1 a = A.2.1 a := fun a ha => h.2 a (by omega) (by omega) (by omega) (by omega) (by omega)
  refine ⟨by rw [h.1]; exact eS, hS, fun s hs => ?_⟩
  have hs4 : s < 40 := Nat.lt_of_lt_of_le hs hS
  rw [e 7 (by decide), e 8 (by decide), e 13 (by decide)]
  exact ⟨Bg_q hB 7 (k := s) hs4, Bg_q hB 8 (k := s) hs4, ⟨Bg_q hB 13 (k := s) hs4, Bg_b hB 13 (k := s) hs4⟩, ht s hs⟩
theorem gA_R {τ A : tS} (hB : Bnd A) (h : Rf τ A) {t : Nat → Nat} (ht : ∀ s, s < qS A → τ.2.2 3 s = lN (t s)) : nR (gA A t) (qN A) τ := by
  obtain ⟨eS, hS⟩ := Bg_S hB
  obtain ⟨eN, hN⟩ := Bg_N hB
  refine ⟨by rw [h.1.1]; exact eN, hN, by rw [h.1.2.2.1]; exact eS, hS, fun s hs => ?_⟩
  have hs4 : s < 40 := Nat.lt_of_lt_of_le hs hS
  obtain ⟨p1, p2⟩ := hB.2.2.2.2.1.2 s hs
  have r9 := h.2.2.2.2.1 s hs4
  have q13 := Bg_q hB 13 (k := s) hs4
  have b13 : qn A 13 s ≤ 1 := Bg_b hB 13 (k := s) hs4
  refine ⟨(Rf_r h 7 (k := s) hs4).trans (Bg_q hB 7 (k := s) hs4), p1, (Rf_r h 8 (k := s) hs4).trans (Bg_q hB 8 (k := s) hs4), p2, ?_, ht s hs⟩
  rw [r9]
  show _ = if qn A 13 s = 0 then 1 else 0
  have hns : ¬ qS A ≤ s := by have : s < qS A := hs; omega
  by_cases h0 : qn A 13 s = 0
  · rw [if_pos h0, if_neg (fun q => q.elim hns (fun q => q (by rw [q13, h0]; rfl)))]
  · rw [if_neg h0, if_pos (Or.inr (by rw [q13]; exact nI_ne0 (by omega) (by omega)))]
theorem okp_flow : ok_flow Rel := by
  intro σ τ f p0 p1 h
  obtain ⟨eS, hS⟩ := Bg_S h.1
  rcases nd_street h p0 with ⟨a0, b0⟩ | ⟨k0, hk0, hp0, a0, c0, b0⟩
  · exact op_fail (f := f) h (by simp only [lf_flow, mx_T_flow, a0, tx_s, lf1_s]) (by simp only [mf_R_flow, b0, tb2_s, ↓reduceIte, i10])
  rcases nd_in p1 0 1 σ τ with ⟨a1, b1⟩ | ⟨l1, u1, a1, c1, b1⟩
  · exact op_fail (f := f) h (by simp only [lf_flow, mx_T_flow, a0, c0, a1, tb1_s, tx_n, tx_s, lf1_s]) (by simp only [mf_R_flow, b0, b1, tb2_s, ↓reduceIte, i10, i1n])
  subst hp0
  have T1 : ∀ {α : Type} (o : Option α), tg (nI k0) 40 o = o := fun o => tg_n (by omega) (by decide)
  have C1 : (nI k0).toNatClampNeg = k0 := nI_clamp (by omega)
  have hk4 : k0 < 40 := by omega
  by_cases hw : p1 = 0
  · have b3 : qn σ 15 k0 ≤ 500000000 := Bg_b h.1 15 (k := k0) hk4
    have eV : τ.2.2 0 k0 = lN (qn σ 15 k0) := by rw [h.2.2.2.2.2.2 k0 hk4, Bg_q h.1 15 (k := k0) hk4, nI_l (by omega)]
    exact op_win (f := f) (v := σ.2.1 15 k0) (σ' := σ) (τ' := tF τ 0 0) (by simp only [lf_flow, mx_T_flow, mf_T_flow, a0, c0, a1, c1, tb1_s, tb2_s, tx_n, lf1_n, if_pos hw, T1, C1]) (by simp only [mf_R_flow, b0, b1, tb2_s, ↓reduceIte, i00, i1n, if_pos hw, T1, C1, eV, lN_i, Bg_q h.1 15 (k := k0) hk4]) rfl ⟨h.1, Rf_F0 h.2⟩
  · have e1 := timeOf_ok h.1 (cC_r σ) hk4
    have e2 := timeR_ok h.1 (Rf_F0 (v := 0) h.2) hk0
    exact op_win (f := f) (v := nI (tm σ k0)) (σ' := σ) (τ' := tF τ 0 0) (by simp only [lf_flow, mx_T_flow, mf_T_flow, a0, c0, a1, c1, tb1_s, tb2_s, tx_n, lf1_n, if_neg hw, e1]) (by simp only [mf_R_flow, b0, b1, tb2_s, ↓reduceIte, i00, i1n, if_neg hw, e2, lN_i]) rfl ⟨h.1, Rf_F0 h.2⟩
theorem okp_least : ok_least Rel := by
  intro σ τ f p0 p1 h
  obtain ⟨eN, hN⟩ := Bg_N h.1
  rcases nd_node h p0 with ⟨a0, b0⟩ | ⟨u, hu, hp0, a0, c0, b0⟩
  · exact op_fail (f := f) h (by simp only [lf_least, mx_T_least, a0, tx_s, lf1_s]) (by simp only [mf_R_least, b0, tb2_s, ↓reduceIte, i10])
  rcases nd_node h p1 with ⟨a1, b1⟩ | ⟨z, hz, hp1, a1, c1, b1⟩
  · exact op_fail (f := f) h (by simp only [lf_least, mx_T_least, a0, c0, a1, tb1_s, tx_n, tx_s, lf1_s]) (by simp only [mf_R_least, b0, b1, tb2_s, ↓reduceIte, i10, i1n])
  subst hp0 hp1
  have hk := gA_k h.1 (t := tm σ) (tm_le σ)
  obtain ⟨σ1, q1, q2, q3, q4⟩ := holdTimes_ok h.1 (cC_r σ)
  obtain ⟨σ2, s1, s2, s3, s4, s5⟩ := aim_ok hk (show z < 12 by omega) (gA_C h.1 q2 q4)
  have s6 := timeFrom_ok hk (show z < 12 by omega) s4 (show u < 12 by omega)
  obtain ⟨τ1, t1, t2, t3, t4, t5⟩ := takeTimes_ok h.1 (Rf_F0 (v := 0) h.2)
  obtain ⟨τ2, w1, w2, w3, w4, w5⟩ := findNear_ok hk hz (gA_R h.1 t2 t5)
  have w6 := (w5 u hu).1
  have hc2 : cC σ2 σ := cC_t ⟨s2, fun a _ a2 _ _ _ => s3 a a2⟩ q2
  have T1 : ∀ {α : Type} (o : Option α), tg (nI u) 12 o = o := fun o => tg_n (by omega) (by decide)
  have C1 : (nI u).toNatClampNeg = u := nI_clamp (by omega)
  have hRf : Rf τ2 σ := Rf_o t2 (fun i _ _ => by rw [w2]) (fun a _ h2 _ => w3 a h2) (w4 0 (by decide))
  refine op_win (f := f) (v := if wD (gA σ (tm σ)) z u = wI then -1 else nI (wD (gA σ (tm σ)) z u / 64)) (σ' := σ2) (τ' := τ2) (by simp only [lf_least, mx_T_least, mf_T_least, a0, c0, a1, c1, tb1_s, tb2_s, tx_n, lf1_n, q1, s1, s6]) ?_ (by rw [w2, t3]; rfl) ⟨Bnd_c hc2 h.1, Rf_c hc2 hRf⟩
  simp only [mf_R_least, b0, b1, tb2_s, ↓reduceIte, i00, i1n, t1, tb1_s, w1, T1, C1, w6]
  have hb := wV_b (wD_V hk (show z < 12 by omega)) (show u < 12 by omega)
  by_cases hq : wD (gA σ (tm σ)) z u = wI
  · rw [if_pos hq, if_pos ((dn_f (fun q => absurd hq q)).mpr hq)]
  · rw [if_neg hq, if_neg (fun q => hq ((dn_f (fun _ => (hb hq).2)).mp q)), dn_n hq, lN_i]
theorem at_ok {g : wG} {z : Nat} (hk : wGk g) (hz : z < 12) {σ : tS} (hn : nC g σ) (hx : ∀ v, v < 12 → σ.2.1 17 v = wx (wn g (wD g z) v g.1)) {K : Nat} (hK : K < 2 ^ 31) : ∀ (f m u j : Nat) (v2 : Int32), wD g z u % 64 = f → u < 12 → wD g z u ≠ wI → f < m → j + f ≤ 12 → j ≤ K → ml_W_streetAt_11 m (nI K) v2 (wx (wn g (wD g z) u g.1)) (nI j) σ = some (if K - j < (wP g (wD g z) u).length then nI ((wP g (wD g z) u).getD (K - j) 0) else -1, σ) := by
  have hV := wD_V hk hz
  have hst := wD_s hk hz
  have hg40 := hn.2.1
  intro f
  have atn : ∀ (m j : Nat) (v2 : Int32), 0 < m → ml_W_streetAt_11 m (nI K) v2 (-1) (nI j) σ = some (-1, σ) := by
    intro m j v2 hm
    obtain ⟨m, rfl⟩ : ∃ q, m = q + 1 := ⟨m - 1, by omega⟩
    show ms_W_streetAt_11 (ml_W_streetAt_11 m) (nI K) v2 (-1) (nI j) σ = _
    unfold ms_W_streetAt_11
    rw [if_pos (show (-1 : Int32) = -1 from rfl)]
    split
    · rfl
    · split <;> rfl
  induction f with
  | zero =>
    intro m u j v2 h0 hu hf hm hj hjK
    have e := (wP_l hk hV hst 0 u hf h0).2.2 rfl
    subst e
    rw [wP_z hV, wn_z hV, if_neg (by simp)]
    exact atn m j v2 (by omega)
  | succ f ih =>
    intro m u j v2 h0 hu hf hm hj hjK
    by_cases e : u = z
    · subst e
      rw [wP_z hV, wn_z hV, if_neg (by simp)]
      exact atn m j v2 (by omega)
    obtain ⟨s, s1, s2, s3, s4, s5, s6, s7⟩ := wP_s hk hV hst hf e
    obtain ⟨m, rfl⟩ : ∃ q, m = q + 1 := ⟨m - 1, by omega⟩
    rw [s1, s7]
    show ms_W_streetAt_11 (ml_W_streetAt_11 m) (nI K) v2 (nI s) (nI j) σ = _
    unfold ms_W_streetAt_11
    by_cases hKj : K ≤ j
    · have : K - j = 0 := by omega
      rw [if_pos (nI_le hKj (by omega)), this, if_pos (by simp)]; rfl
    · rw [if_neg (nI_ge (by omega) (by omega)), if_neg (show ¬ (12 : Int32) ≤ nI j from nI_ge (b := 12) (by omega) (by decide)), if_neg (by have := (wx_n (o := some s) (fun q hq => by cases hq; omega)); exact fun q => by have := this.mp q; cases this), tg_n (by omega) (by decide), nI_clamp (by omega), (hn.2.2 s s2).2.1, tg_n s4 (by decide), nI_clamp (by omega), hx _ s4, nI_1]
      rw [ih m (g.2.2.1 s) (j + 1) v2 (by omega) s4 s5 (by omega) (by omega) (by omega)]
      have e1 : K - j = (K - (j + 1)) + 1 := by omega
      rw [e1, List.length_cons]
      by_cases hl : K - (j + 1) < (wP g (wD g z) (g.2.2.1 s)).length
      · rw [if_pos hl, if_pos (by omega)]; rfl
      · rw [if_neg hl, if_neg (by omega)]
theorem okp_way : ok_way Rel := by
  intro σ τ f p0 p1 p2 h
  obtain ⟨eN, hN⟩ := Bg_N h.1
  obtain ⟨eS, hS⟩ := Bg_S h.1
  rcases nd_node h p0 with ⟨a0, b0⟩ | ⟨u, hu, hp0, a0, c0, b0⟩
  · exact op_fail (f := f) h (by simp only [lf_way, mx_T_way, a0, tx_s, lf1_s]) (by simp only [mf_R_way, b0, tb2_s, ↓reduceIte, i10])
  rcases nd_node h p1 with ⟨a1, b1⟩ | ⟨z, hz, hp1, a1, c1, b1⟩
  · exact op_fail (f := f) h (by simp only [lf_way, mx_T_way, a0, c0, a1, tb1_s, tx_n, tx_s, lf1_s]) (by simp only [mf_R_way, b0, b1, tb2_s, ↓reduceIte, i10, i1n])
  by_cases hneg : p2 < 0
  · have hneg' : ¬ 0 ≤ p2 := by rw [Int32.le_iff_toInt_le]; rw [Int32.lt_iff_toInt_lt] at hneg; omega
    exact op_fail (f := f) h (by simp only [lf_way, mx_T_way, a0, c0, a1, c1, tb1_s, tx_n, if_neg hneg', lf1_s]) (by simp only [mf_R_way, b0, b1, tb2_s, ↓reduceIte, if_pos hneg, i10, i1n])
  obtain ⟨K, hK, hp2⟩ := nI_of hneg
  have hpos : 0 ≤ p2 := by rw [hp2]; exact nI_pos' hK
  subst hp0 hp1 hp2
  have hk := gA_k h.1 (t := tm σ) (tm_le σ)
  have hV := wD_V hk (show z < 12 by omega)
  obtain ⟨σ1, q1, q2, q3, q4⟩ := holdTimes_ok h.1 (cC_r σ)
  have hn1 := gA_C h.1 q2 q4
  obtain ⟨σ2, s1, s2, s3, s4, s5⟩ := aim_ok hk (show z < 12 by omega) hn1
  have hn2 : nC (gA σ (tm σ)) σ2 := nC_o hn1 s2 s3
  obtain ⟨τ1, t1, t2, t3, t4, t5⟩ := takeTimes_ok h.1 (Rf_F0 (v := 0) h.2)
  obtain ⟨τ2, w1, w2, w3, w4, w5⟩ := findWay_ok hk hz hu (gA_R h.1 t2 t5)
  have hc2 : cC σ2 σ := cC_t ⟨s2, fun a _ a2 _ _ _ => s3 a a2⟩ q2
  have hRf : Rf τ2 σ := Rf_o t2 (fun i _ h6 => w2 i h6) (fun a _ h2 h3 => w3 a h2 h3) (w4 0 (by decide))
  have C1 : (nI u).toNatClampNeg = u := nI_clamp (by omega)
  have hsA : mf_W_streetAt (nI K) (nI u) σ2 = some (if wD (gA σ (tm σ)) z u = wI then -1 else if K < (wP (gA σ (tm σ)) (wD (gA σ (tm σ)) z) u).length then nI ((wP (gA σ (tm σ)) (wD (gA σ (tm σ)) z) u).getD K 0) else -1, σ2) := by
    unfold mf_W_streetAt
    rw [tg_n (show u < 12 by omega) (by decide), C1, s5 u (by omega)]
    by_cases hq : wD (gA σ (tm σ)) z u = wI
    · rw [if_pos hq, wn_I hk hV hq]
      show ms_W_streetAt_11 (ml_W_streetAt_11 4095) (nI K) (nI u) (-1) 0 σ2 = _
      unfold ms_W_streetAt_11
      rw [if_pos (show (-1 : Int32) = -1 from rfl)]
      split
      · rfl
      · split <;> rfl
    · rw [if_neg hq]
      have hb := wV_b hV (show u < 12 by omega) hq
      have := at_ok hk (show z < 12 by omega) hn2 s5 hK (wD (gA σ (tm σ)) z u % 64) 4096 u 0 (nI u) rfl (by omega) hq (by omega) (by omega) (Nat.zero_le _)
      exact this
  refine op_win (f := f) (v := if wD (gA σ (tm σ)) z u = wI then -1 else if K < (wP (gA σ (tm σ)) (wD (gA σ (tm σ)) z) u).length then nI ((wP (gA σ (tm σ)) (wD (gA σ (tm σ)) z) u).getD K 0) else -1) (σ' := σ2) (τ' := τ2) (by simp only [lf_way, mx_T_way, mf_T_way, a0, c0, a1, c1, tb1_s, tb2_s, tx_n, lf1_n, if_pos hpos, q1, s1, hsA]) ?_ (by rw [w2 0 (by decide), t3]; rfl) ⟨Bnd_c hc2 h.1, Rf_c hc2 hRf⟩
  simp only [mf_R_way, b0, b1, tb2_s, ↓reduceIte, if_neg hneg, i00, i1n, t1, tb1_s, w1]
  by_cases hq : wD (gA σ (tm σ)) z u = wI
  · rw [if_pos hq, if_pos rfl, if_pos hq]
  · obtain ⟨x1, x2, x3⟩ := w5 hq
    rw [if_neg hq, if_neg i1n, if_neg hq, x1]
    by_cases hl : K < (wP (gA σ (tm σ)) (wD (gA σ (tm σ)) z) u).length
    · rw [if_pos hl, if_neg (nI_ge hl (by omega)), tg_n (by omega) (by decide), nI_clamp hK, x3 K hl]
    · rw [if_neg hl, if_pos (nI_le (by omega) hK)]
