/-! ASSIGNING: the class's drivers and parts -/
def dd (A : tS) (i j : Nat) : Nat := if i = j then 0 else sh (qn A 4 (6 * i + j)) (mo A (6 * i + j)) 3 0
def gp (d p n : Nat) : Nat := d * (p + 1) / n - d * p / n
theorem dd_le {A : tS} (hB : Bnd A) {i j : Nat} (hi : i < 6) (hj : j < 6) : dd A i j ≤ 1000000 := by
  unfold dd
  split
  · omega
  · exact Nat.le_trans (sh_le (by decide)) (Bg_b hB 4 (k := 6 * i + j) (show 6 * i + j < 36 by omega))
theorem gath1 {A : tS} (hB : Bnd A) {i : Nat} (hi : i < qZ A) : ∀ (k f j : Nat) (σ : tS), j + k = qZ A → k < f → cC σ A → (∀ i' j', j' < qZ A → (i' < i ∨ (i' = i ∧ j' < j)) → σ.2.1 18 (6 * i' + j') = nI (dd A i' j')) → ∃ σ' v, ml_T_gatherDrivers_15 f (nI i) (nI j) σ = some (nI i, v, σ') ∧ cC σ' A ∧ ∀ i' j', j' < qZ A → i' < i + 1 → σ'.2.1 18 (6 * i' + j') = nI (dd A i' j') := by
  obtain ⟨eZ, hZ⟩ := Bg_Z hB
  intro k
  induction k with
  | zero =>
    intro f j σ h1 h2 hc hd
    obtain ⟨f, rfl⟩ : ∃ q, f = q + 1 := ⟨f - 1, by omega⟩
    have e : j = qZ A := by omega
    refine ⟨σ, nI j, ?_, hc, fun i' j' h3 h4 => hd i' j' h3 (by omega)⟩
    show ms_T_gatherDrivers_15 (ml_T_gatherDrivers_15 f) (nI i) (nI j) σ = _
    unfold ms_T_gatherDrivers_15
    rw [if_pos (by rw [hc.1, eZ, e]; exact Int32.le_refl _)]
  | succ k ih =>
    intro f j σ h1 h2 hc hd
    obtain ⟨f, rfl⟩ : ∃ q, f = q + 1 := ⟨f - 1, by omega⟩
    have h36 : 6 * i + j < 36 := by omega
    have T1 : ∀ {α : Type} (o : Option α), tg (nI (6 * i + j)) 36 o = o := fun o => tg_n h36 (by decide)
    have C1 : (nI (6 * i + j)).toNatClampNeg = 6 * i + j := nI_clamp (by omega)
    show ∃ σ' v, ms_T_gatherDrivers_15 (ml_T_gatherDrivers_15 f) (nI i) (nI j) σ = _ ∧ _
    unfold ms_T_gatherDrivers_15 mf_T_pairOf
    rw [if_neg (by rw [hc.1, eZ]; exact nI_ge (by omega) (by omega)), tb2_s, nI_6.1]
    by_cases e : i = j
    · rw [if_pos (by rw [e])]
      simp only [T1, C1, nI_1]
      refine ih f (j + 1) (tI σ 18 (6 * i + j) 0) (by omega) (by omega) (cC_I hc (by omega)) (fun i' j' h3 h4 => ?_)
      rw [tI_at]
      split
      · rename_i q
        have : i' = i ∧ j' = j := by omega
        rw [this.1, this.2]
        unfold dd; rw [if_pos e]; rfl
      · exact hd i' j' h3 (by omega)
    · rw [if_neg (by rw [nI_eq (by omega) (by omega)]; exact e)]
      have e4 : σ.2.1 4 (6 * i + j) = nI (qn A 4 (6 * i + j)) := by rw [hc.2 4 (by decide) (by decide) (by decide) (by decide) (by decide)]; exact Bg_q hB 4 (k := 6 * i + j) h36
      obtain ⟨σ1, q1, q2, q3⟩ := tripsBy_ok hB (pair := 6 * i + j) (mode := 0) h36 (by decide) (Bg_b hB 4 (k := 6 * i + j) h36) hc
      have q1' : mf_M_tripsBy 0 (nI (6 * i + j)) (nI (qn A 4 (6 * i + j))) σ = some (nI (sh (qn A 4 (6 * i + j)) (mo A (6 * i + j)) 3 0), σ1) := q1
      simp only [T1, C1, e4, q1', tb2_s, nI_1]
      refine ih f (j + 1) (tI σ1 18 (6 * i + j) (nI (sh (qn A 4 (6 * i + j)) (mo A (6 * i + j)) 3 0))) (by omega) (by omega) (cC_I q2 (by omega)) (fun i' j' h3 h4 => ?_)
      rw [tI_at]
      split
      · rename_i q
        have : i' = i ∧ j' = j := by omega
        rw [this.1, this.2]
        unfold dd; rw [if_neg e]
      · rw [q3 18 (by decide)]; exact hd i' j' h3 (by omega)
theorem gath2 {A : tS} (hB : Bnd A) : ∀ (k f i : Nat) (σ : tS), i + k = qZ A → k < f → cC σ A → (∀ i' j', j' < qZ A → i' < i → σ.2.1 18 (6 * i' + j') = nI (dd A i' j')) → ∃ σ', ml_T_gatherDrivers_2 f (nI i) σ = some σ' ∧ cC σ' A ∧ ∀ i' j', j' < qZ A → i' < qZ A → σ'.2.1 18 (6 * i' + j') = nI (dd A i' j') := by
  obtain ⟨eZ, hZ⟩ := Bg_Z hB
  intro k
  induction k with
  | zero =>
    intro f i σ h1 h2 hc hd
    obtain ⟨f, rfl⟩ : ∃ q, f = q + 1 := ⟨f - 1, by omega⟩
    have e : i = qZ A := by omega
    refine ⟨σ, ?_, hc, by rw [← e]; rw [← e] at hd; exact hd⟩
    show ms_T_gatherDrivers_2 (ml_T_gatherDrivers_2 f) (nI i) σ = _
    unfold ms_T_gatherDrivers_2
    rw [if_pos (by rw [hc.1, eZ, e]; exact Int32.le_refl _)]
  | succ k ih =>
    intro f i σ h1 h2 hc hd
    obtain ⟨f, rfl⟩ : ∃ q, f = q + 1 := ⟨f - 1, by omega⟩
    obtain ⟨σ1, v, q1, q2, q3⟩ := gath1 hB (i := i) (by omega) (qZ A) 4096 0 σ (by omega) (by omega) hc (fun i' j' h3 h4 => hd i' j' h3 (by omega))
    have q1' : ml_T_gatherDrivers_15 4096 (nI i) 0 σ = some (nI i, v, σ1) := q1
    show ∃ σ', ms_T_gatherDrivers_2 (ml_T_gatherDrivers_2 f) (nI i) σ = _ ∧ _
    unfold ms_T_gatherDrivers_2
    rw [if_neg (by rw [hc.1, eZ]; exact nI_ge (by omega) (by omega)), q1', tb1_s]
    simp only [nI_1]
    exact ih f (i + 1) σ1 (by omega) (by omega) q2 q3
theorem gather_ok {σ A : tS} (hB : Bnd A) (hc : cC σ A) : ∃ σ', mf_T_gatherDrivers σ = some σ' ∧ cC σ' A ∧ ∀ i' j', j' < qZ A → i' < qZ A → σ'.2.1 18 (6 * i' + j') = nI (dd A i' j') :=
  gath2 hB (qZ A) 4096 0 σ (by omega) (by have := (Bg_Z hB).2; omega) hc (fun i' j' _ h => by omega)
theorem gp_mono {d p n : Nat} : d * p / n ≤ d * (p + 1) / n := Nat.div_le_div_right (Nat.mul_le_mul_left d (by omega))
theorem dp_b {d p : Nat} (hd : d ≤ 1000000) (hp : p < 8) : d * (p + 1) ≤ 8000000 ∧ d * p ≤ 8000000 := by
  have a1 : d * (p + 1) ≤ 1000000 * 8 := Nat.mul_le_mul hd (by omega)
  have a2 : d * p ≤ 1000000 * 8 := Nat.mul_le_mul hd (by omega)
  omega
theorem ofPart_ok {σ : tS} {pair p n d : Nat} (hp : pair < 36) (hn : σ.1 3 = nI n) (hn1 : 1 ≤ n) (hn8 : n ≤ 8) (hp8 : p < 8) (hd : d ≤ 1000000) (hdr : σ.2.1 18 pair = nI d) : mf_A_tripsOfPart (nI pair) (nI p) σ = some (nI (gp d p n), σ) := by
  obtain ⟨m1, m2⟩ := dp_b hd hp8
  have d1 : d * (p + 1) / n ≤ d * (p + 1) := Nat.div_le_self _ _
  unfold mf_A_tripsOfPart
  rw [hn, if_neg (nI_ne0 (by omega) (by omega)), tg_n hp (by decide), nI_clamp (by omega), hdr, nI_1, nI_l (n := n) (by omega), tz_n (by omega) (by omega), tz_n (by omega) (by omega), nI_l (by omega), nI_l (by omega), nI_l (by omega), lN_mul, lN_mul, pk_lDiv (by omega) (by omega) (by omega), pk_lDiv (by omega) (by omega) (by omega), lN_sub gp_mono, lN_i]
  rfl
theorem nC_X {σ A : tS} {V : Nat → Nat} {U W : Nat → Int32} {L : Int32} (hB : Bnd A) (h : cC σ (aX A V U W L)) {t : Nat → Nat} (ht : ∀ s, s < qS A → σ.2.1 16 s = nI (t s)) : nC (gA A t) σ := by
  obtain ⟨eS, hS⟩ := Bg_S hB
  refine ⟨by rw [h.1]; exact eS, hS, fun s hs => ?_⟩
  have hs4 : s < 40 := Nat.lt_of_lt_of_le hs hS
  rw [h.2 7 (by decide) (by decide) (by decide) (by decide) (by decide), h.2 8 (by decide) (by decide) (by decide) (by decide) (by decide), h.2 13 (by decide) (by decide) (by decide) (by decide) (by decide), aX_ne (by decide), aX_ne (by decide), aX_ne (by decide)]
  exact ⟨Bg_q hB 7 (k := s) hs4, Bg_q hB 8 (k := s) hs4, ⟨Bg_q hB 13 (k := s) hs4, Bg_b hB 13 (k := s) hs4⟩, ht s hs⟩
/-- what the pair of i and j adds in part p of n -/
def E1 (A : tS) (t : Nat → Nat) (p n i j : Nat) : Nat → Nat → Nat := pe (gA A t) (qn A 0 j) (qn A 0 i) (gp (dd A i j) p n) (6 * i + j)
theorem partI {A : tS} (hB : Bnd A) {V : Nat → Nat} {U W : Nat → Int32} {L : Int32} {t : Nat → Nat} (ht : ∀ s, t s ≤ 1000000) {p n : Nat} (hn : A.1 3 = nI n) (hn1 : 1 ≤ n) (hn8 : n ≤ 8) (hp8 : p < 8) {j : Nat} (hj : j < qZ A) : ∀ (k f i : Nat) (d : Nat → Nat → Nat) (σ : tS), i + k = qZ A → k < f → cC σ (aY A V U W L d) → (∀ s, s < qS A → σ.2.1 16 s = nI (t s)) → (∀ i' j', j' < qZ A → i' < qZ A → σ.2.1 18 (6 * i' + j') = nI (dd A i' j')) → (∀ v, v < 12 → σ.2.2 0 v = lN (wD (gA A t) (qn A 0 j) v)) → (∀ v, v < 12 → σ.2.1 17 v = wx (wn (gA A t) (wD (gA A t) (qn A 0 j)) v (gA A t).1)) → ∃ σ' v, ml_T_assignPart_46 f (nI p) (nI j) (nI i) σ = some (nI p, nI j, v, σ') ∧ (∀ e : Nat → Nat → Nat, (∀ c x, e c x + sm i (fun i' => E1 A t p n i' j c x) = d c x) → cC σ' (aY A V U W L (fun c x => e c x + sm (qZ A) (fun i' => E1 A t p n i' j c x)))) ∧ (∀ s, s < qS A → σ'.2.1 16 s = nI (t s)) ∧ (∀ i' j', j' < qZ A → i' < qZ A → σ'.2.1 18 (6 * i' + j') = nI (dd A i' j')) := by
  obtain ⟨eZ, hZ⟩ := Bg_Z hB
  obtain ⟨eN, hN⟩ := Bg_N hB
  have hk := gA_k hB ht
  have hz : qn A 0 j < 12 := by have := hB.2.2.2.2.1.1 j hj; omega
  intro k
  induction k with
  | zero =>
    intro f i d σ h1 h2 hc h16 h18 hco hx
    obtain ⟨f, rfl⟩ : ∃ q, f = q + 1 := ⟨f - 1, by omega⟩
    have e : i = qZ A := by omega
    refine ⟨σ, nI i, ?_, fun e' he => ?_, h16, h18⟩
    · show ms_T_assignPart_46 (ml_T_assignPart_46 f) (nI p) (nI j) (nI i) σ = _
      unfold ms_T_assignPart_46
      rw [if_pos (by rw [hc.1, show (aY A V U W L d).1 1 = A.1 1 from rfl, eZ, e]; exact Int32.le_refl _)]
    · have : (fun c x => e' c x + sm (qZ A) (fun i' => E1 A t p n i' j c x)) = d := by funext c x; rw [← e]; exact he c x
      rw [this]; exact hc
  | succ k ih =>
    intro f i d σ h1 h2 hc h16 h18 hco hx
    obtain ⟨f, rfl⟩ : ∃ q, f = q + 1 := ⟨f - 1, by omega⟩
    have hi : i < qZ A := by omega
    have hu : qn A 0 i < 12 := by have := hB.2.2.2.2.1.1 i hi; omega
    have h36 : 6 * i + j < 36 := by omega
    have e0 : σ.2.1 0 i = nI (qn A 0 i) := by rw [hc.2 0 (by decide) (by decide) (by decide) (by decide) (by decide)]; exact Bg_q hB 0 (k := i) (show i < 6 by omega)
    have e3 : σ.1 3 = nI n := by rw [hc.1]; exact hn
    have q0 := ofPart_ok h36 e3 hn1 hn8 hp8 (dd_le hB (i := i) (j := j) (by omega) (by omega)) (h18 i j hj hi)
    obtain ⟨σ1, q1, q2, q3, q4⟩ := send_ok hk hz (pair := 6 * i + j) (go := gp (dd A i j) p n) h36 hu (nC_X hB hc h16) hco hx hc
    have hE : (fun c x => d c x + pe (gA A t) (qn A 0 j) (qn A 0 i) (gp (dd A i j) p n) (6 * i + j) c x) = fun c x => d c x + E1 A t p n i j c x := rfl
    rw [hE] at q2
    obtain ⟨σ', v, r1, r2, r3, r4⟩ := ih f (i + 1) (fun c x => d c x + E1 A t p n i j c x) σ1 (by omega) (by omega) q2 (fun s hs => by rw [q3 16 (by omega)]; exact h16 s hs) (fun i' j' a b => by rw [q3 18 (by omega)]; exact h18 i' j' a b) (fun v hv => by rw [q4]; exact hco v hv) (fun v hv => by rw [q3 17 (by omega)]; exact hx v hv)
    refine ⟨σ', v, ?_, fun e' he => r2 e' (fun c x => ?_), r3, r4⟩
    · show ms_T_assignPart_46 (ml_T_assignPart_46 f) (nI p) (nI j) (nI i) σ = _
      unfold ms_T_assignPart_46 mf_T_pairOf
      rw [if_neg (by rw [hc.1, show (aY A V U W L d).1 1 = A.1 1 from rfl, eZ]; exact nI_ge (by omega) (by omega)), tb2_s, nI_6.1, q0, tb2_s, tg_n (by omega) (by decide), nI_clamp (by omega), e0, q1, tb1_s, nI_1]
      exact r1
    · show e' c x + (sm i (fun i' => E1 A t p n i' j c x) + E1 A t p n i j c x) = d c x + E1 A t p n i j c x
      rw [← he c x]; omega
theorem partO {A : tS} (hB : Bnd A) {V : Nat → Nat} {U W : Nat → Int32} {L : Int32} {t : Nat → Nat} (ht : ∀ s, t s ≤ 1000000) {p n : Nat} (hn : A.1 3 = nI n) (hn1 : 1 ≤ n) (hn8 : n ≤ 8) (hp8 : p < 8) : ∀ (k f j : Nat) (σ : tS), j + k = qZ A → k < f → cC σ (aY A V U W L (fun c x => sm j (fun j' => sm (qZ A) (fun i' => E1 A t p n i' j' c x)))) → (∀ s, s < qS A → σ.2.1 16 s = nI (t s)) → (∀ i' j', j' < qZ A → i' < qZ A → σ.2.1 18 (6 * i' + j') = nI (dd A i' j')) → ∃ σ', ml_T_assignPart_13 f (nI p) (nI j) σ = some σ' ∧ cC σ' (aY A V U W L (fun c x => sm (qZ A) (fun j' => sm (qZ A) (fun i' => E1 A t p n i' j' c x)))) ∧ (∀ i' j', j' < qZ A → i' < qZ A → σ'.2.1 18 (6 * i' + j') = nI (dd A i' j')) := by
  obtain ⟨eZ, hZ⟩ := Bg_Z hB
  obtain ⟨eN, hN⟩ := Bg_N hB
  have hk := gA_k hB ht
  intro k
  induction k with
  | zero =>
    intro f j σ h1 h2 hc h16 h18
    obtain ⟨f, rfl⟩ : ∃ q, f = q + 1 := ⟨f - 1, by omega⟩
    have e : j = qZ A := by omega
    refine ⟨σ, ?_, by rw [← e]; rw [← e] at hc; exact hc, h18⟩
    show ms_T_assignPart_13 (ml_T_assignPart_13 f) (nI p) (nI j) σ = _
    unfold ms_T_assignPart_13
    rw [if_pos (by rw [hc.1, show ∀ d, (aY A V U W L d).1 1 = A.1 1 from fun _ => rfl, eZ, e]; exact Int32.le_refl _)]
  | succ k ih =>
    intro f j σ h1 h2 hc h16 h18
    obtain ⟨f, rfl⟩ : ∃ q, f = q + 1 := ⟨f - 1, by omega⟩
    have hj : j < qZ A := by omega
    have hz : qn A 0 j < 12 := by have := hB.2.2.2.2.1.1 j hj; omega
    have e0 : σ.2.1 0 j = nI (qn A 0 j) := by rw [hc.2 0 (by decide) (by decide) (by decide) (by decide) (by decide)]; exact Bg_q hB 0 (k := j) (show j < 6 by omega)
    obtain ⟨σ1, q1, q2, q3, q4, q5⟩ := aim_ok hk hz (nC_X hB hc h16)
    have hc1 : cC σ1 (aY A V U W L (fun c x => sm j (fun j' => sm (qZ A) (fun i' => E1 A t p n i' j' c x)))) := cC_t ⟨q2, fun a _ a2 _ _ _ => q3 a a2⟩ hc
    obtain ⟨σ2, v, r1, r2, r3, r4⟩ := partI hB ht hn hn1 hn8 hp8 hj (qZ A) 4096 0 _ σ1 (by omega) (by omega) hc1 (fun s hs => by rw [q3 16 (by decide)]; exact h16 s hs) (fun i' j' a b => by rw [q3 18 (by decide)]; exact h18 i' j' a b) q4 q5
    have r2' := r2 (fun c x => sm j (fun j' => sm (qZ A) (fun i' => E1 A t p n i' j' c x))) (fun c x => rfl)
    have r1' : ml_T_assignPart_46 4096 (nI p) (nI j) 0 σ1 = some (nI p, nI j, v, σ2) := r1
    obtain ⟨σ', s1, s2, s3⟩ := ih f (j + 1) σ2 (by omega) (by omega) r2' r3 r4
    refine ⟨σ', ?_, s2, s3⟩
    show ms_T_assignPart_13 (ml_T_assignPart_13 f) (nI p) (nI j) σ = _
    unfold ms_T_assignPart_13
    rw [if_neg (by rw [hc.1, show ∀ d, (aY A V U W L d).1 1 = A.1 1 from fun _ => rfl, eZ]; exact nI_ge (by omega) (by omega)), tg_n (by omega) (by decide), nI_clamp (by omega), e0, q1, tb1_s, r1', tb1_s]
    simp only [nI_1]
    exact s1
theorem part_ok {A : tS} (hB : Bnd A) {V : Nat → Nat} {U W : Nat → Int32} {L : Int32} (hV : ∀ k, k < 40 → V k ≤ 500000000) {p n : Nat} (hn : A.1 3 = nI n) (hn1 : 1 ≤ n) (hn8 : n ≤ 8) (hp8 : p < 8) {σ : tS} (hc : cC σ (aX A V U W L)) (h18 : ∀ i' j', j' < qZ A → i' < qZ A → σ.2.1 18 (6 * i' + j') = nI (dd A i' j')) : ∃ σ', mf_T_assignPart (nI p) σ = some σ' ∧ cC σ' (aY A V U W L (fun c x => sm (qZ A) (fun j' => sm (qZ A) (fun i' => E1 A (tm (aX A V U W L)) p n i' j' c x)))) ∧ (∀ i' j', j' < qZ A → i' < qZ A → σ'.2.1 18 (6 * i' + j') = nI (dd A i' j')) := by
  have hZ := (Bg_Z hB).2
  obtain ⟨σ1, q1, q2, q3, q4⟩ := holdTimes_ok (Bnd_X (U := U) (W := W) (L := L) hB hV) hc
  have hc1 : cC σ1 (aY A V U W L (fun c x => sm 0 (fun j' => sm (qZ A) (fun i' => E1 A (tm (aX A V U W L)) p n i' j' c x)))) := by
    have : aY A V U W L (fun c x => sm 0 (fun j' => sm (qZ A) (fun i' => E1 A (tm (aX A V U W L)) p n i' j' c x))) = aX A V U W L := aY_0
    rw [this]; exact q2
  obtain ⟨σ', r1, r2, r3⟩ := partO hB (tm_le (aX A V U W L)) hn hn1 hn8 hp8 (qZ A) 4096 0 σ1 (by omega) (by omega) hc1 q4 (fun i' j' a b => by rw [q3 18 (by decide)]; exact h18 i' j' a b)
  refine ⟨σ', ?_, r2, r3⟩
  unfold mf_T_assignPart
  rw [q1, tb1_s]; exact r1
