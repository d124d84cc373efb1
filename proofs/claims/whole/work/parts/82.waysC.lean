/-! THE CLASS'S WAYS -/
def bI (c : Bool) : Int32 := if c = true then 1 else 0
def nC (g : wG) (σ : tS) : Prop := σ.1 2 = nI g.1 ∧ g.1 ≤ 40 ∧ ∀ s, s < g.1 → σ.2.1 7 s = nI (g.2.1 s) ∧ σ.2.1 8 s = nI (g.2.2.1 s) ∧ (σ.2.1 13 s = nI (g.2.2.2.2 s) ∧ g.2.2.2.2 s ≤ 1) ∧ σ.2.1 16 s = nI (g.2.2.2.1 s)
theorem nC_o {g : wG} {σ σ' : tS} (h : nC g σ) (h1 : σ'.1 = σ.1) (h2 : ∀ a, a ≠ 17 → σ'.2.1 a = σ.2.1 a) : nC g σ' := by
  obtain ⟨a1, a2, a3⟩ := h
  refine ⟨by rw [h1]; exact a1, a2, fun s hs => ?_⟩
  rw [h2 7 (by decide), h2 8 (by decide), h2 13 (by decide), h2 16 (by decide)]
  exact a3 s hs
def wX (g : wG) (s : Nat) (D : Nat → Nat) : Nat := if g.2.2.2.2 s = 0 ∨ D (g.2.2.1 s) = wI then wI else D (g.2.2.1 s) + (64 * g.2.2.2.1 s + 1)
theorem lN_I : (1099511627776 : Int64) = lN wI := rfl
theorem wI_lt : wI < 2 ^ 63 := by decide
theorem wX_lt {g : wG} {z : Nat} (hk : wGk g) {D : Nat → Nat} (hV : wV g z D) {s : Nat} (hs : s < g.1) : wX g s D ≤ wI ∧ (wX g s D = wI ↔ (g.2.2.2.2 s = 0 ∨ D (g.2.2.1 s) = wI)) := by
  unfold wX
  split
  · rename_i h; exact ⟨Nat.le_refl _, fun _ => h, fun _ => rfl⟩
  · rename_i h
    obtain ⟨-, kb, kt⟩ := hk s hs
    have := wV_b hV kb (fun q => h (Or.inr q))
    unfold wI at *
    exact ⟨by omega, fun q => by omega, fun q => absurd q h⟩
theorem wX_d {g : wG} {z : Nat} (hk : wGk g) {D : Nat → Nat} (hV : wV g z D) {s : Nat} (hs : s < g.1) : (wd g s D = true ↔ wX g s D < D (g.2.1 s)) ∧ (wd g s D = true → wX g s D = D (g.2.2.1 s) + (64 * g.2.2.2.1 s + 1)) := by
  have h3 := hV.2.2.1 (g.2.1 s)
  by_cases h : g.2.2.2.2 s = 0 ∨ D (g.2.2.1 s) = wI
  · have e : wX g s D = wI := if_pos h
    have n : ¬ wd g s D = true := fun q => by
      obtain ⟨c1, c2, -⟩ := wd_iff.mp q
      exact h.elim c1 c2
    exact ⟨⟨fun q => absurd q n, fun q => by omega⟩, fun q => absurd q n⟩
  · have e : wX g s D = D (g.2.2.1 s) + (64 * g.2.2.2.1 s + 1) := if_neg h
    refine ⟨⟨fun q => by rw [e]; exact (wd_iff.mp q).2.2, fun q => wd_iff.mpr ⟨fun q => h (Or.inl q), fun q => h (Or.inr q), by rw [← e]; exact q⟩⟩, fun _ => e⟩
theorem costBy_ok {g : wG} {z : Nat} (hk : wGk g) {D : Nat → Nat} (hV : wV g z D) {σ : tS} (hn : nC g σ) (hc : ∀ v, v < 12 → σ.2.2 0 v = lN (D v)) {s : Nat} (hs : s < g.1) : mf_W_costBy (nI s) σ = some (lN (wX g s D), σ) := by
  obtain ⟨n1, n2, n3⟩ := hn
  obtain ⟨a1, a2, ⟨a3, a3'⟩, a4⟩ := n3 s hs
  obtain ⟨ka, kb, kt⟩ := hk s hs
  have hb := hc _ kb
  have h3 := hV.2.2.1 (g.2.2.1 s)
  have hI := wI_lt
  unfold mf_W_costBy
  rw [tg_n (by omega) (by decide), nI_clamp (by omega), a2, tg_n kb (by decide), nI_clamp (by omega), tg_n (by omega) (by decide), hb, a3]
  unfold wX
  by_cases h : g.2.2.2.2 s = 0
  · rw [if_pos (Or.inl h), if_pos (by rw [h]; rfl), lN_I]
  · rw [if_neg (nI_ne0 (by omega) (by omega))]
    by_cases h' : D (g.2.2.1 s) = wI
    · rw [if_pos (Or.inr h'), if_pos (by rw [lg_cmp_eq, h']; rfl), lN_I]
    · rw [if_neg (show ¬ (g.2.2.2.2 s = 0 ∨ D (g.2.2.1 s) = wI) from fun q => q.elim h h'), if_neg (by rw [lg_cmp_eq, lN_I, pk_lEQ (by omega) hI]; exact h'), tg_n (by omega) (by decide), a4, nI_l (by omega)]
      show some (lN (D (g.2.2.1 s)) + lN (g.2.2.2.1 s) * lN 64 + lN 1, σ) = _
      rw [lN_mul, lN_add, lN_add, Nat.mul_comm, Nat.add_assoc]
theorem lower_ok {g : wG} {z : Nat} (hk : wGk g) {D : Nat → Nat} (hV : wV g z D) : ∀ (k n i : Nat) (σ : tS), i + k = g.1 → k < n → nC g σ → (∀ v, v < 12 → σ.2.2 0 v = lN (wp g i D v)) → ∃ σ', ml_W_lowerCosts_4 n (bI (wg g i D)) (nI i) σ = some (bI (wg g g.1 D), σ') ∧ σ'.1 = σ.1 ∧ σ'.2.1 = σ.2.1 ∧ ∀ v, v < 12 → σ'.2.2 0 v = lN (wp g g.1 D v) := by
  intro k
  induction k with
  | zero =>
    intro n i σ h1 h2 hn hc
    obtain ⟨n, rfl⟩ : ∃ m, n = m + 1 := ⟨n - 1, by omega⟩
    have e : i = g.1 := by omega
    refine ⟨σ, ?_, rfl, rfl, by rw [← e]; exact hc⟩
    show ms_W_lowerCosts_4 (ml_W_lowerCosts_4 n) (bI (wg g i D)) (nI i) σ = _
    unfold ms_W_lowerCosts_4
    rw [if_pos (by rw [hn.1, e]; exact Int32.le_refl _), e]
    unfold bI
    split
    · rw [tb_1]
    · rw [tb_0]
  | succ k ih =>
    intro n i σ h1 h2 hn hc
    obtain ⟨n, rfl⟩ : ∃ m, n = m + 1 := ⟨n - 1, by omega⟩
    have hi : i < g.1 := by omega
    have hVi := wV_p hk hV i (by omega)
    obtain ⟨n1, n2, n3⟩ := id hn
    obtain ⟨a1, a2, ⟨a3, a3'⟩, a4⟩ := n3 i hi
    obtain ⟨ka, kb, kt⟩ := hk i hi
    obtain ⟨d1, d2⟩ := wX_d hk hVi hi
    obtain ⟨x1, x2⟩ := wX_lt hk hVi hi
    have h3 := hVi.2.2.1 (g.2.1 i)
    have hI := wI_lt
    show ∃ σ', ms_W_lowerCosts_4 (ml_W_lowerCosts_4 n) (bI (wg g i D)) (nI i) σ = _ ∧ _
    unfold ms_W_lowerCosts_4
    rw [if_neg (by rw [n1]; exact nI_ge hi (by omega)), costBy_ok hk hVi hn hc hi, tb2_s, tg_n (by omega) (by decide), nI_clamp (by omega), a1, tg_n ka (by decide), nI_clamp (by omega), hc _ ka, nI_1]
    by_cases hw : wd g i (wp g i D) = true
    · have hx := d1.mp hw
      rw [if_neg (by rw [lg_cmp_ge, pk_lLE (by omega) (by omega)]; omega), tg_n (by omega) (by decide), tg_n ka (by decide)]
      have e1 : wg g (i + 1) D = true := by show (wg g i D || wd g i (wp g i D)) = true; rw [hw, Bool.or_true]
      have e2 : ∀ v, wp g (i + 1) D v = if v = g.2.1 i then wX g i (wp g i D) else wp g i D v := fun v => by
        show wr g i (wp g i D) v = _
        unfold wr
        rw [if_pos hw, d2 hw]
      obtain ⟨σ', r1, r2, r3, r4⟩ := ih n (i + 1) (tJ σ 0 (g.2.1 i) (lN (wX g i (wp g i D)))) (by omega) (by omega) hn (fun v hv => by
        rw [tJ_at, e2]; split
        · rfl
        · exact hc v hv)
      rw [e1] at r1
      exact ⟨σ', r1, r2, r3, r4⟩
    · rw [if_pos (by rw [lg_cmp_ge, pk_lLE (by omega) (by omega)]; have := mt d1.mpr hw; omega)]
      have hw' : wd g i (wp g i D) = false := by simpa using hw
      have e1 : wg g (i + 1) D = wg g i D := by show (wg g i D || wd g i (wp g i D)) = _; rw [hw', Bool.or_false]
      have e2 : wp g (i + 1) D = wp g i D := by
        show wr g i (wp g i D) = _
        unfold wr
        rw [if_neg hw]
      obtain ⟨σ', r1, r2, r3, r4⟩ := ih n (i + 1) σ (by omega) (by omega) hn (by rw [e2]; exact hc)
      rw [e1] at r1
      exact ⟨σ', r1, r2, r3, r4⟩
theorem choose_ok {g : wG} {z : Nat} (hk : wGk g) {D : Nat → Nat} (hV : wV g z D) : ∀ (k n i : Nat) (σ : tS), i + k = g.1 → k < n → nC g σ → (∀ v, v < 12 → σ.2.2 0 v = lN (D v)) → (∀ v, v < 12 → σ.2.1 17 v = wx (wn g D v i)) → ∃ σ', ml_W_chooseNexts_10 n (nI i) σ = some σ' ∧ σ'.1 = σ.1 ∧ (∀ a, a ≠ 17 → σ'.2.1 a = σ.2.1 a) ∧ σ'.2.2 = σ.2.2 ∧ ∀ v, v < 12 → σ'.2.1 17 v = wx (wn g D v g.1) := by
  intro k
  induction k with
  | zero =>
    intro n i σ h1 h2 hn hc hx
    obtain ⟨n, rfl⟩ : ∃ m, n = m + 1 := ⟨n - 1, by omega⟩
    have e : i = g.1 := by omega
    refine ⟨σ, ?_, rfl, fun _ _ => rfl, rfl, by rw [← e]; exact hx⟩
    show ms_W_chooseNexts_10 (ml_W_chooseNexts_10 n) (nI i) σ = _
    unfold ms_W_chooseNexts_10
    rw [if_pos (by rw [hn.1, e]; exact Int32.le_refl _)]
  | succ k ih =>
    intro n i σ h1 h2 hn hc hx
    obtain ⟨n, rfl⟩ : ∃ m, n = m + 1 := ⟨n - 1, by omega⟩
    have hi : i < g.1 := by omega
    obtain ⟨n1, n2, n3⟩ := id hn
    obtain ⟨a1, a2, ⟨a3, a3'⟩, a4⟩ := n3 i hi
    obtain ⟨ka, kb, kt⟩ := hk i hi
    obtain ⟨x1, x2⟩ := wX_lt hk hV hi
    have h3 := hV.2.2.1 (g.2.1 i)
    have hI := wI_lt
    have hwx : wx (wn g D (g.2.1 i) i) = -1 ↔ wn g D (g.2.1 i) i = none := wx_n (fun s hs => by have := (wn_spec hs).1; omega)
    have ht0 : ∀ v, v ≠ g.2.1 i → wt g D v i = false := fun v hv => by
      have : ¬ wt g D v i = true := fun q => hv (wt_iff.mp q).2.1.symm
      simpa using this
    have hother : ∀ v, wt g D v i = false → wn g D v (i + 1) = wn g D v i := fun v hv => by
      rcases hq : wn g D v i with _ | s
      · rw [wn_s1 hq, hv]; rfl
      · rw [wn_s2 hq]
    show ∃ σ', ms_W_chooseNexts_10 (ml_W_chooseNexts_10 n) (nI i) σ = _ ∧ _
    unfold ms_W_chooseNexts_10
    rw [if_neg (by rw [n1]; exact nI_ge hi (by omega)), tg_n (by omega) (by decide), costBy_ok hk hV hn hc hi, tb2_s, nI_clamp (by omega), a1, tg_n ka (by decide), nI_clamp (by omega), hx _ ka, hc _ ka, nI_1]
    have skip : wn g D (g.2.1 i) i ≠ none ∨ wt g D (g.2.1 i) i = false → ∃ σ', ml_W_chooseNexts_10 n (nI (i + 1)) σ = some σ' ∧ σ'.1 = σ.1 ∧ (∀ a, a ≠ 17 → σ'.2.1 a = σ.2.1 a) ∧ σ'.2.2 = σ.2.2 ∧ ∀ v, v < 12 → σ'.2.1 17 v = wx (wn g D v g.1) := fun hh => by
      refine ih n (i + 1) σ (by omega) (by omega) hn hc (fun v hv => ?_)
      rw [hx v hv]
      by_cases e : v = g.2.1 i
      · subst e
        rcases hh with hh | hh
        · rcases hq : wn g D (g.2.1 i) i with _ | s
          · exact absurd hq hh
          · rw [wn_s2 hq]
        · rw [hother _ hh]
      · rw [hother v (ht0 v e)]
    by_cases hno : wn g D (g.2.1 i) i = none
    · rw [if_pos (hwx.mpr hno)]
      by_cases hX : wX g i D = wI
      · rw [if_pos (by rw [lg_cmp_eq, hX]; rfl)]
        refine skip (Or.inr ?_)
        have : ¬ wt g D (g.2.1 i) i = true := fun q => by
          obtain ⟨t1, t2, t3, t4⟩ := wt_iff.mp q
          exact (x2.mp hX).elim t1 t3
        simpa using this
      · have hX' := mt x2.mpr hX
        have eX : wX g i D = D (g.2.2.1 i) + (64 * g.2.2.2.1 i + 1) := if_neg hX'
        rw [if_neg (by rw [lg_cmp_eq, lN_I, pk_lEQ (by omega) hI]; exact hX), tg_n ka (by decide)]
        by_cases hT : wX g i D = D (g.2.1 i)
        · rw [if_pos (by rw [lg_cmp_eq, hT]), tg_n ka (by decide)]
          have ht : wt g D (g.2.1 i) i = true := wt_iff.mpr ⟨fun q => hX' (Or.inl q), rfl, fun q => hX' (Or.inr q), by rw [← eX]; exact hT⟩
          obtain ⟨σ', r1, r2, r3, r4, r5⟩ := ih n (i + 1) (tI σ 17 (g.2.1 i) (nI i)) (by omega) (by omega) (nC_o hn rfl (fun a ha => tI_ne ha)) hc (fun v hv => by
            rw [tI_at]
            split
            · rename_i e
              subst e
              rw [wn_s1 hno, if_pos ht]; rfl
            · rename_i e
              rw [hx v hv, hother v (ht0 v e)])
          exact ⟨σ', r1, r2, fun a ha => by rw [r3 a ha, tI_ne ha], r4, r5⟩
        · rw [if_neg (by rw [lg_cmp_eq, pk_lEQ (by omega) (by omega)]; exact hT)]
          refine skip (Or.inr ?_)
          have : ¬ wt g D (g.2.1 i) i = true := fun q => hT (by rw [eX]; exact (wt_iff.mp q).2.2.2)
          simpa using this
    · rw [if_neg (fun q => hno (hwx.mp q))]
      exact skip (Or.inl hno)
theorem aim_loop {g : wG} {z : Nat} (hk : wGk g) (hz : z < 12) : ∀ (k n i : Nat) (c : Bool) (v1 : Int32) (σ : tS), i + k = 12 → k < n → nC g σ → (∀ v, v < 12 → σ.2.2 0 v = lN (wk g i (w0 z) v)) → (c = false → wk g i (w0 z) = wD g z) → ∃ σ', ml_W_aimAt_22 n v1 (bI c) (nI i) σ = some σ' ∧ σ'.1 = σ.1 ∧ (∀ a, a ≠ 17 → σ'.2.1 a = σ.2.1 a) ∧ (∀ v, v < 12 → σ'.2.2 0 v = lN (wD g z v)) ∧ ∀ v, v < 12 → σ'.2.1 17 v = wx (wn g (wD g z) v g.1) := by
  intro k
  have fin : ∀ (i : Nat) (σ : tS), nC g σ → (∀ v, v < 12 → σ.2.2 0 v = lN (wk g i (w0 z) v)) → wk g i (w0 z) = wD g z → ∃ σ', mf_W_chooseNexts σ = some σ' ∧ σ'.1 = σ.1 ∧ (∀ a, a ≠ 17 → σ'.2.1 a = σ.2.1 a) ∧ (∀ v, v < 12 → σ'.2.2 0 v = lN (wD g z v)) ∧ ∀ v, v < 12 → σ'.2.1 17 v = wx (wn g (wD g z) v g.1) := by
    intro i σ hn hc e
    rw [e] at hc
    obtain ⟨σ', r1, r2, r3, r4, r5⟩ := choose_ok hk (wD_V hk hz) g.1 4096 0 (tIf σ 17 (-1)) (by omega) (by have := hn.2.1; omega) (nC_o hn rfl (fun a ha => tIf_ne ha)) hc (fun v hv => tIf_at)
    exact ⟨σ', r1, r2, fun a ha => by rw [r3 a ha, tIf_ne ha], fun v hv => by rw [r4]; exact hc v hv, r5⟩
  induction k with
  | zero =>
    intro n i c v1 σ h1 h2 hn hc hD
    obtain ⟨n, rfl⟩ : ∃ m, n = m + 1 := ⟨n - 1, by omega⟩
    have e : i = 12 := by omega
    subst e
    obtain ⟨σ', r1, r⟩ := fin 12 σ hn hc (wk_12 hk hz)
    refine ⟨σ', ?_, r⟩
    show ms_W_aimAt_22 (ml_W_aimAt_22 n) v1 (bI c) (nI 12) σ = _
    unfold ms_W_aimAt_22
    rw [if_pos (show (12 : Int32) ≤ nI 12 by decide), r1, tb1_s]
  | succ k ih =>
    intro n i c v1 σ h1 h2 hn hc hD
    obtain ⟨n, rfl⟩ : ∃ m, n = m + 1 := ⟨n - 1, by omega⟩
    show ∃ σ', ms_W_aimAt_22 (ml_W_aimAt_22 n) v1 (bI c) (nI i) σ = _ ∧ _
    unfold ms_W_aimAt_22
    rw [if_neg (show ¬ (12 : Int32) ≤ nI i from nI_ge (b := 12) (by omega) (by decide))]
    cases c with
    | false =>
      obtain ⟨σ', r1, r⟩ := fin i σ hn hc (hD rfl)
      exact ⟨σ', by rw [if_pos (show bI false = 0 from rfl), r1, tb1_s], r⟩
    | true =>
      rw [if_neg (show ¬ bI true = 0 by decide)]
      have hVi := wV_k (g := g) hk (wV_0 hz) i
      obtain ⟨σ1, q1, q2, q3, q4⟩ := lower_ok hk hVi g.1 4096 0 σ (by omega) (by have := hn.2.1; omega) hn hc
      have q1' : mf_W_lowerCosts σ = some (bI (wg g g.1 (wk g i (w0 z))), σ1) := q1
      rw [q1', tb2_s, nI_1]
      obtain ⟨σ', r1, r2, r3, r4, r5⟩ := ih n (i + 1) (wg g g.1 (wk g i (w0 z))) v1 σ1 (by omega) (by omega) (nC_o hn q2 (fun a _ => by rw [q3])) q4 (fun hf => by
        have : wk g (i + 1) (w0 z) = wk g i (w0 z) := (wg_no hf).1
        rw [this]; exact wk_D hf (by omega))
      exact ⟨σ', r1, by rw [r2, q2], fun a ha => by rw [r3 a ha, q3], r4, r5⟩
theorem aim_ok {g : wG} {z : Nat} (hk : wGk g) (hz : z < 12) {σ : tS} (hn : nC g σ) : ∃ σ', mf_W_aimAt (nI z) σ = some σ' ∧ σ'.1 = σ.1 ∧ (∀ a, a ≠ 17 → σ'.2.1 a = σ.2.1 a) ∧ (∀ v, v < 12 → σ'.2.2 0 v = lN (wD g z v)) ∧ ∀ v, v < 12 → σ'.2.1 17 v = wx (wn g (wD g z) v g.1) := by
  unfold mf_W_aimAt
  rw [tg_n hz (by decide), nI_clamp (by omega)]
  refine aim_loop hk hz 12 4096 0 true (nI z) _ (by omega) (by decide) hn (fun v hv => ?_) (fun h => by cases h)
  rw [tJ_at]
  show _ = lN (if v = z then 0 else wI)
  split
  · rfl
  · rw [tJf_at]; rfl
theorem timeFrom_ok {g : wG} {z : Nat} (hk : wGk g) (hz : z < 12) {σ : tS} (hc : ∀ v, v < 12 → σ.2.2 0 v = lN (wD g z v)) {v : Nat} (hv : v < 12) : mf_W_timeFrom (nI v) σ = some (if wD g z v = wI then -1 else nI (wD g z v / 64), σ) := by
  have h3 := (wD_V hk hz).2.2.1 v
  have hI := wI_lt
  unfold mf_W_timeFrom
  rw [tg_n hv (by decide), nI_clamp (by omega), hc v hv]
  by_cases h : wD g z v = wI
  · rw [if_pos h, if_pos (by rw [lg_cmp_eq, h]; rfl)]
  · rw [if_neg h, if_neg (by rw [lg_cmp_eq, lN_I, pk_lEQ (by omega) hI]; exact h), tg_n hv (by decide)]
    show tz (lN 64) (some ((lN (wD g z v) / lN 64).toInt32, σ)) = _
    unfold tz
    rw [if_neg (by decide), pk_lDiv (by omega) (by decide) (by decide), lN_i]
