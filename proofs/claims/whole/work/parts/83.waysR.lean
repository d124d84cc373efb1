/-! THE REFERENCE'S WAYS -/
def nR (g : wG) (n : Nat) (τ : tS) : Prop := τ.1 1 = nI n ∧ n ≤ 12 ∧ τ.1 3 = nI g.1 ∧ g.1 ≤ 40 ∧ ∀ s, s < g.1 → τ.2.1 3 s = nI (g.2.1 s) ∧ g.2.1 s < n ∧ τ.2.1 4 s = nI (g.2.2.1 s) ∧ g.2.2.1 s < n ∧ τ.2.1 9 s = (if g.2.2.2.2 s = 0 then 1 else 0) ∧ τ.2.2 3 s = lN (g.2.2.2.1 s)
theorem nR_o {g : wG} {n : Nat} {τ τ' : tS} (h : nR g n τ) (h1 : ∀ i, i ≠ 6 → τ'.1 i = τ.1 i) (h2 : ∀ a, a ≠ 18 → a ≠ 19 → τ'.2.1 a = τ.2.1 a) (h3 : τ'.2.2 3 = τ.2.2 3) : nR g n τ' := by
  obtain ⟨a1, a2, a3, a4, a5⟩ := h
  refine ⟨by rw [h1 1 (by decide)]; exact a1, a2, by rw [h1 3 (by decide)]; exact a3, a4, fun s hs => ?_⟩
  rw [h2 3 (by decide) (by decide), h2 4 (by decide) (by decide), h2 9 (by decide) (by decide), h3]
  exact a5 s hs
def dn (d : Nat) : Int64 := if d = wI then 1000000000000 else lN (d / 64)
def df (d : Nat) : Int32 := if d = wI then 0 else nI (d % 64)
theorem dn_I {d : Nat} (h : d = wI) : dn d = 1000000000000 := if_pos h
theorem dn_n {d : Nat} (h : d ≠ wI) : dn d = lN (d / 64) := if_neg h
theorem df_n {d : Nat} (h : d ≠ wI) : df d = nI (d % 64) := if_neg h
theorem dn_f {d : Nat} (hb : d ≠ wI → d / 64 ≤ 11000000) : lg_cmp (dn d) 1000000000000 = 0 ↔ d = wI := by
  rw [lg_cmp_eq]
  by_cases h : d = wI
  · exact ⟨fun _ => h, fun _ => dn_I h⟩
  · rw [dn_n h]
    have := hb h
    refine ⟨fun q => ?_, fun q => absurd q h⟩
    have q' : lN (d / 64) = lN 1000000000000 := q
    rw [pk_lEQ (by omega) (by decide)] at q'
    omega
theorem near_ok {g : wG} {z n : Nat} (hk : wGk g) {D : Nat → Nat} (hV : wV g z D) : ∀ (k m i : Nat) (v1 : Int32) (τ : tS), i + k = g.1 → k < m → nR g n τ → (∀ v, v < n → τ.2.2 4 v = dn (wp g i D v) ∧ τ.2.1 18 v = df (wp g i D v)) → ∃ τ' v3, ml_R_findNear_51 m v1 (bI (wg g i D)) (nI i) τ = some (v1, bI (wg g g.1 D), v3, τ') ∧ τ'.1 = τ.1 ∧ (∀ a, a ≠ 18 → τ'.2.1 a = τ.2.1 a) ∧ (∀ a, a ≠ 4 → τ'.2.2 a = τ.2.2 a) ∧ ∀ v, v < n → τ'.2.2 4 v = dn (wp g g.1 D v) ∧ τ'.2.1 18 v = df (wp g g.1 D v) := by
  intro k
  induction k with
  | zero =>
    intro m i v1 τ h1 h2 hn hc
    obtain ⟨m, rfl⟩ : ∃ q, m = q + 1 := ⟨m - 1, by omega⟩
    have e : i = g.1 := by omega
    refine ⟨τ, nI i, ?_, rfl, fun _ _ => rfl, fun _ _ => rfl, by rw [← e]; exact hc⟩
    show ms_R_findNear_51 (ml_R_findNear_51 m) v1 (bI (wg g i D)) (nI i) τ = _
    unfold ms_R_findNear_51
    rw [if_pos (by rw [hn.2.2.1, e]; exact Int32.le_refl _), e]
  | succ k ih =>
    intro m i v1 τ h1 h2 hn hc
    obtain ⟨m, rfl⟩ : ∃ q, m = q + 1 := ⟨m - 1, by omega⟩
    have hi : i < g.1 := by omega
    have hVi := wV_p hk hV i (by omega)
    obtain ⟨n1, n2, n3, n4, n5⟩ := id hn
    obtain ⟨a1, a2, a3, a4, a5, a6⟩ := n5 i hi
    obtain ⟨ka, kb, kt⟩ := hk i hi
    obtain ⟨c1, c2⟩ := hc _ a2
    obtain ⟨c3, c4⟩ := hc _ a4
    have h3 := hVi.2.2.1 (g.2.1 i)
    have hI := wI_lt
    have hbb : wp g i D (g.2.2.1 i) ≠ wI → wp g i D (g.2.2.1 i) % 64 ≤ 11 ∧ wp g i D (g.2.2.1 i) / 64 ≤ 11000000 := wV_b hVi kb
    have hba : wp g i D (g.2.1 i) ≠ wI → wp g i D (g.2.1 i) % 64 ≤ 11 ∧ wp g i D (g.2.1 i) / 64 ≤ 11000000 := wV_b hVi ka
    have T1 : ∀ {α : Type} (o : Option α), tg (nI i) 40 o = o := fun o => tg_n (by omega) (by decide)
    have T2 : ∀ {α : Type} (o : Option α), tg (nI (g.2.1 i)) 12 o = o := fun o => tg_n ka (by decide)
    have T3 : ∀ {α : Type} (o : Option α), tg (nI (g.2.2.1 i)) 12 o = o := fun o => tg_n kb (by decide)
    have C1 : (nI i).toNatClampNeg = i := nI_clamp (by omega)
    have C2 : (nI (g.2.1 i)).toNatClampNeg = g.2.1 i := nI_clamp (by omega)
    have C3 : (nI (g.2.2.1 i)).toNatClampNeg = g.2.2.1 i := nI_clamp (by omega)
    have skip : wd g i (wp g i D) = false → ∃ τ' v3, ml_R_findNear_51 m v1 (bI (wg g i D)) (nI (i + 1)) τ = some (v1, bI (wg g g.1 D), v3, τ') ∧ τ'.1 = τ.1 ∧ (∀ a, a ≠ 18 → τ'.2.1 a = τ.2.1 a) ∧ (∀ a, a ≠ 4 → τ'.2.2 a = τ.2.2 a) ∧ ∀ v, v < n → τ'.2.2 4 v = dn (wp g g.1 D v) ∧ τ'.2.1 18 v = df (wp g g.1 D v) := fun hw => by
      have e1 : wg g (i + 1) D = wg g i D := by show (wg g i D || wd g i (wp g i D)) = _; rw [hw, Bool.or_false]
      have e2 : wp g (i + 1) D = wp g i D := by
        show wr g i (wp g i D) = _
        unfold wr
        rw [hw]; rfl
      have := ih m (i + 1) v1 τ (by omega) (by omega) hn (by rw [e2]; exact hc)
      rw [e1] at this
      exact this
    have set : wd g i (wp g i D) = true → ∃ τ' v3, ml_R_findNear_51 m v1 1 (nI (i + 1)) (tI (tJ τ 4 (g.2.1 i) (dn (wp g i D (g.2.2.1 i)) + lN (g.2.2.2.1 i))) 18 (g.2.1 i) (df (wp g i D (g.2.2.1 i)) + 1)) = some (v1, bI (wg g g.1 D), v3, τ') ∧ τ'.1 = τ.1 ∧ (∀ a, a ≠ 18 → τ'.2.1 a = τ.2.1 a) ∧ (∀ a, a ≠ 4 → τ'.2.2 a = τ.2.2 a) ∧ ∀ v, v < n → τ'.2.2 4 v = dn (wp g g.1 D v) ∧ τ'.2.1 18 v = df (wp g g.1 D v) := fun hw => by
      obtain ⟨w1, w2, w3⟩ := wd_iff.mp hw
      have hb := hbb w2
      have e1 : wg g (i + 1) D = true := by show (wg g i D || wd g i (wp g i D)) = true; rw [hw, Bool.or_true]
      have e2 : ∀ v, wp g (i + 1) D v = if v = g.2.1 i then wp g i D (g.2.2.1 i) + (64 * g.2.2.2.1 i + 1) else wp g i D v := fun v => by
        show wr g i (wp g i D) v = _
        unfold wr
        rw [if_pos hw]
      have x0 : wp g i D (g.2.2.1 i) + (64 * g.2.2.2.1 i + 1) ≠ wI := by unfold wI; omega
      have x1 : (wp g i D (g.2.2.1 i) + (64 * g.2.2.2.1 i + 1)) / 64 = wp g i D (g.2.2.1 i) / 64 + g.2.2.2.1 i := by omega
      have x2 : (wp g i D (g.2.2.1 i) + (64 * g.2.2.2.1 i + 1)) % 64 = wp g i D (g.2.2.1 i) % 64 + 1 := by omega
      obtain ⟨τ', v3, r1, r2, r3, r4, r5⟩ := ih m (i + 1) v1 (tI (tJ τ 4 (g.2.1 i) (dn (wp g i D (g.2.2.1 i)) + lN (g.2.2.2.1 i))) 18 (g.2.1 i) (df (wp g i D (g.2.2.1 i)) + 1)) (by omega) (by omega) (nR_o hn (fun _ _ => rfl) (fun a h1 _ => tI_ne h1) (tJ_ne (A := τ) (a := 4) (b := 3) (k := g.2.1 i) (v := dn (wp g i D (g.2.2.1 i)) + lN (g.2.2.2.1 i)) (by decide))) (fun v hv => by
        show (tJ τ 4 (g.2.1 i) (dn (wp g i D (g.2.2.1 i)) + lN (g.2.2.2.1 i))).2.2 4 v = _ ∧ _
        rw [tJ_at, tI_at, e2]
        split
        · rw [dn_n x0, df_n x0, x1, x2, dn_n w2, df_n w2, lN_add, nI_1]; exact ⟨rfl, rfl⟩
        · exact hc v hv)
      rw [e1] at r1
      refine ⟨τ', v3, r1, r2, fun a ha => by rw [r3 a ha, tI_ne ha]; rfl, fun a ha => by rw [r4 a ha]; exact tJ_ne ha, r5⟩
    show ∃ τ' v3, ms_R_findNear_51 (ml_R_findNear_51 m) v1 (bI (wg g i D)) (nI i) τ = _ ∧ _
    unfold ms_R_findNear_51
    rw [if_neg (by rw [n3]; exact nI_ge hi (by omega))]
    simp only [T1, C1, a1, a3, T2, T3, C2, C3, a5, a6, c1, c2, c3, c4, nI_1]
    by_cases ho : g.2.2.2.2 i = 0
    · rw [if_pos ho, if_neg i1n]
      refine skip ?_
      have : ¬ wd g i (wp g i D) = true := fun q => (wd_iff.mp q).1 ho
      simpa using this
    rw [if_neg ho, if_pos rfl]
    by_cases hB : wp g i D (g.2.2.1 i) = wI
    · rw [if_pos ((dn_f (fun q => (hbb q).2)).mpr hB)]
      refine skip ?_
      have : ¬ wd g i (wp g i D) = true := fun q => (wd_iff.mp q).2.1 hB
      simpa using this
    rw [if_neg (fun q => hB ((dn_f (fun q => (hbb q).2)).mp q))]
    have hb := hbb hB
    have x0 : wp g i D (g.2.2.1 i) + (64 * g.2.2.2.1 i + 1) < wI := by unfold wI; omega
    have eb : dn (wp g i D (g.2.2.1 i)) + lN (g.2.2.2.1 i) = lN (wp g i D (g.2.2.1 i) / 64 + g.2.2.2.1 i) := by rw [dn_n hB, lN_add]
    have ef : df (wp g i D (g.2.2.1 i)) + 1 = nI (wp g i D (g.2.2.1 i) % 64 + 1) := by rw [df_n hB, nI_1]
    by_cases hA : wp g i D (g.2.1 i) = wI
    · rw [if_pos (by
        rw [lg_cmp_lt, eb, dn_I hA]
        show lN (wp g i D (g.2.2.1 i) / 64 + g.2.2.2.1 i) < lN 1000000000000
        rw [pk_lLT (by omega) (by decide)]; omega)]
      exact set (wd_iff.mpr ⟨ho, hB, by omega⟩)
    · have ha := hba hA
      have fin : (wd g i (wp g i D) = true) ↔ (wp g i D (g.2.2.1 i) / 64 + g.2.2.2.1 i < wp g i D (g.2.1 i) / 64 ∨ (wp g i D (g.2.2.1 i) / 64 + g.2.2.2.1 i = wp g i D (g.2.1 i) / 64 ∧ wp g i D (g.2.2.1 i) % 64 + 1 < wp g i D (g.2.1 i) % 64)) := by
        rw [wd_iff]
        exact ⟨fun q => by have := q.2.2; omega, fun q => ⟨ho, hB, by omega⟩⟩
      have eA : dn (wp g i D (g.2.1 i)) = lN (wp g i D (g.2.1 i) / 64) := dn_n hA
      have eF : df (wp g i D (g.2.1 i)) = nI (wp g i D (g.2.1 i) % 64) := df_n hA
      by_cases l1 : wp g i D (g.2.2.1 i) / 64 + g.2.2.2.1 i < wp g i D (g.2.1 i) / 64
      · rw [if_pos (by rw [lg_cmp_lt, eb, eA, pk_lLT (by omega) (by omega)]; exact l1)]
        exact set (fin.mpr (Or.inl l1))
      · rw [if_neg (by rw [lg_cmp_lt, eb, eA, pk_lLT (by omega) (by omega)]; exact l1)]
        by_cases l2 : wp g i D (g.2.2.1 i) / 64 + g.2.2.2.1 i = wp g i D (g.2.1 i) / 64
        · rw [if_pos (by rw [lg_cmp_eq, eb, eA, pk_lEQ (by omega) (by omega)]; exact l2)]
          by_cases l3 : wp g i D (g.2.2.1 i) % 64 + 1 < wp g i D (g.2.1 i) % 64
          · rw [if_neg (by rw [ef, eF, nI_leI (by omega) (by omega)]; omega)]
            exact set (fin.mpr (Or.inr ⟨l2, l3⟩))
          · rw [if_pos (by rw [ef, eF, nI_leI (by omega) (by omega)]; omega)]
            refine skip ?_
            have : ¬ wd g i (wp g i D) = true := fun q => by have := fin.mp q; omega
            simpa using this
        · rw [if_neg (by rw [lg_cmp_eq, eb, eA, pk_lEQ (by omega) (by omega)]; exact l2)]
          refine skip ?_
          have : ¬ wd g i (wp g i D) = true := fun q => by have := fin.mp q; omega
          simpa using this
theorem nearo_ok {g : wG} {z n : Nat} (hk : wGk g) (hz : z < 12) : ∀ (k m i : Nat) (c : Bool) (v1 : Int32) (τ : tS), i + k = 12 → k < m → nR g n τ → (∀ v, v < n → τ.2.2 4 v = dn (wk g i (w0 z) v) ∧ τ.2.1 18 v = df (wk g i (w0 z) v)) → (c = false → wk g i (w0 z) = wD g z) → (i = 12 → c = false) → ∃ τ', ml_R_findNear_43 m v1 (bI c) τ = some τ' ∧ τ'.1 = τ.1 ∧ (∀ a, a ≠ 18 → τ'.2.1 a = τ.2.1 a) ∧ (∀ a, a ≠ 4 → τ'.2.2 a = τ.2.2 a) ∧ ∀ v, v < n → τ'.2.2 4 v = dn (wD g z v) ∧ τ'.2.1 18 v = df (wD g z v) := by
  intro k
  induction k with
  | zero =>
    intro m i c v1 τ h1 h2 hn hc hD h12
    obtain ⟨m, rfl⟩ : ∃ q, m = q + 1 := ⟨m - 1, by omega⟩
    have ec := h12 (by omega)
    refine ⟨τ, ?_, rfl, fun _ _ => rfl, fun _ _ => rfl, by rw [← hD ec]; exact hc⟩
    show ms_R_findNear_43 (ml_R_findNear_43 m) v1 (bI c) τ = _
    unfold ms_R_findNear_43
    rw [ec, if_pos (show bI false = 0 from rfl)]
  | succ k ih =>
    intro m i c v1 τ h1 h2 hn hc hD h12
    obtain ⟨m, rfl⟩ : ∃ q, m = q + 1 := ⟨m - 1, by omega⟩
    show ∃ τ', ms_R_findNear_43 (ml_R_findNear_43 m) v1 (bI c) τ = _ ∧ _
    unfold ms_R_findNear_43
    cases c with
    | false =>
      exact ⟨τ, by rw [if_pos (show bI false = 0 from rfl)], rfl, fun _ _ => rfl, fun _ _ => rfl, by rw [← hD rfl]; exact hc⟩
    | true =>
      rw [if_neg (show ¬ bI true = 0 by decide)]
      have hVi := wV_k (g := g) hk (wV_0 hz) i
      obtain ⟨τ1, v3, q1, q2, q3, q4, q5⟩ := near_ok hk hVi g.1 4096 0 v1 τ (by omega) (by have := hn.2.2.2.1; omega) hn hc
      have q1' : ml_R_findNear_51 4096 v1 0 0 τ = some (v1, bI (wg g g.1 (wk g i (w0 z))), v3, τ1) := q1
      rw [q1', tb1_s]
      obtain ⟨τ', r1, r2, r3, r4, r5⟩ := ih m (i + 1) (wg g g.1 (wk g i (w0 z))) v1 τ1 (by omega) (by omega) (nR_o hn (fun i _ => by rw [q2]) (fun a h _ => q3 a h) (q4 3 (by decide))) q5 (fun hf => by
        have : wk g (i + 1) (w0 z) = wk g i (w0 z) := (wg_no hf).1
        rw [this]; exact wk_D hf (by omega)) (fun e => by
        have : i = 11 := by omega
        subst this
        exact w_done hk hz)
      exact ⟨τ', r1, by rw [r2, q2], fun a ha => by rw [r3 a ha, q3 a ha], fun a ha => by rw [r4 a ha, q4 a ha], r5⟩
theorem neari_ok {g : wG} {z n : Nat} (hk : wGk g) (hz : z < n) (hn12 : n ≤ 12) : ∀ (k m i : Nat) (τ : tS), i + k = n → k < m → nR g n τ → (∀ v, v < i → τ.2.2 4 v = dn (w0 z v) ∧ τ.2.1 18 v = df (w0 z v)) → ∃ τ', ml_R_findNear_2 m (nI z) (nI i) τ = some τ' ∧ τ'.1 = τ.1 ∧ (∀ a, a ≠ 18 → τ'.2.1 a = τ.2.1 a) ∧ (∀ a, a ≠ 4 → τ'.2.2 a = τ.2.2 a) ∧ ∀ v, v < n → τ'.2.2 4 v = dn (wD g z v) ∧ τ'.2.1 18 v = df (wD g z v) := by
  intro k
  induction k with
  | zero =>
    intro m i τ h1 h2 hn hc
    obtain ⟨m, rfl⟩ : ∃ q, m = q + 1 := ⟨m - 1, by omega⟩
    have e : i = n := by omega
    show ∃ τ', ms_R_findNear_2 (ml_R_findNear_2 m) (nI z) (nI i) τ = _ ∧ _
    unfold ms_R_findNear_2
    rw [if_pos (by rw [hn.1, e]; exact Int32.le_refl _)]
    rw [e] at hc
    exact nearo_ok hk (by omega) 12 4096 0 true (nI z) τ (by omega) (by decide) hn hc (fun h => by cases h) (fun h => by cases h)
  | succ k ih =>
    intro m i τ h1 h2 hn hc
    obtain ⟨m, rfl⟩ : ∃ q, m = q + 1 := ⟨m - 1, by omega⟩
    have T1 : ∀ {α : Type} (o : Option α), tg (nI i) 12 o = o := fun o => tg_n (by omega) (by decide)
    have C1 : (nI i).toNatClampNeg = i := nI_clamp (by omega)
    show ∃ τ', ms_R_findNear_2 (ml_R_findNear_2 m) (nI z) (nI i) τ = _ ∧ _
    unfold ms_R_findNear_2
    rw [if_neg (by rw [hn.1]; exact nI_ge (by omega) (by omega))]
    simp only [T1, C1, nI_1]
    have step : ∀ (x : Int64), x = dn (w0 z i) → ∃ τ', ml_R_findNear_2 m (nI z) (nI (i + 1)) (tI (tJ τ 4 i x) 18 i 0) = some τ' ∧ τ'.1 = τ.1 ∧ (∀ a, a ≠ 18 → τ'.2.1 a = τ.2.1 a) ∧ (∀ a, a ≠ 4 → τ'.2.2 a = τ.2.2 a) ∧ ∀ v, v < n → τ'.2.2 4 v = dn (wD g z v) ∧ τ'.2.1 18 v = df (wD g z v) := by
      intro x hx
      have d0 : df (w0 z i) = 0 := by
        unfold df w0
        split
        · rfl
        · rename_i q; split
          · rfl
          · rename_i q2; exact absurd (if_neg q2) q
      obtain ⟨τ', r1, r2, r3, r4, r5⟩ := ih m (i + 1) (tI (tJ τ 4 i x) 18 i 0) (by omega) (by omega) (nR_o hn (fun _ _ => rfl) (fun a h1 _ => tI_ne h1) (tJ_ne (A := τ) (a := 4) (b := 3) (k := i) (v := x) (by decide))) (fun v hv => by
        show (tJ τ 4 i x).2.2 4 v = _ ∧ _
        rw [tJ_at, tI_at]
        split
        · rename_i e; rw [e]; exact ⟨hx, d0.symm⟩
        · exact hc v (by omega))
      exact ⟨τ', r1, r2, fun a ha => by rw [r3 a ha, tI_ne ha]; rfl, fun a ha => by rw [r4 a ha]; exact tJ_ne ha, r5⟩
    by_cases e : i = z
    · rw [if_pos (by rw [e])]
      exact step 0 (by rw [e]; unfold w0; rw [if_pos rfl]; rfl)
    · rw [if_neg (by rw [nI_eq (by omega) (by omega)]; exact e)]
      exact step 1000000000000 (by unfold w0; rw [if_neg e]; rfl)
theorem findNear_ok {g : wG} {z n : Nat} (hk : wGk g) (hz : z < n) {τ : tS} (hn : nR g n τ) : ∃ τ', mf_R_findNear (nI z) τ = some τ' ∧ τ'.1 = τ.1 ∧ (∀ a, a ≠ 18 → τ'.2.1 a = τ.2.1 a) ∧ (∀ a, a ≠ 4 → τ'.2.2 a = τ.2.2 a) ∧ ∀ v, v < n → τ'.2.2 4 v = dn (wD g z v) ∧ τ'.2.1 18 v = df (wD g z v) :=
  neari_ok hk hz hn.2.1 n 4096 0 τ (by omega) (by have := hn.2.1; omega) hn (fun v hv => by omega)
