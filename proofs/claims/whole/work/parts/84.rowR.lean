/-! THE REFERENCE'S ROW OF STREETS -/
theorem best_ok {g : wG} {z n : Nat} (hk : wGk g) {D : Nat → Nat} (hV : wV g z D) {u : Nat} (hu : u < n) (hfu : D u ≠ wI) : ∀ (k m i : Nat) (v1 v2 : Int32) (τ : tS), i + k = g.1 → k < m → nR g n τ → (∀ v, v < n → τ.2.2 4 v = dn (D v) ∧ τ.2.1 18 v = df (D v)) → ∃ v5, ml_R_findWay_38 m v1 v2 (nI u) (wx (wn g D u i)) (nI i) τ = some (v1, v2, nI u, wx (wn g D u g.1), v5, τ) := by
  intro k
  induction k with
  | zero =>
    intro m i v1 v2 τ h1 h2 hn hc
    obtain ⟨m, rfl⟩ : ∃ q, m = q + 1 := ⟨m - 1, by omega⟩
    have e : i = g.1 := by omega
    refine ⟨nI i, ?_⟩
    show ms_R_findWay_38 (ml_R_findWay_38 m) v1 v2 (nI u) (wx (wn g D u i)) (nI i) τ = _
    unfold ms_R_findWay_38
    rw [if_pos (by rw [hn.2.2.1, e]; exact Int32.le_refl _), e]
  | succ k ih =>
    intro m i v1 v2 τ h1 h2 hn hc
    obtain ⟨m, rfl⟩ : ∃ q, m = q + 1 := ⟨m - 1, by omega⟩
    have hi : i < g.1 := by omega
    obtain ⟨n1, n2, n3, n4, n5⟩ := id hn
    obtain ⟨a1, a2, a3, a4, a5, a6⟩ := n5 i hi
    obtain ⟨ka, kb, kt⟩ := hk i hi
    obtain ⟨c1, c2⟩ := hc _ hu
    obtain ⟨c3, c4⟩ := hc _ a4
    have hI := wI_lt
    have hbb : D (g.2.2.1 i) ≠ wI → D (g.2.2.1 i) % 64 ≤ 11 ∧ D (g.2.2.1 i) / 64 ≤ 11000000 := wV_b hV kb
    have hba := wV_b hV (show u < 12 by omega) hfu
    have T1 : ∀ {α : Type} (o : Option α), tg (nI i) 40 o = o := fun o => tg_n (by omega) (by decide)
    have T2 : ∀ {α : Type} (o : Option α), tg (nI u) 12 o = o := fun o => tg_n (by omega) (by decide)
    have T3 : ∀ {α : Type} (o : Option α), tg (nI (g.2.2.1 i)) 12 o = o := fun o => tg_n kb (by decide)
    have C1 : (nI i).toNatClampNeg = i := nI_clamp (by omega)
    have C2 : (nI u).toNatClampNeg = u := nI_clamp (by omega)
    have C3 : (nI (g.2.2.1 i)).toNatClampNeg = g.2.2.1 i := nI_clamp (by omega)
    have hwx : wx (wn g D u i) = -1 ↔ wn g D u i = none := wx_n (fun s hs => by have := (wn_spec hs).1; omega)
    show ∃ v5, ms_R_findWay_38 (ml_R_findWay_38 m) v1 v2 (nI u) (wx (wn g D u i)) (nI i) τ = _
    unfold ms_R_findWay_38
    rw [if_neg (by rw [n3]; exact nI_ge hi (by omega))]
    by_cases hno : wn g D u i = none
    · rw [if_pos (hwx.mpr hno)]
      simp only [T1, C1, a1, a3, T2, T3, C2, C3, a5, a6, c1, c2, c3, c4, nI_1, i0e, i1n, ↓reduceIte]
      have skip : wt g D u i = false → ∃ v5, ml_R_findWay_38 m v1 v2 (nI u) (wx (wn g D u i)) (nI (i + 1)) τ = some (v1, v2, nI u, wx (wn g D u g.1), v5, τ) := fun ht => by
        have e : wn g D u (i + 1) = wn g D u i := by rw [wn_s1 hno, ht, hno]; rfl
        have := ih m (i + 1) v1 v2 τ (by omega) (by omega) hn hc
        rw [e] at this
        exact this
      by_cases hau : g.2.1 i = u
      · rw [if_pos (by rw [hau])]
        by_cases ho : g.2.2.2.2 i = 0
        · rw [if_pos ho, if_neg i1n]
          refine skip ?_
          have : ¬ wt g D u i = true := fun q => (wt_iff.mp q).1 ho
          simpa using this
        rw [if_neg ho, if_pos rfl]
        by_cases hB : D (g.2.2.1 i) = wI
        · rw [if_pos ((dn_f (fun q => (hbb q).2)).mpr hB)]
          refine skip ?_
          have : ¬ wt g D u i = true := fun q => (wt_iff.mp q).2.2.1 hB
          simpa using this
        rw [if_neg (fun q => hB ((dn_f (fun q => (hbb q).2)).mp q))]
        have hb := hbb hB
        have eb : dn (D (g.2.2.1 i)) + lN (g.2.2.2.1 i) = lN (D (g.2.2.1 i) / 64 + g.2.2.2.1 i) := by rw [dn_n hB, lN_add]
        have ef : df (D (g.2.2.1 i)) + 1 = nI (D (g.2.2.1 i) % 64 + 1) := by rw [df_n hB, nI_1]
        have fin : wt g D u i = true ↔ (D (g.2.2.1 i) / 64 + g.2.2.2.1 i = D u / 64 ∧ D (g.2.2.1 i) % 64 + 1 = D u % 64) := by
          rw [wt_iff]
          exact ⟨fun q => by have := q.2.2.2; omega, fun q => ⟨ho, hau, hB, by omega⟩⟩
        rw [eb, ef, dn_n hfu, df_n hfu]
        by_cases l1 : D (g.2.2.1 i) / 64 + g.2.2.2.1 i = D u / 64
        · rw [if_pos (by rw [lg_cmp_eq, l1])]
          by_cases l2 : D (g.2.2.1 i) % 64 + 1 = D u % 64
          · rw [if_pos (by rw [l2])]
            have e : wn g D u (i + 1) = some i := by rw [wn_s1 hno, if_pos (fin.mpr ⟨l1, l2⟩)]
            have := ih m (i + 1) v1 v2 τ (by omega) (by omega) hn hc
            rw [e] at this
            exact this
          · rw [if_neg (by rw [nI_eq (by omega) (by omega)]; exact l2)]
            refine skip ?_
            have : ¬ wt g D u i = true := fun q => l2 (fin.mp q).2
            simpa using this
        · rw [if_neg (by rw [lg_cmp_eq, pk_lEQ (by omega) (by omega)]; exact l1)]
          refine skip ?_
          have : ¬ wt g D u i = true := fun q => l1 (fin.mp q).1
          simpa using this
      · rw [if_neg (by rw [nI_eq (by omega) (by omega)]; exact hau)]
        refine skip ?_
        have : ¬ wt g D u i = true := fun q => hau (wt_iff.mp q).2.1
        simpa using this
    · rw [if_neg (fun q => hno (hwx.mp q))]
      rcases hq : wn g D u i with _ | s
      · exact absurd hq hno
      · exact ⟨nI i, by rw [wn_some hq (by omega)]⟩
theorem row_ok {g : wG} {z n : Nat} (hk : wGk g) (hz : z < n) {D : Nat → Nat} (hV : wV g z D) (hst : ∀ s, s < g.1 → wd g s D = false) : ∀ (f m r u : Nat) (v1 : Int32) (τ : tS), D u % 64 = f → u < n → D u ≠ wI → f < m → r + f ≤ 12 → nR g n τ → τ.1 6 = nI r → (∀ v, v < n → τ.2.2 4 v = dn (D v) ∧ τ.2.1 18 v = df (D v)) → ∃ τ', ml_R_findWay_27 m v1 (nI z) (nI u) τ = some (1, τ') ∧ (∀ i, i ≠ 6 → τ'.1 i = τ.1 i) ∧ τ'.1 6 = nI (r + (wP g D u).length) ∧ (∀ a, a ≠ 19 → τ'.2.1 a = τ.2.1 a) ∧ τ'.2.2 = τ.2.2 ∧ (∀ j, j < r → τ'.2.1 19 j = τ.2.1 19 j) ∧ ∀ j, j < (wP g D u).length → τ'.2.1 19 (r + j) = nI ((wP g D u).getD j 0) := by
  intro f
  have atz : ∀ (m r : Nat) (v1 : Int32) (τ : tS), 0 < m → τ.1 6 = nI r → ∃ τ', ml_R_findWay_27 m v1 (nI z) (nI z) τ = some (1, τ') ∧ (∀ i, i ≠ 6 → τ'.1 i = τ.1 i) ∧ τ'.1 6 = nI (r + (wP g D z).length) ∧ (∀ a, a ≠ 19 → τ'.2.1 a = τ.2.1 a) ∧ τ'.2.2 = τ.2.2 ∧ (∀ j, j < r → τ'.2.1 19 j = τ.2.1 19 j) ∧ ∀ j, j < (wP g D z).length → τ'.2.1 19 (r + j) = nI ((wP g D z).getD j 0) := by
    intro m r v1 τ hm h6
    obtain ⟨m, rfl⟩ : ∃ q, m = q + 1 := ⟨m - 1, by omega⟩
    rw [wP_z hV]
    refine ⟨τ, ?_, fun _ _ => rfl, h6, fun _ _ => rfl, rfl, fun _ _ => rfl, fun j hj => by cases hj⟩
    show ms_R_findWay_27 (ml_R_findWay_27 m) v1 (nI z) (nI z) τ = _
    unfold ms_R_findWay_27
    rw [if_pos rfl, tb_1]
  induction f with
  | zero =>
    intro m r u v1 τ h0 hu hf hm hr hn h6 hc
    have e := (wP_l hk hV hst 0 u hf h0).2.2 rfl
    subst e
    exact atz m r v1 τ (by omega) h6
  | succ f ih =>
    intro m r u v1 τ h0 hu hf hm hr hn h6 hc
    by_cases e : u = z
    · subst e
      exact atz m r v1 τ (by omega) h6
    obtain ⟨s, s1, s2, s3, s4, s5, s6, s7⟩ := wP_s hk hV hst hf e
    obtain ⟨m, rfl⟩ : ∃ q, m = q + 1 := ⟨m - 1, by omega⟩
    obtain ⟨n1, n2, n3, n4, n5⟩ := id hn
    obtain ⟨a1, a2, a3, a4, a5, a6⟩ := n5 s s2
    obtain ⟨v5, b1⟩ := best_ok hk hV hu hf g.1 4096 0 v1 (nI z) τ (by omega) (by omega) hn hc
    have b1' : ml_R_findWay_38 4096 v1 (nI z) (nI u) (-1) 0 τ = some (v1, nI z, nI u, nI s, v5, τ) := by rw [s1] at b1; exact b1
    show ∃ τ', ms_R_findWay_27 (ml_R_findWay_27 m) v1 (nI z) (nI u) τ = _ ∧ _
    unfold ms_R_findWay_27
    rw [if_neg (by rw [nI_eq (by omega) (by omega)]; exact e), b1', tb1_s]
    have C1 : (nI s).toNatClampNeg = s := nI_clamp (by omega)
    have C2 : (nI r).toNatClampNeg = r := nI_clamp (by omega)
    have T1 : ∀ {α : Type} (o : Option α), tg (nI s) 40 o = o := fun o => tg_n (by omega) (by decide)
    have T2 : ∀ {α : Type} (o : Option α), tg (nI r) 40 o = o := fun o => tg_n (by omega) (by decide)
    simp only [h6, T1, T2, C1, C2, a3, nI_1]
    obtain ⟨τ', r1, r2, r3, r4, r5, r6, r7⟩ := ih m (r + 1) (g.2.2.1 s) v1 (tF (tI τ 19 r (nI s)) 6 (nI (r + 1))) (by omega) a4 s5 (by omega) (by omega) (nR_o hn (fun i hi => tF_ne hi) (fun a _ h2 => tI_ne h2) rfl) rfl hc
    refine ⟨τ', r1, fun i hi => by rw [r2 i hi]; exact tF_ne hi, ?_, fun a ha => by rw [r4 a ha]; exact tI_ne ha, r5, fun j hj => ?_, fun j hj => ?_⟩
    · rw [r3, s7, List.length_cons]; congr 1; omega
    · rw [r6 j (by omega)]
      show (tI τ 19 r (nI s)).2.1 19 j = _
      rw [tI_at, if_neg (by omega)]
    · rw [s7] at hj ⊢
      rw [List.length_cons] at hj
      cases j with
      | zero =>
        rw [Nat.add_zero, r6 r (by omega)]
        show (tI τ 19 r (nI s)).2.1 19 r = _
        rw [tI_at, if_pos rfl]; rfl
      | succ j =>
        have := r7 j (by omega)
        rw [show r + (j + 1) = r + 1 + j by omega, this]; rfl
theorem findWay_ok {g : wG} {z n u : Nat} (hk : wGk g) (hz : z < n) (hu : u < n) {τ : tS} (hn : nR g n τ) : ∃ τ', mf_R_findWay (nI u) (nI z) τ = some (if wD g z u = wI then 0 else 1, τ') ∧ (∀ i, i ≠ 6 → τ'.1 i = τ.1 i) ∧ (∀ a, a ≠ 18 → a ≠ 19 → τ'.2.1 a = τ.2.1 a) ∧ (∀ a, a ≠ 4 → τ'.2.2 a = τ.2.2 a) ∧ (wD g z u ≠ wI → τ'.1 6 = nI (wP g (wD g z) u).length ∧ (wP g (wD g z) u).length ≤ 11 ∧ ∀ j, j < (wP g (wD g z) u).length → τ'.2.1 19 j = nI ((wP g (wD g z) u).getD j 0)) := by
  have hn12 := hn.2.1
  have hV := wD_V (g := g) hk (show z < 12 by omega)
  obtain ⟨τ1, q1, q2, q3, q4, q5⟩ := findNear_ok hk hz hn
  unfold mf_R_findWay
  rw [q1, tb1_s, tg_n (show u < 12 by omega) (by decide), nI_clamp (by omega), (q5 u hu).1]
  by_cases h : wD g z u = wI
  · rw [if_pos ((dn_f (fun q => absurd h q)).mpr h), tb_0, if_pos h]
    exact ⟨tF τ1 6 0, rfl, fun i hi => by rw [tF_ne hi, q2], fun a h1 _ => q3 a h1, q4, fun q => absurd h q⟩
  · have hb := wV_b hV (show u < 12 by omega) h
    rw [if_neg (fun q => h ((dn_f (fun _ => hb.2)).mp q)), if_neg h]
    have hl := (wP_l hk hV (wD_s hk (by omega)) _ u h rfl).1
    obtain ⟨τ', r1, r2, r3, r4, r5, r6, r7⟩ := row_ok hk hz hV (wD_s hk (by omega)) (wD g z u % 64) 4096 0 u (nI u) (tF τ1 6 0) rfl hu h (by omega) (by omega) (nR_o hn (fun i hi => by rw [tF_ne hi, q2]) (fun a h1 _ => q3 a h1) (q4 3 (by decide))) rfl q5
    refine ⟨τ', r1, fun i hi => by rw [r2 i hi, tF_ne hi, q2], fun a h1 h2 => by rw [r4 a h2]; exact q3 a h1, fun a ha => by rw [r5]; exact q4 a ha, fun _ => ⟨by rw [r3, Nat.zero_add], by omega, fun j hj => ?_⟩⟩
    have := r7 j hj
    rw [Nat.zero_add] at this
    exact this
