/-! FITTING, AND THE START -/
def oc (A : tS) (s : Nat) : Nat := if A.2.1 14 s = -1 then 0 else if qn A 14 s ≤ qn A 15 s then qn A 15 s - qn A 14 s else qn A 14 s - qn A 15 s
def ob (A : tS) (o : Option Nat) : Nat := match o with
  | none => 0
  | some s => oc A s
def fa (A : tS) : Nat → Option Nat
  | 0 => none
  | i + 1 => if ob A (fa A i) < oc A i then some i else fa A i
theorem fa_spec {A : tS} : ∀ {i s : Nat}, fa A i = some s → s < i ∧ 0 < oc A s := by
  intro i
  induction i with
  | zero => intro s h; cases h
  | succ i ih =>
    intro s h
    have h' : (if ob A (fa A i) < oc A i then some i else fa A i) = some s := h
    split at h'
    · cases h'; exact ⟨Nat.lt_succ_self _, by omega⟩
    · have := ih h'; exact ⟨by omega, this.2⟩
theorem abs_n {a b : Nat} (ha : a < 2 ^ 30) (hb : b < 2 ^ 30) : (if 0 ≤ nI a - nI b then nI a - nI b else 0 - (nI a - nI b)) = nI (if b ≤ a then a - b else b - a) := by
  by_cases h : b ≤ a
  · rw [pk_sub h, if_pos (nI_pos' (by omega)), if_pos h]
  · have hneg := pk_sneg (a := a) (b := b) hb (by omega)
    rw [if_neg (by rw [Int32.le_iff_toInt_le]; rw [Int32.lt_iff_toInt_lt] at hneg; omega), Int32.zero_sub, Int32.neg_sub, pk_sub (by omega), if_neg h]
theorem oc_b {A : tS} (hB : Bnd A) {s : Nat} (hs : s < 40) : oc A s ≤ 500000000 := by
  have b15 : qn A 15 s ≤ 500000000 := Bg_b hB 15 (k := s) hs
  unfold oc
  split
  · omega
  · rename_i h
    have : qn A 14 s ≤ 1000000 := by
      rcases hB.2.2.1.1 s hs with e | e
      · exact absurd e h
      · exact e.2
    split <;> omega
theorem ob_b {A : tS} (hB : Bnd A) {i : Nat} (hi : i ≤ 40) : ob A (fa A i) ≤ 500000000 := by
  rcases hq : fa A i with _ | s
  · exact Nat.zero_le _
  · exact oc_b hB (by have := (fa_spec hq).1; omega)
theorem far_l {A : tS} (hB : Bnd A) : ∀ (k f i : Nat), i + k = qS A → k < f → ml_S_farthestFromCount_6 f (wx (fa A i)) (nI (ob A (fa A i))) (nI i) A = some (wx (fa A (qS A)), A) := by
  obtain ⟨eS, hS⟩ := Bg_S hB
  intro k
  induction k with
  | zero =>
    intro f i h1 h2
    obtain ⟨f, rfl⟩ : ∃ q, f = q + 1 := ⟨f - 1, by omega⟩
    have e : i = qS A := by omega
    show ms_S_farthestFromCount_6 (ml_S_farthestFromCount_6 f) _ _ (nI i) A = _
    unfold ms_S_farthestFromCount_6
    rw [if_pos (by rw [eS, e]; exact Int32.le_refl _), e]
  | succ k ih =>
    intro f i h1 h2
    obtain ⟨f, rfl⟩ : ∃ q, f = q + 1 := ⟨f - 1, by omega⟩
    have hi4 : i < 40 := by omega
    have b15 : qn A 15 i ≤ 500000000 := Bg_b hB 15 (k := i) hi4
    have hob := ob_b hB (i := i) (by omega)
    have hoc := oc_b hB hi4
    have next := ih f (i + 1) (by omega) (by omega)
    have hs : fa A (i + 1) = if ob A (fa A i) < oc A i then some i else fa A i := rfl
    show ms_S_farthestFromCount_6 (ml_S_farthestFromCount_6 f) _ _ (nI i) A = _
    unfold ms_S_farthestFromCount_6
    rw [if_neg (by rw [eS]; exact nI_ge (by omega) (by omega)), tg_n hi4 (by decide), nI_clamp (by omega)]
    by_cases hm : A.2.1 14 i = -1
    · have h0 : oc A i = 0 := if_pos hm
      rw [hs, if_neg (by omega)] at next
      rw [if_pos hm, if_pos (nI_pos' (by omega)), nI_1]
      exact next
    · obtain ⟨c1, c2⟩ : A.2.1 14 i = nI (qn A 14 i) ∧ qn A 14 i ≤ 1000000 := by
        rcases hB.2.2.1.1 i hi4 with e | e
        · exact absurd e hm
        · exact e
      have ho : (if qn A 14 i ≤ qn A 15 i then qn A 15 i - qn A 14 i else qn A 14 i - qn A 15 i) = oc A i := by unfold oc; rw [if_neg hm]
      rw [if_neg hm, tg_n hi4 (by decide), tg_n hi4 (by decide), Bg_q hB 15 (k := i) hi4, c1, abs_n (by omega) (by omega), ho, nI_1]
      by_cases hl : ob A (fa A i) < oc A i
      · rw [hs, if_pos hl] at next
        rw [if_neg (nI_ge hl (by omega))]
        exact next
      · rw [hs, if_neg hl] at next
        rw [if_pos (nI_le (by omega) (by omega))]
        exact next
theorem far_ok {A : tS} (hB : Bnd A) : mf_S_farthestFromCount A = some (wx (fa A (qS A)), A) := far_l hB (qS A) 4096 0 (by omega) (by have := (Bg_S hB).2; omega)
theorem off_ok {A τ : tS} (hB : Bnd A) (hR : Rf τ A) {s : Nat} (hs : s < qS A) (hm : A.2.1 14 s ≠ -1) : mf_R_offOf (nI s) τ = some (lN (oc A s), τ) := by
  have hS := (Bg_S hB).2
  have hs4 : s < 40 := by omega
  have b15 : qn A 15 s ≤ 500000000 := Bg_b hB 15 (k := s) hs4
  obtain ⟨c1, c2⟩ : A.2.1 14 s = nI (qn A 14 s) ∧ qn A 14 s ≤ 1000000 := by
    rcases hB.2.2.1.1 s hs4 with e | e
    · exact absurd e hm
    · exact e
  have eV : τ.2.2 0 s = lN (qn A 15 s) := by rw [hR.2.2.2.2.2 s hs4, Bg_q hB 15 (k := s) hs4, nI_l (by omega)]
  have e10 : τ.2.1 10 s = nI (qn A 14 s) := (hR.2.2.2.1 s hs).trans c1
  unfold mf_R_offOf
  rw [tg_n hs4 (by decide), tg_n hs4 (by decide), nI_clamp (by omega), eV, e10, nI_l (by omega)]
  unfold oc
  rw [if_neg hm]
  have ht := l_sub_t (a := qn A 15 s) (b := qn A 14 s) (by omega) (by omega)
  have z0 : (0 : Int64).toInt = 0 := rfl
  by_cases h : qn A 14 s ≤ qn A 15 s
  · rw [if_pos (by rw [lg_cmp_ge, Int64.le_iff_toInt_le, ht, z0]; omega), if_pos h, lN_sub h]
  · rw [if_neg (by rw [lg_cmp_ge, Int64.le_iff_toInt_le, ht, z0]; omega), if_neg h, Int64.neg_sub, lN_sub (by omega)]
theorem worst_l {A τ : tS} (hB : Bnd A) (hR : Rf τ A) : ∀ (k f i : Nat), i + k = qS A → k < f → ml_R_worst_4 f (wx (fa A i)) (nI i) τ = some (wx (fa A (qS A)), τ) := by
  obtain ⟨eS, hS⟩ := Bg_S hB
  have eR : τ.1 3 = nI (qS A) := by rw [hR.1.2.2.1]; exact eS
  intro k
  induction k with
  | zero =>
    intro f i h1 h2
    obtain ⟨f, rfl⟩ : ∃ q, f = q + 1 := ⟨f - 1, by omega⟩
    have e : i = qS A := by omega
    show ms_R_worst_4 (ml_R_worst_4 f) _ (nI i) τ = _
    unfold ms_R_worst_4
    rw [if_pos (by rw [eR, e]; exact Int32.le_refl _), e]
  | succ k ih =>
    intro f i h1 h2
    obtain ⟨f, rfl⟩ : ∃ q, f = q + 1 := ⟨f - 1, by omega⟩
    have hi : i < qS A := by omega
    have hi4 : i < 40 := by omega
    have hoc := oc_b hB hi4
    have next := ih f (i + 1) (by omega) (by omega)
    have hs : fa A (i + 1) = if ob A (fa A i) < oc A i then some i else fa A i := rfl
    have e10 : τ.2.1 10 i = A.2.1 14 i := hR.2.2.2.1 i hi
    show ms_R_worst_4 (ml_R_worst_4 f) _ (nI i) τ = _
    unfold ms_R_worst_4
    rw [if_neg (by rw [eR]; exact nI_ge hi (by omega)), tg_n hi4 (by decide), nI_clamp (by omega), e10]
    by_cases hm : A.2.1 14 i = -1
    · have h0 : oc A i = 0 := if_pos hm
      rw [hs, if_neg (by omega)] at next
      rw [if_pos hm, nI_1]
      exact next
    · rw [if_neg hm, off_ok hB hR hi hm, tb2_s, nI_1]
      by_cases h0 : oc A i = 0
      · rw [hs, if_neg (by omega)] at next
        rw [if_pos (by rw [h0]; decide)]
        exact next
      · rw [if_neg (by
          rw [lg_cmp_le]
          show ¬ lN (oc A i) ≤ lN 0
          rw [pk_lLE (by omega) (by decide)]; omega)]
        rcases hq : fa A i with _ | s
        · have hob : ob A (fa A i) = 0 := by rw [hq]; rfl
          rw [hs, if_pos (by omega)] at next
          rw [if_pos (show wx none = -1 from rfl)]
          exact next
        · obtain ⟨f1, f2⟩ := fa_spec hq
          have hob : ob A (fa A i) = oc A s := by rw [hq]; rfl
          have hms : A.2.1 14 s ≠ -1 := fun e => by
            have : oc A s = 0 := if_pos e
            omega
          have hocs := oc_b hB (s := s) (by omega)
          rw [hs, hob] at next
          rw [if_neg (fun q => by have := (wx_n (o := some s) (fun q hq => by cases hq; omega)).mp q; cases this), off_ok hB hR hi hm, tb2_s]
          have e2 : mf_R_offOf (wx (some s)) τ = some (lN (oc A s), τ) := off_ok hB hR (by omega) hms
          rw [e2, tb2_s]
          by_cases hl : oc A s < oc A i
          · rw [if_pos hl] at next
            rw [if_neg (by rw [lg_cmp_le, pk_lLE (by omega) (by omega)]; omega)]
            exact next
          · rw [if_neg hl, hq] at next
            rw [if_pos (by rw [lg_cmp_le, pk_lLE (by omega) (by omega)]; omega)]
            exact next
theorem worst_ok {A τ : tS} (hB : Bnd A) (hR : Rf τ A) : mf_R_worst τ = some (wx (fa A (qS A)), τ) := worst_l hB hR (qS A) 4096 0 (by omega) (by have := (Bg_S hB).2; omega)
/-! the users of a street -/
theorem Rel_4q {σ τ : tS} {q n : Nat} (h : Rel σ τ) (hn : n ≤ 1000000) (h0 : σ.2.1 4 q = 0 → n = 0) : Rel (tI σ 4 q (nI n)) (tI τ 12 q (nI n)) := by
  obtain ⟨b1, b2, b3, b4, b5, b6⟩ := h.1
  refine ⟨⟨Bg_I b1 hn, Bf_I b2 (by decide), Bc_I b3 (by decide), Br_I b4 (by decide), Bp_I b5 (by decide), fun i' j' hi' hj' hz => ?_⟩, Rf_I (a := 4) (by decide) h.2⟩
  have hb := b6 i' j' hi' hj' hz
  rw [tI_at]
  split
  · rename_i e
    rw [e] at hb
    rw [h0 hb]; rfl
  · exact hb
theorem scale_l {s V c : Nat} (hV0 : 0 < V) (hV : V ≤ 500000000) (hc : c ≤ 1000000) (v1 v2 : Int32) : ∀ (k f q : Nat) (σ τ : tS), q + k = 36 → k < f → Rel σ τ → s < qS σ → qn σ 15 s = V → σ.2.1 14 s = nI c → ∃ σ' τ' v4, ml_T_scaleUsersOf_21 f (nI s) (lN V) (nI q) σ = some σ' ∧ ml_R_fit_70 f v1 v2 (nI s) (nI q) τ = some (v1, v2, nI s, v4, τ') ∧ Rel σ' τ' ∧ σ'.1 = σ.1 ∧ τ'.1 = τ.1 := by
  intro k
  induction k with
  | zero =>
    intro f q σ τ h1 h2 h hs hq hcn
    obtain ⟨f, rfl⟩ : ∃ q, f = q + 1 := ⟨f - 1, by omega⟩
    have e : q = 36 := by omega
    subst e
    refine ⟨σ, τ, nI 36, ?_, ?_, h, rfl, rfl⟩
    · show ms_T_scaleUsersOf_21 (ml_T_scaleUsersOf_21 f) (nI s) (lN V) (nI 36) σ = _
      unfold ms_T_scaleUsersOf_21
      rw [if_pos (by decide)]
    · show ms_R_fit_70 (ml_R_fit_70 f) v1 v2 (nI s) (nI 36) τ = _
      unfold ms_R_fit_70
      rw [if_pos (by decide)]
  | succ k ih =>
    intro f q σ τ h1 h2 h hs hq hcn
    obtain ⟨f, rfl⟩ : ∃ q, f = q + 1 := ⟨f - 1, by omega⟩
    have hS := (Bg_S h.1).2
    have hs4 : s < 40 := by omega
    have hq36 : q < 36 := by omega
    have b4 : qn σ 4 q ≤ 1000000 := Bg_b h.1 4 (k := q) hq36
    have hx : 36 * s + q < 1440 := by omega
    have eU : τ.2.1 15 (36 * s + q) = σ.2.1 20 (36 * s + q) := Rf_r h.2 20 (k := 36 * s + q) hx
    have e4 : σ.2.1 4 q = nI (qn σ 4 q) := Bg_q h.1 4 (k := q) hq36
    have e12 : τ.2.1 12 q = nI (qn σ 4 q) := (Rf_r h.2 4 (k := q) hq36).trans e4
    have e10 : τ.2.1 10 s = nI c := (h.2.2.2.2.1 s hs).trans hcn
    have eV : τ.2.2 0 s = lN V := by rw [h.2.2.2.2.2.2 s hs4, Bg_q h.1 15 (k := s) hs4, hq, nI_l (by omega)]
    have m1 : qn σ 4 q * c ≤ 1000000 * 1000000 := Nat.mul_le_mul b4 hc
    have m2 : qn σ 4 q * c / V ≤ qn σ 4 q * c := Nat.div_le_self _ _
    have T1 : ∀ {α : Type} (o : Option α), tg (nI (36 * s + q)) 1440 o = o := fun o => tg_n hx (by decide)
    have C1 : (nI (36 * s + q)).toNatClampNeg = 36 * s + q := nI_clamp (by omega)
    have T2 : ∀ {α : Type} (o : Option α), tg (nI q) 36 o = o := fun o => tg_n hq36 (by decide)
    have C2 : (nI q).toNatClampNeg = q := nI_clamp (by omega)
    have T3 : ∀ {α : Type} (o : Option α), tg (nI s) 40 o = o := fun o => tg_n hs4 (by decide)
    have C3 : (nI s).toNatClampNeg = s := nI_clamp (by omega)
    have T4 : ∀ {α : Type} (o : Option α), tz (lN V) o = o := fun o => tz_n hV0 (by omega)
    by_cases hu : σ.2.1 20 (36 * s + q) ≤ 0
    · obtain ⟨σ', τ', v4, r1, r2, r⟩ := ih f (q + 1) σ τ (by omega) (by omega) h hs hq hcn
      refine ⟨σ', τ', v4, ?_, ?_, r⟩
      · show ms_T_scaleUsersOf_21 (ml_T_scaleUsersOf_21 f) (nI s) (lN V) (nI q) σ = _
        unfold ms_T_scaleUsersOf_21 mf_A_placeOf
        rw [if_neg (show ¬ (36 : Int32) ≤ nI q from nI_ge (b := 36) hq36 (by decide)), tb2_s, nI_36.1]
        simp only [T1, C1, if_pos hu, nI_1]
        exact r1
      · show ms_R_fit_70 (ml_R_fit_70 f) v1 v2 (nI s) (nI q) τ = _
        unfold ms_R_fit_70
        rw [if_neg (show ¬ (36 : Int32) ≤ nI q from nI_ge (b := 36) hq36 (by decide)), nI_36.2]
        simp only [T1, C1, eU, if_pos hu, nI_1]
        exact r2
    · have hn : (if 1000000 < qn σ 4 q * c / V then 1000000 else qn σ 4 q * c / V) ≤ 1000000 := by split <;> omega
      have h0 : σ.2.1 4 q = 0 → (if 1000000 < qn σ 4 q * c / V then 1000000 else qn σ 4 q * c / V) = 0 := fun e => by
        have : qn σ 4 q = 0 := by unfold qn; rw [e]; rfl
        rw [this, Nat.zero_mul, Nat.zero_div]; rfl
      obtain ⟨σ', τ', v4, r1, r2, r⟩ := ih f (q + 1) (tI σ 4 q (nI (if 1000000 < qn σ 4 q * c / V then 1000000 else qn σ 4 q * c / V))) (tI τ 12 q (nI (if 1000000 < qn σ 4 q * c / V then 1000000 else qn σ 4 q * c / V))) (by omega) (by omega) (Rel_4q h hn h0) hs (by rw [qn_ne (by decide)]; exact hq) (by rw [tI_ne (by decide)]; exact hcn)
      refine ⟨σ', τ', v4, ?_, ?_, r⟩
      · show ms_T_scaleUsersOf_21 (ml_T_scaleUsersOf_21 f) (nI s) (lN V) (nI q) σ = _
        unfold ms_T_scaleUsersOf_21 mf_A_placeOf
        rw [if_neg (show ¬ (36 : Int32) ≤ nI q from nI_ge (b := 36) hq36 (by decide)), tb2_s, nI_36.1]
        simp only [T1, C1, if_neg hu, T2, C2, T3, C3, T4, e4, hcn, nI_1]
        rw [nI_l (by omega), nI_l (by omega), lN_mul, pk_lDiv (by omega) hV0 (by omega)]
        have en : (if (1000000 : Int64) < lN (qn σ 4 q * c / V) then (1000000 : Int64) else lN (qn σ 4 q * c / V)).toInt32 = nI (if 1000000 < qn σ 4 q * c / V then 1000000 else qn σ 4 q * c / V) := by
          by_cases a1 : 1000000 < qn σ 4 q * c / V
          · rw [if_pos (show (1000000 : Int64) < lN (qn σ 4 q * c / V) from (pk_lLT (a := 1000000) (by decide) (by omega)).mpr a1), if_pos a1]; rfl
          · rw [if_neg (show ¬ (1000000 : Int64) < lN (qn σ 4 q * c / V) from fun q => a1 ((pk_lLT (a := 1000000) (by decide) (by omega)).mp q)), if_neg a1, lN_i]
        rw [en]; exact r1
      · show ms_R_fit_70 (ml_R_fit_70 f) v1 v2 (nI s) (nI q) τ = _
        unfold ms_R_fit_70
        rw [if_neg (show ¬ (36 : Int32) ≤ nI q from nI_ge (b := 36) hq36 (by decide)), nI_36.2]
        simp only [T1, C1, eU, if_neg hu, T2, C2, T3, C3, e12, e10, eV, T4, nI_1]
        rw [nI_l (by omega), nI_l (by omega), lN_mul, pk_lDiv (by omega) hV0 (by omega)]
        by_cases a1 : 1000000 < qn σ 4 q * c / V
        · rw [if_pos a1] at r2
          rw [if_neg (by rw [lg_cmp_le]; exact fun q => by have := (pk_lLE (b := 1000000) (by omega) (by decide)).mp q; omega)]
          exact r2
        · rw [if_neg a1] at r2
          rw [if_pos (by rw [lg_cmp_le]; exact (pk_lLE (b := 1000000) (by omega) (by decide)).mpr (by omega)), lN_i]
          exact r2
theorem fit_l {n P : Nat} (hn : n ≤ 20) (hP1 : 1 ≤ P) (hP8 : P ≤ 8) : ∀ (k f d : Nat) (σ τ : tS), d + k = n → k < f → Rel σ τ → σ.1 3 = nI P → ∃ v σ' τ', ml_T_fit_29 f (nI n) (nI d) σ = some (v, σ') ∧ ml_R_fit_46 f (nI n) (nI d) (wx (fa σ (qS σ))) τ = some (v, τ') ∧ Rel σ' τ' ∧ τ'.1 0 = τ.1 0 := by
  intro k
  induction k with
  | zero =>
    intro f d σ τ h1 h2 h h3
    obtain ⟨f, rfl⟩ : ∃ q, f = q + 1 := ⟨f - 1, by omega⟩
    have e : d = n := by omega
    subst e
    refine ⟨nI d, σ, τ, ?_, ?_, h, rfl⟩
    · show ms_T_fit_29 (ml_T_fit_29 f) (nI d) (nI d) σ = _
      unfold ms_T_fit_29
      rw [if_pos (Int32.le_refl _)]
    · show ms_R_fit_46 (ml_R_fit_46 f) (nI d) (nI d) _ τ = _
      unfold ms_R_fit_46
      rw [if_pos (Int32.le_refl _)]
  | succ k ih =>
    intro f d σ τ h1 h2 h h3
    obtain ⟨f, rfl⟩ : ∃ q, f = q + 1 := ⟨f - 1, by omega⟩
    have hS := (Bg_S h.1).2
    have hf := far_ok h.1
    rcases hq : fa σ (qS σ) with _ | s
    · rw [hq] at hf
      refine ⟨nI d, σ, τ, ?_, ?_, h, rfl⟩
      · show ms_T_fit_29 (ml_T_fit_29 f) (nI n) (nI d) σ = _
        unfold ms_T_fit_29
        rw [if_neg (nI_ge (by omega) (by omega)), hf, tb2_s, if_pos (show wx none = -1 from rfl)]
      · show ms_R_fit_46 (ml_R_fit_46 f) (nI n) (nI d) (wx none) τ = _
        unfold ms_R_fit_46
        rw [if_neg (nI_ge (by omega) (by omega)), if_pos (show wx none = -1 from rfl)]
    · obtain ⟨f1, f2⟩ := fa_spec hq
      have hs4 : s < 40 := by omega
      have b15 : qn σ 15 s ≤ 500000000 := Bg_b h.1 15 (k := s) hs4
      have e15 : σ.2.1 15 s = nI (qn σ 15 s) := Bg_q h.1 15 (k := s) hs4
      have eV : τ.2.2 0 s = lN (qn σ 15 s) := by rw [h.2.2.2.2.2.2 s hs4, e15, nI_l (by omega)]
      have hms : σ.2.1 14 s ≠ -1 := fun e => by
        have : oc σ s = 0 := if_pos e
        omega
      obtain ⟨c1, c2⟩ : σ.2.1 14 s = nI (qn σ 14 s) ∧ qn σ 14 s ≤ 1000000 := by
        rcases h.1.2.2.1.1 s hs4 with e | e
        · exact absurd e hms
        · exact e
      have hne : ¬ nI s = -1 := fun q => by have := (wx_n (o := some s) (fun q hq => by cases hq; omega)).mp q; cases this
      rw [hq] at hf
      have hf' : mf_S_farthestFromCount σ = some (nI s, σ) := hf
      by_cases hV0 : qn σ 15 s = 0
      · refine ⟨nI d, σ, τ, ?_, ?_, h, rfl⟩
        · show ms_T_fit_29 (ml_T_fit_29 f) (nI n) (nI d) σ = _
          unfold ms_T_fit_29
          rw [if_neg (nI_ge (by omega) (by omega)), hf', tb2_s, if_neg hne, tg_n hs4 (by decide), nI_clamp (by omega), e15, hV0, if_pos (show nI 0 = 0 from rfl)]
        · show ms_R_fit_46 (ml_R_fit_46 f) (nI n) (nI d) (nI s) τ = _
          unfold ms_R_fit_46
          rw [if_neg (nI_ge (by omega) (by omega)), if_neg hne, tg_n hs4 (by decide), nI_clamp (by omega), eV, hV0, if_pos (show lg_cmp (lN 0) 0 ≤ 0 by decide)]
      · obtain ⟨σ1, τ1, v4, q1, q2, q3, q4, q5⟩ := scale_l (s := s) (V := qn σ 15 s) (c := qn σ 14 s) (by omega) b15 c2 (nI n) (nI d) 36 4096 0 σ τ (by decide) (by decide) h f1 rfl c1
        have q1' : mf_T_scaleUsersOf (nI s) σ = some σ1 := by
          unfold mf_T_scaleUsersOf
          rw [tg_n hs4 (by decide), nI_clamp (by omega), e15, nI_l (by omega), if_neg (by
            rw [lg_cmp_eq]
            show ¬ lN (qn σ 15 s) = lN 0
            rw [pk_lEQ (by omega) (by decide)]; exact hV0)]
          exact q1
        have q2' : ml_R_fit_70 4096 (nI n) (nI d) (nI s) 0 τ = some (nI n, nI d, nI s, v4, τ1) := q2
        have e3 : σ1.1 3 = nI P := by rw [q4]; exact h3
        have e4 : τ1.1 4 = nI P := by rw [q3.2.1.2.2.2.1]; exact e3
        obtain ⟨σ2, τ2, u1, u2, u3, u4, u5⟩ := assign_ok q3 hP1 hP8
        have w := worst_ok u3.1 u3.2
        obtain ⟨v, σ', τ', r1, r2, r3, r4⟩ := ih f (d + 1) σ2 τ2 (by omega) (by omega) u3 u5
        refine ⟨v, σ', τ', ?_, ?_, r3, by rw [r4, u4, q5]⟩
        · show ms_T_fit_29 (ml_T_fit_29 f) (nI n) (nI d) σ = _
          unfold ms_T_fit_29
          rw [if_neg (nI_ge (by omega) (by omega)), hf', tb2_s, if_neg hne, tg_n hs4 (by decide), nI_clamp (by omega), e15, if_neg (nI_ne0 (by omega) (by omega)), q1', tb1_s, e3, u1, tb1_s, nI_1]
          exact r1
        · show ms_R_fit_46 (ml_R_fit_46 f) (nI n) (nI d) (nI s) τ = _
          unfold ms_R_fit_46
          rw [if_neg (nI_ge (by omega) (by omega)), if_neg hne, tg_n hs4 (by decide), nI_clamp (by omega), eV, if_neg (by
            rw [lg_cmp_le]
            show ¬ lN (qn σ 15 s) ≤ lN 0
            rw [pk_lLE (by omega) (by decide)]; omega), q2', tb1_s]
          simp only [e4, u2, tb1_s, w, tb2_s, nI_1]
          exact r2
theorem okp_fit : ok_fit Rel := by
  intro σ τ f p0 h
  obtain ⟨eP, hP⟩ := Bg_P h.1
  have eR : τ.1 4 = nI (qP σ) := by rw [h.2.1.2.2.2.1]; exact eP
  rcases nd_in p0 1 20 σ τ with ⟨a0, b0⟩ | ⟨l0, u0, a0, c0, b0⟩
  · exact op_fail (f := f) h (by simp only [lf_fit, mx_T_fit, a0, tx_s, lf2_1]) (by simp only [mf_R_fit, b0, tb2_s, ↓reduceIte, i10])
  by_cases h0 : qP σ = 0
  · have e1 : σ.1 3 = 0 := by rw [eP, h0]; rfl
    have e2 : τ.1 4 = 0 := by rw [eR, h0]; rfl
    exact op_fail2 (f := f) h (by simp only [lf_fit, mx_T_fit, a0, c0, tx_n, tb1_s, if_pos e1, lf2_2]) (by simp only [mf_R_fit, b0, tb2_s, ↓reduceIte, i1n, if_pos e2, i20])
  have e1 : ¬ σ.1 3 = 0 := by rw [eP]; exact nI_ne0 (by omega) (by omega)
  have e2 : ¬ τ.1 4 = 0 := by rw [eR]; exact nI_ne0 (by omega) (by omega)
  have l0' : ¬ p0 < 0 := by
    rw [Int32.lt_iff_toInt_lt] at *
    have v1 : (1 : Int32).toInt = 1 := rfl
    have v2 : (0 : Int32).toInt = 0 := rfl
    omega
  obtain ⟨n, hn, hp0⟩ := nd_nat (n := 20) rfl l0' u0
  subst hp0
  have w := worst_ok h.1 (Rf_F0 (v := 0) h.2)
  obtain ⟨v, σ', τ', r1, r2, r3, r4⟩ := fit_l hn (P := qP σ) (by omega) hP n 4096 0 σ (tF τ 0 0) (by omega) (by omega) ⟨h.1, Rf_F0 h.2⟩ eP
  have r1' : ml_T_fit_29 4096 (nI n) 0 σ = some (v, σ') := r1
  have r2' : ml_R_fit_46 4096 (nI n) 0 (wx (fa σ (qS σ))) (tF τ 0 0) = some (v, τ') := r2
  exact op_win (f := f) (v := v) (σ' := σ') (τ' := τ') (by simp only [lf_fit, mx_T_fit, mf_T_fit, a0, c0, tb1_s, tb2_s, tx_n, lf2_n, if_neg e1, r1']) (by simp only [mf_R_fit, b0, tb2_s, ↓reduceIte, i00, i1n, if_neg e2, w, r2']) (by rw [r4]; rfl) r3
/-! a new object -/
theorem pure_start : ∀ τ, sR_ok τ → Rel sC0 τ := by
  intro τ hτ
  obtain ⟨t1, t2, t3, t4, t5, t6⟩ := hτ
  have v : ∀ a, a ≠ 3 → a ≠ 5 → a ≠ 6 → a ≠ 11 → a ≠ 14 → sC0.2.1 a = fun _ => 0 := fun a h3 h5 h6 h11 h14 => by
    show (if a = 3 then (fun _ => (1 : Int32)) else if a = 5 then (fun _ => -1) else if a = 6 then (fun k => if k < 36 then 1000 else 0) else if a = 11 then (fun _ => 1) else if a = 14 then (fun _ => -1) else (fun _ => 0)) = _
    rw [if_neg h3, if_neg h5, if_neg h6, if_neg h11, if_neg h14]
  have v6 : ∀ k, sC0.2.1 6 k = if k < 36 then 1000 else 0 := fun _ => rfl
  refine ⟨⟨⟨⟨rfl, Nat.zero_le _⟩, ⟨rfl, Nat.zero_le _⟩, ⟨rfl, Nat.zero_le _⟩, ⟨rfl, Nat.zero_le _⟩, fun a k hk => ?_⟩, ⟨fun k _ => Or.inl rfl, fun k _ _ => rfl⟩, ⟨fun k _ => Or.inl rfl, fun k _ _ => rfl⟩, fun k _ => Nat.le_refl 1, ⟨fun k hk => absurd hk (Nat.not_lt_zero _), fun k hk => absurd hk (Nat.not_lt_zero _)⟩, fun i j _ _ _ => rfl⟩, ?_⟩
  · by_cases h3 : a = 3
    · subst h3; exact ⟨rfl, show (1 : Nat) ≤ 1000 by decide⟩
    by_cases h6 : a = 6
    · subst h6
      unfold qn
      rw [v6]
      split
      · exact ⟨rfl, show (1000 : Nat) ≤ 1000 from Nat.le_refl _⟩
      · exact ⟨rfl, Nat.zero_le _⟩
    by_cases h11 : a = 11
    · subst h11; exact ⟨rfl, show (1 : Nat) ≤ 1000000 by decide⟩
    have h5 : a ≠ 5 := fun e => by rw [e] at hk; exact absurd hk (by simp [bs])
    have h14 : a ≠ 14 := fun e => by rw [e] at hk; exact absurd hk (by simp [bs])
    unfold qn
    rw [v a h3 h5 h6 h11 h14]
    exact ⟨rfl, Nat.zero_le _⟩
  · refine ⟨⟨by rw [t1]; rfl, by rw [t1]; rfl, by rw [t1]; rfl, by rw [t1]; rfl, by rw [t1]; rfl⟩, fun a k hk => ?_, fun k hk => absurd hk (Nat.not_lt_zero _), fun k hk => absurd hk (Nat.not_lt_zero _), fun k hk => ?_, fun k hk => ?_⟩
    · by_cases h3 : a = 3
      · subst h3; exact t4 k hk
      by_cases h5 : a = 5
      · subst h5; exact t6 k hk
      by_cases h6 : a = 6
      · subst h6
        rw [v6]
        split
        · rename_i q; exact (t5 k).1 q
        · rename_i q; exact (t5 k).2 (by omega)
      have h11 : a ≠ 11 := fun e => by rw [e] at hk; exact absurd hk (by simp [rs])
      have h14 : a ≠ 14 := fun e => by rw [e] at hk; exact absurd hk (by simp [rs])
      rw [v a h3 h5 h6 h11 h14, t3 (rm a) (fun e => h3 (rm_inj (b := 3) e)) (fun e => h6 (rm_inj (b := 6) e)) (fun e => h5 (rm_inj (b := 5) e))]
    · rw [t3 9 (by decide) (by decide) (by decide), if_pos (Or.inl (show qS sC0 ≤ k from Nat.zero_le _))]
    · rw [t2]; rfl
theorem pure_ok : lOK Rel := ⟨okp_node, okp_zone, okp_street, okp_toll, okp_open, okp_weight, okp_size, okp_rounds, okp_trips, okp_sum, okp_factor, okp_pull, okp_chosen, okp_assign, okp_flow, okp_way, okp_least, okp_link, okp_gap, okp_count, okp_fit⟩
